/-! ===== WHAT THE PAPER MACHINE DOES, THE MACHINE DOES ===== -/
/-- script's address, the constants' row's address, first new address, classes and slots, classes of arrays -/
abbrev aG : Type := Nat × Nat × Nat × va_G × (Nat → ClassId)
def a_ad (G : aG) : Nat → Nat
  | 0 => G.1
  | 1 => G.2.1
  | k + 2 => G.2.2.1 + k
def a_rn (G : aG) (v : Value) : Value := match v with
  | .ref k => .ref (a_ad G k)
  | w => w
def a_cc (G : aG) (q : aE) : va_E := match q with
  | .inl (t, .inl l) => .inl (G.2.2.2.2 t, l.length, .inl (fun j => l.getD j 0))
  | .inl (t, .inr (.inl l)) => .inl (G.2.2.2.2 t, l.length, .inr (.inl (fun j => l.getD j 0)))
  | .inl (t, .inr (.inr l)) => .inl (G.2.2.2.2 t, l.length, .inr (.inr (.inr (.inr (fun j => (l.getD j none).map (a_ad G))))))
  | .inr (ci, fs) => .inr (ci, fs.map (a_rn G))
def a_ws (G : aG) (h : aH) : va_W := h.zipIdx.map (fun q => (G.2.2.1 + q.2, a_cc G q.1))
def a_tyl (G : aG) : List (ClassId × FieldType) := a_tys.zipIdx.map (fun q => (G.2.2.2.2 q.2, q.1))
def a_A (G : aG) : Nat → Prop := fun q => G.2.2.1 ≤ q
theorem a_ws_at (G : aG) (h : aH) (k : Nat) : (a_ws G h)[k]? = (h[k]?).map (fun c => (G.2.2.1 + k, a_cc G c)) := by
  simp only [a_ws, List.getElem?_map, List.getElem?_zipIdx]
  cases h[k]? <;> simp
theorem a_ws_of {G : aG} {h : aH} {k : Nat} {c : aE} (e : h[k]? = some c) : (a_ws G h)[k]? = some (G.2.2.1 + k, a_cc G c) := by
  rw [a_ws_at, e]; rfl
theorem a_ws_set (G : aG) (h : aH) (k : Nat) (c : aE) : (a_ws G h).set k (G.2.2.1 + k, a_cc G c) = a_ws G (h.set k c) := by
  apply List.ext_getElem?
  intro j
  rw [a_ws_at, List.getElem?_set, List.getElem?_set]
  by_cases hj : k = j
  · subst hj
    simp only [if_true, a_ws, List.length_map, List.length_zipIdx]
    by_cases hl : k < h.length <;> simp [hl]
  · simp only [if_neg hj]
    rw [a_ws_at]
theorem a_ws_app (G : aG) (h : aH) (c : aE) : a_ws G (h ++ [c]) = a_ws G h ++ [(G.2.2.1 + h.length, a_cc G c)] := by
  simp [a_ws, List.zipIdx_append]
theorem a_ws_len (G : aG) (h : aH) : (a_ws G h).length = h.length := by simp [a_ws]
theorem a_tyl_at {G : aG} {t : Nat} {ty : FieldType} (e : a_tys[t]? = some ty) : (a_tyl G)[t]? = some (G.2.2.2.2 t, ty) := by
  simp only [a_tyl, List.getElem?_map, List.getElem?_zipIdx, e]
  simp
theorem a_D (G : aG) (h : aH) : va_D (a_A G) (a_ws G h) := by
  refine ⟨fun i j x y hi hj e => ?_, fun k q hk => ?_⟩
  · rw [a_ws_at] at hi hj
    cases h1 : h[i]? with
    | none => rw [h1] at hi; cases hi
    | some c1 =>
      cases h2 : h[j]? with
      | none => rw [h2] at hj; cases hj
      | some c2 =>
        rw [h1] at hi; rw [h2] at hj
        cases hi; cases hj
        simp only at e
        omega
  · rw [a_ws_at] at hk
    cases h1 : h[k]? with
    | none => rw [h1] at hk; cases hk
    | some c1 => rw [h1] at hk; cases hk; exact Nat.le_add_right _ _
/-- the heap is the paper's -/
def a_hr (G : aG) (HA : Heap) (h : aH) (H : Heap) : Prop := H.size = G.2.2.1 + h.length ∧ HA.size = G.2.2.1 ∧ (∀ q : Nat, q < G.2.2.1 → H[q]? = HA[q]?) ∧ va_P G.2.2.2.1 vwCl (a_ws G h) H
/-- what the tables say of grids of longs -/
def a_AOA (U : State) : Prop := (Cond.arrayOver (.array .long)).before #[] U = true
theorem a_AOA.moved {u U : State} (hvm : u.vm.Alike U.vm) (h : a_AOA u) : a_AOA U := by
  obtain ⟨comp, c, k, h1, h2, h3, h4, h5⟩ := arrayOverA_spec h
  obtain ⟨k', hk', he⟩ := hvm.2.2 _ _ h3
  have hi : (U.vm.classes.findIdx? fun (x : Class) => match x.kind with | .array component _ => component == comp | _ => false) = some c := by
    rw [hvm.findIdx?_eq _ (fun _ => rfl)]
    exact h2
  have hkind : k'.kind = .array comp (.array .long) := by rw [he]; exact h4
  have f1 : U.vm.findClass (FieldType.array .long).toString = some comp := by rw [hvm.findClass]; exact h1
  have f2 : U.vm.findClass ("[" ++ (FieldType.array .long).toString) = some c := by rw [hvm.findClass]; exact h5
  unfold a_AOA Cond.before Cond.holds
  simp only [Cond.value]
  rw [f1, Option.bind_some]
  refine (congrArg (fun o : Option Nat => (o.bind (fun c => (U.vm.classes[c]?).map fun (k : Class) => match k.kind with | .array _ ty => decide (ty = FieldType.array .long) && decide (U.vm.findClass ("[" ++ (FieldType.array .long).toString) = some c) | _ => false) == some true)) hi).trans ?_
  simp [hk', hkind, f2]
/-- what is known of the tables, of the row of constants, of the script -/
def a_Kn (G : aG) (HA : Heap) (X : aX) (U : State) : Prop := va_K G.2.2.2.1 vwCl (a_tyl G) U ∧ (∀ w ∈ a_nest, va_Nw w U) ∧ (∀ C ∈ a_over, va_AO C U) ∧ a_AOA U ∧
  va_Z a_soC a_soN "[J" (.ref G.2.1) (a_A G) U HA ∧ va_T .long G.2.1 a_so.length (fun j => .long (a_so.getD j 0)) (a_A G) U HA ∧
  (∀ (L : Nat) (xs : Nat → Int32), X = some (L, xs) → va_X G.1 L xs U HA ∧ G.1 < HA.size) ∧
  (vx_Zq Bundle.tN "UNASSIGNED_STACK" Bundle.steD (a_A G) U HA ∧ vx_Zq Bundle.tN "SUPPRESSED_SENTINEL" Bundle.listD (a_A G) U HA ∧ ∀ q ∈ a_strs, ∃ sa, vk_R "OddsInCourt" q.1 q.2 sa U)
theorem a_nest_warm {s U : State} (hW : s.WarmedH U.vm) {w : Cond} (hw : a_isN w = true) (h : va_Nw w s) : va_Nw w U := by
  unfold a_isN at hw
  split at hw
  · exact va_Nw.warmF hW h
  · exact va_Nw.warmM hW h
  · exact va_Nw.warmC hW h
  · exact va_Nw.warmD hW h
  · cases hw
theorem a_Kn.warm {G : aG} {HA : Heap} {X : aX} {s U : State} (hW : s.WarmedH U.vm) (h : a_Kn G HA X s) : a_Kn G HA X U := by
  obtain ⟨h1, h2, h3, h7, h4, h5, h6, h8, h9, h10⟩ := h
  exact ⟨va_K.moved hW.alike h1, fun w hw => a_nest_warm hW (a_nest_ok w hw) (h2 w hw), fun C hC => va_AO.moved hW.alike (h3 C hC), h7.moved hW.alike, va_Z.moved hW.alike h4, va_T.moved hW.alike h5,
    fun L xs e => ⟨va_X.moved hW.alike (h6 L xs e).1, (h6 L xs e).2⟩, vx_Zq.moved hW.alike h8, vx_Zq.moved hW.alike h9, fun q hq => by obtain ⟨sa, h⟩ := h10 q hq; exact ⟨sa, vk_R.warm hW h⟩⟩
/-- a method's words: its code, and all that the tables say and keep -/
def a_wsM (M : aM) : List Cond := Cond.code M.1 M.2.1 M.2.2.1 M.2.2.2.1 :: a_good
theorem a_goodIn {M M' : aM} (h : Cond.code M'.1 M'.2.1 M'.2.2.1 M'.2.2.2.1 ∈ a_good) : GoodIn (a_wsM M) (a_wsM M') := by
  have hg : ∀ w ∈ a_good, w ∈ a_wsM M ∧ ((w.onTables && w.keeps) = true ∨ ∃ ty, w = .arrayClass ty) := fun w hw =>
    ⟨List.mem_cons_of_mem _ hw, good_of_word (List.mem_filter.mp hw).2⟩
  intro w hw
  rcases List.mem_cons.mp hw with e | hw
  · rw [e]; exact hg _ h
  · exact hg w hw
/-- what holds in a method's frame -/
def a_Fr (M : aM) (p : Program) (s : State) (m : MethodId) (args : Array Value) (meth : Method) (c : Code) : Prop :=
  p.tables.exec = Jvm.exec ∧ c.code = M.2.1 ∧ meth.sig.returnType = M.2.2.2.1 ∧ c.maxLocals = M.2.2.1 ∧ s.vm.findClass M.1.cls = some m.cls ∧ meth.locks = false ∧ meth.name = M.1.name ∧ (∀ w ∈ a_good, w.before args s = true) ∧ (∀ hh, Cond.codeWith M.1 M.2.1 M.2.2.1 M.2.2.2.1 hh ∈ a_good → c.exceptionTable.toList = tableOf hh)
/-- locals -/
def a_lv (G : aG) (ls : aL) : List (Nat × Value) := ls.zipIdx.filterMap (fun q => q.1.map (fun v => (q.2, a_rn G v)))
theorem a_lv_in {G : aG} {ls : aL} {i : Nat} {w : Value} : (i, w) ∈ a_lv G ls ↔ ∃ v, ls[i]? = some (some v) ∧ w = a_rn G v := by
  simp only [a_lv, List.mem_filterMap]
  constructor
  · rintro ⟨⟨o, j⟩, hm, e⟩
    rw [List.mk_mem_zipIdx_iff_getElem?] at hm
    cases o with
    | none => cases e
    | some v =>
      simp only [Option.map_some, Option.some.injEq, Prod.mk.injEq] at e
      obtain ⟨rfl, rfl⟩ := e
      exact ⟨v, hm, rfl⟩
  · rintro ⟨v, hv, rfl⟩
    exact ⟨(some v, i), by rw [List.mk_mem_zipIdx_iff_getElem?]; exact hv, rfl⟩
theorem a_lv_has {L : Array Slot} {n : Nat} {l l' : List (Nat × Value)} (h : lv_has L n l) (hs : ∀ q ∈ l', q ∈ l) : lv_has L n l' := ⟨h.1, h.2.1, fun q hq => h.2.2 q (hs q hq)⟩
theorem a_lv_at {G : aG} {ls : aL} {L : Array Slot} {n i : Nat} {v : Value} (h : lv_has L n (a_lv G ls)) (e : ls[i]? = some (some v)) : L[i]? = some (.val (a_rn G v)) := h.2.2 (i, a_rn G v) (a_lv_in.mpr ⟨v, e, rfl⟩)
theorem a_rn_cat (G : aG) (v : Value) : (a_rn G v).category = v.category := by cases v <;> rfl
theorem a_pre_at {ls : aL} {i j : Nat} {v : Value} (h : (a_pre ls i)[j]? = some (some v)) : ls[j]? = some (some v) ∧ ¬ (j + 1 = i ∧ v.category = 2) := by
  unfold a_pre at h
  split at h
  · exact ⟨h, fun q => by omega⟩
  · rename_i i'
    split at h
    · rename_i w hw
      split at h
      · rename_i hc
        rw [List.getElem?_set] at h
        split at h
        · split at h <;> cases h
        · rename_i hne
          exact ⟨h, fun q => hne (by omega)⟩
      · rename_i hc
        refine ⟨h, fun q => hc ?_⟩
        have : j = i' := by omega
        subst this
        rw [hw] at h
        cases h
        exact q.2
    · rename_i hno
      refine ⟨h, fun q => ?_⟩
      have : j = i' := by omega
      subst this
      exact hno v h
theorem a_pre_len (ls : aL) (i : Nat) : (a_pre ls i).length = ls.length := by
  unfold a_pre
  split
  · rfl
  · split
    · split <;> simp
    · rfl
theorem a_set1_len (ls : aL) (i : Nat) (v : Value) : (a_set1 ls i v).length = ls.length := by simp [a_set1, a_pre_len]
theorem a_set2_len (ls : aL) (i : Nat) (v : Value) : (a_set2 ls i v).length = ls.length := by simp [a_set2, a_pre_len]
/-- a store's locals -/
theorem a_lv_set1 {G : aG} {ls : aL} {L : Array Slot} {n i : Nat} {v : Value} (h : lv_has L n ((i, a_rn G v) :: (a_lv G ls).filter (fun q => !(q.1 == i) && !(q.1 + 1 == i && q.2.category == 2)))) : lv_has L n (a_lv G (a_set1 ls i v)) := by
  refine a_lv_has h fun q hq => ?_
  obtain ⟨j, w⟩ := q
  obtain ⟨u, hu, rfl⟩ := a_lv_in.mp hq
  unfold a_set1 at hu
  rw [List.getElem?_set] at hu
  by_cases hij : i = j
  · subst hij
    simp only [if_true] at hu
    split at hu
    · cases hu; exact List.mem_cons_self
    · cases hu
  · rw [if_neg hij] at hu
    obtain ⟨h1, h2⟩ := a_pre_at hu
    refine List.mem_cons_of_mem _ (List.mem_filter.mpr ⟨a_lv_in.mpr ⟨u, h1, rfl⟩, ?_⟩)
    simp only [a_rn_cat, Bool.and_eq_true, Bool.not_eq_true', beq_eq_false_iff_ne, ne_eq, Bool.and_eq_false_imp, beq_iff_eq]
    exact ⟨fun q => hij q.symm, fun q1 q2 => h2 ⟨q1, q2⟩⟩
theorem a_lv_set2 {G : aG} {ls : aL} {L : Array Slot} {n i : Nat} {v : Value} (h : lv_has L n ((i, a_rn G v) :: (a_lv G ls).filter (fun q => !(q.1 == i) && (!(q.1 == i + 1) && !(q.1 + 1 == i && q.2.category == 2))))) : lv_has L n (a_lv G (a_set2 ls i v)) := by
  refine a_lv_has h fun q hq => ?_
  obtain ⟨j, w⟩ := q
  obtain ⟨u, hu, rfl⟩ := a_lv_in.mp hq
  unfold a_set2 at hu
  rw [List.getElem?_set] at hu
  by_cases hj1 : i + 1 = j
  · rw [if_pos hj1] at hu
    split at hu <;> cases hu
  · rw [if_neg hj1, List.getElem?_set] at hu
    by_cases hij : i = j
    · subst hij
      simp only [if_true] at hu
      split at hu
      · cases hu; exact List.mem_cons_self
      · cases hu
    · rw [if_neg hij] at hu
      obtain ⟨h1, h2⟩ := a_pre_at hu
      refine List.mem_cons_of_mem _ (List.mem_filter.mpr ⟨a_lv_in.mpr ⟨u, h1, rfl⟩, ?_⟩)
      simp only [a_rn_cat, Bool.and_eq_true, Bool.not_eq_true', beq_eq_false_iff_ne, ne_eq, Bool.and_eq_false_imp, beq_iff_eq]
      exact ⟨fun q => hij q.symm, fun q => hj1 q.symm, fun q1 q2 => h2 ⟨q1, q2⟩⟩
theorem a_wd_rn (G : aG) (r : List Value) : ((r.map (a_rn G)).map fun v => v.category).sum = a_wd r := by
  simp only [a_wd, List.map_map]
  congr 1
  apply List.map_congr_left
  intro v _
  exact a_rn_cat G v
