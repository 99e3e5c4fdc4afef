section PT03
/-! ===== WHAT THE PAPER MACHINE DOES, THE MACHINE DOES ===== -/
/-- script's address, the constants' row's address, first new address, classes and slots, classes of arrays -/
abbrev aG : Type := Nat × Nat × Nat × va_G × (Nat → ClassId)
def a_ad (G : aG) : Nat → Nat
  | 0 => G.1
  | 1 => G.2.1
  | k + 2 => G.2.2.1 + k
def a_rn (G : aG) (v : Value) : Value := match v with
  | .ref k => .ref (a_ad G k)
  | w => w
def a_cc (G : aG) (q : aE) : va_E := match q with
  | .inl (t, .inl l) => .inl (G.2.2.2.2 t, l.length, .inl (fun j => l.getD j 0))
  | .inl (t, .inr (.inl l)) => .inl (G.2.2.2.2 t, l.length, .inr (.inl (fun j => l.getD j 0)))
  | .inl (t, .inr (.inr l)) => .inl (G.2.2.2.2 t, l.length, .inr (.inr (.inr (.inr (fun j => (l.getD j none).map (a_ad G))))))
  | .inr (ci, fs) => .inr (ci, fs.map (a_rn G))
def a_ws (G : aG) (h : aH) : va_W := h.zipIdx.map (fun q => (G.2.2.1 + q.2, a_cc G q.1))
def a_tyl (G : aG) : List (ClassId × FieldType) := a_tys.zipIdx.map (fun q => (G.2.2.2.2 q.2, q.1))
def a_A (G : aG) : Nat → Prop := fun q => G.2.2.1 ≤ q
theorem a_ws_at (G : aG) (h : aH) (k : Nat) : (a_ws G h)[k]? = (h[k]?).map (fun c => (G.2.2.1 + k, a_cc G c)) := by
  simp only [a_ws, List.getElem?_map, List.getElem?_zipIdx]
  cases h[k]? <;> simp
theorem a_ws_of {G : aG} {h : aH} {k : Nat} {c : aE} (e : h[k]? = some c) : (a_ws G h)[k]? = some (G.2.2.1 + k, a_cc G c) := by
  rw [a_ws_at, e]; rfl
theorem a_ws_set (G : aG) (h : aH) (k : Nat) (c : aE) : (a_ws G h).set k (G.2.2.1 + k, a_cc G c) = a_ws G (h.set k c) := by
  apply List.ext_getElem?
  intro j
  rw [a_ws_at, List.getElem?_set, List.getElem?_set]
  by_cases hj : k = j
  · subst hj
    simp only [if_true, a_ws, List.length_map, List.length_zipIdx]
    by_cases hl : k < h.length <;> simp [hl]
  · simp only [if_neg hj]
    rw [a_ws_at]
theorem a_ws_app (G : aG) (h : aH) (c : aE) : a_ws G (h ++ [c]) = a_ws G h ++ [(G.2.2.1 + h.length, a_cc G c)] := by
  simp [a_ws, List.zipIdx_append]
theorem a_ws_len (G : aG) (h : aH) : (a_ws G h).length = h.length := by simp [a_ws]
theorem a_tyl_at {G : aG} {t : Nat} {ty : FieldType} (e : a_tys[t]? = some ty) : (a_tyl G)[t]? = some (G.2.2.2.2 t, ty) := by
  simp only [a_tyl, List.getElem?_map, List.getElem?_zipIdx, e]
  simp
theorem a_D (G : aG) (h : aH) : va_D (a_A G) (a_ws G h) := by
  refine ⟨fun i j x y hi hj e => ?_, fun k q hk => ?_⟩
  · rw [a_ws_at] at hi hj
    cases h1 : h[i]? with
    | none => rw [h1] at hi; cases hi
    | some c1 =>
      cases h2 : h[j]? with
      | none => rw [h2] at hj; cases hj
      | some c2 =>
        rw [h1] at hi; rw [h2] at hj
        cases hi; cases hj
        simp only at e
        omega
  · rw [a_ws_at] at hk
    cases h1 : h[k]? with
    | none => rw [h1] at hk; cases hk
    | some c1 => rw [h1] at hk; cases hk; exact Nat.le_add_right _ _
/-- the heap is the paper's -/
def a_hr (G : aG) (HA : Heap) (h : aH) (H : Heap) : Prop := H.size = G.2.2.1 + h.length ∧ HA.size = G.2.2.1 ∧ (∀ q : Nat, q < G.2.2.1 → H[q]? = HA[q]?) ∧ va_P G.2.2.2.1 vwCl (a_ws G h) H
/-- what the tables say of grids of longs -/
def a_AOA (U : State) : Prop := (Cond.arrayOver (.array .long)).before #[] U = true
theorem a_AOA.moved {u U : State} (hvm : u.vm.Alike U.vm) (h : a_AOA u) : a_AOA U := by
  obtain ⟨comp, c, k, h1, h2, h3, h4, h5⟩ := arrayOverA_spec h
  obtain ⟨k', hk', he⟩ := hvm.2.2 _ _ h3
  have hi : (U.vm.classes.findIdx? fun (x : Class) => match x.kind with | .array component _ => component == comp | _ => false) = some c := by
    rw [hvm.findIdx?_eq _ (fun _ => rfl)]
    exact h2
  have hkind : k'.kind = .array comp (.array .long) := by rw [he]; exact h4
  have f1 : U.vm.findClass (FieldType.array .long).toString = some comp := by rw [hvm.findClass]; exact h1
  have f2 : U.vm.findClass ("[" ++ (FieldType.array .long).toString) = some c := by rw [hvm.findClass]; exact h5
  unfold a_AOA Cond.before Cond.holds
  simp only [Cond.value]
  rw [f1, Option.bind_some]
  refine (congrArg (fun o : Option Nat => (o.bind (fun c => (U.vm.classes[c]?).map fun (k : Class) => match k.kind with | .array _ ty => decide (ty = FieldType.array .long) && decide (U.vm.findClass ("[" ++ (FieldType.array .long).toString) = some c) | _ => false) == some true)) hi).trans ?_
  simp [hk', hkind, f2]
/-- what is known of the tables, of the row of constants, of the script -/
def a_Kn (G : aG) (HA : Heap) (X : aX) (U : State) : Prop := va_K G.2.2.2.1 vwCl (a_tyl G) U ∧ (∀ w ∈ a_nest, va_Nw w U) ∧ (∀ C ∈ a_over, va_AO C U) ∧ a_AOA U ∧
  va_Z a_soC a_soN "[J" (.ref G.2.1) (a_A G) U HA ∧ va_T .long G.2.1 a_so.length (fun j => .long (a_so.getD j 0)) (a_A G) U HA ∧
  (∀ (L : Nat) (xs : Nat → Int32), X = some (L, xs) → va_X G.1 L xs U HA ∧ G.1 < HA.size) ∧
  (vx_Zq Bundle.tN "UNASSIGNED_STACK" Bundle.steD (a_A G) U HA ∧ vx_Zq Bundle.tN "SUPPRESSED_SENTINEL" Bundle.listD (a_A G) U HA ∧ ∀ q ∈ a_strs, ∃ sa, vk_R "OddsInCourt" q.1 q.2 sa U)
theorem a_nest_warm {s U : State} (hW : s.WarmedH U.vm) {w : Cond} (hw : a_isN w = true) (h : va_Nw w s) : va_Nw w U := by
  unfold a_isN at hw
  split at hw
  · exact va_Nw.warmF hW h
  · exact va_Nw.warmM hW h
  · exact va_Nw.warmC hW h
  · exact va_Nw.warmD hW h
  · cases hw
theorem a_Kn.warm {G : aG} {HA : Heap} {X : aX} {s U : State} (hW : s.WarmedH U.vm) (h : a_Kn G HA X s) : a_Kn G HA X U := by
  obtain ⟨h1, h2, h3, h7, h4, h5, h6, h8, h9, h10⟩ := h
  exact ⟨va_K.moved hW.alike h1, fun w hw => a_nest_warm hW (a_nest_ok w hw) (h2 w hw), fun C hC => va_AO.moved hW.alike (h3 C hC), h7.moved hW.alike, va_Z.moved hW.alike h4, va_T.moved hW.alike h5,
    fun L xs e => ⟨va_X.moved hW.alike (h6 L xs e).1, (h6 L xs e).2⟩, vx_Zq.moved hW.alike h8, vx_Zq.moved hW.alike h9, fun q hq => by obtain ⟨sa, h⟩ := h10 q hq; exact ⟨sa, vk_R.warm hW h⟩⟩
/-- a method's words: its code, and all that the tables say and keep -/
def a_wsM (M : aM) : List Cond := Cond.code M.1 M.2.1 M.2.2.1 M.2.2.2.1 :: a_good
theorem a_goodIn {M M' : aM} (h : Cond.code M'.1 M'.2.1 M'.2.2.1 M'.2.2.2.1 ∈ a_good) : GoodIn (a_wsM M) (a_wsM M') := by
  have hg : ∀ w ∈ a_good, w ∈ a_wsM M ∧ ((w.onTables && w.keeps) = true ∨ ∃ ty, w = .arrayClass ty) := fun w hw =>
    ⟨List.mem_cons_of_mem _ hw, good_of_word (List.mem_filter.mp hw).2⟩
  intro w hw
  rcases List.mem_cons.mp hw with e | hw
  · rw [e]; exact hg _ h
  · exact hg w hw
/-- what holds in a method's frame -/
def a_Fr (M : aM) (p : Program) (s : State) (m : MethodId) (args : Array Value) (meth : Method) (c : Code) : Prop :=
  p.tables.exec = Jvm.exec ∧ c.code = M.2.1 ∧ meth.sig.returnType = M.2.2.2.1 ∧ c.maxLocals = M.2.2.1 ∧ s.vm.findClass M.1.cls = some m.cls ∧ meth.locks = false ∧ meth.name = M.1.name ∧ (∀ w ∈ a_good, w.before args s = true) ∧ (∀ hh, Cond.codeWith M.1 M.2.1 M.2.2.1 M.2.2.2.1 hh ∈ a_good → c.exceptionTable.toList = tableOf hh)
/-- locals -/
def a_lv (G : aG) (ls : aL) : List (Nat × Value) := ls.zipIdx.filterMap (fun q => q.1.map (fun v => (q.2, a_rn G v)))
theorem a_lv_in {G : aG} {ls : aL} {i : Nat} {w : Value} : (i, w) ∈ a_lv G ls ↔ ∃ v, ls[i]? = some (some v) ∧ w = a_rn G v := by
  simp only [a_lv, List.mem_filterMap]
  constructor
  · rintro ⟨⟨o, j⟩, hm, e⟩
    rw [List.mk_mem_zipIdx_iff_getElem?] at hm
    cases o with
    | none => cases e
    | some v =>
      simp only [Option.map_some, Option.some.injEq, Prod.mk.injEq] at e
      obtain ⟨rfl, rfl⟩ := e
      exact ⟨v, hm, rfl⟩
  · rintro ⟨v, hv, rfl⟩
    exact ⟨(some v, i), by rw [List.mk_mem_zipIdx_iff_getElem?]; exact hv, rfl⟩
theorem a_lv_has {L : Array Slot} {n : Nat} {l l' : List (Nat × Value)} (h : lv_has L n l) (hs : ∀ q ∈ l', q ∈ l) : lv_has L n l' := ⟨h.1, h.2.1, fun q hq => h.2.2 q (hs q hq)⟩
theorem a_lv_at {G : aG} {ls : aL} {L : Array Slot} {n i : Nat} {v : Value} (h : lv_has L n (a_lv G ls)) (e : ls[i]? = some (some v)) : L[i]? = some (.val (a_rn G v)) := h.2.2 (i, a_rn G v) (a_lv_in.mpr ⟨v, e, rfl⟩)
theorem a_rn_cat (G : aG) (v : Value) : (a_rn G v).category = v.category := by cases v <;> rfl
theorem a_pre_at {ls : aL} {i j : Nat} {v : Value} (h : (a_pre ls i)[j]? = some (some v)) : ls[j]? = some (some v) ∧ ¬ (j + 1 = i ∧ v.category = 2) := by
  unfold a_pre at h
  split at h
  · exact ⟨h, fun q => by omega⟩
  · rename_i i'
    split at h
    · rename_i w hw
      split at h
      · rename_i hc
        rw [List.getElem?_set] at h
        split at h
        · split at h <;> cases h
        · rename_i hne
          exact ⟨h, fun q => hne (by omega)⟩
      · rename_i hc
        refine ⟨h, fun q => hc ?_⟩
        have : j = i' := by omega
        subst this
        rw [hw] at h
        cases h
        exact q.2
    · rename_i hno
      refine ⟨h, fun q => ?_⟩
      have : j = i' := by omega
      subst this
      exact hno v h
theorem a_pre_len (ls : aL) (i : Nat) : (a_pre ls i).length = ls.length := by
  unfold a_pre
  split
  · rfl
  · split
    · split <;> simp
    · rfl
theorem a_set1_len (ls : aL) (i : Nat) (v : Value) : (a_set1 ls i v).length = ls.length := by simp [a_set1, a_pre_len]
theorem a_set2_len (ls : aL) (i : Nat) (v : Value) : (a_set2 ls i v).length = ls.length := by simp [a_set2, a_pre_len]
/-- a store's locals -/
theorem a_lv_set1 {G : aG} {ls : aL} {L : Array Slot} {n i : Nat} {v : Value} (h : lv_has L n ((i, a_rn G v) :: (a_lv G ls).filter (fun q => !(q.1 == i) && !(q.1 + 1 == i && q.2.category == 2)))) : lv_has L n (a_lv G (a_set1 ls i v)) := by
  refine a_lv_has h fun q hq => ?_
  obtain ⟨j, w⟩ := q
  obtain ⟨u, hu, rfl⟩ := a_lv_in.mp hq
  unfold a_set1 at hu
  rw [List.getElem?_set] at hu
  by_cases hij : i = j
  · subst hij
    simp only [if_true] at hu
    split at hu
    · cases hu; exact List.mem_cons_self
    · cases hu
  · rw [if_neg hij] at hu
    obtain ⟨h1, h2⟩ := a_pre_at hu
    refine List.mem_cons_of_mem _ (List.mem_filter.mpr ⟨a_lv_in.mpr ⟨u, h1, rfl⟩, ?_⟩)
    simp only [a_rn_cat, Bool.and_eq_true, Bool.not_eq_true', beq_eq_false_iff_ne, ne_eq, Bool.and_eq_false_imp, beq_iff_eq]
    exact ⟨fun q => hij q.symm, fun q1 q2 => h2 ⟨q1, q2⟩⟩
theorem a_lv_set2 {G : aG} {ls : aL} {L : Array Slot} {n i : Nat} {v : Value} (h : lv_has L n ((i, a_rn G v) :: (a_lv G ls).filter (fun q => !(q.1 == i) && (!(q.1 == i + 1) && !(q.1 + 1 == i && q.2.category == 2))))) : lv_has L n (a_lv G (a_set2 ls i v)) := by
  refine a_lv_has h fun q hq => ?_
  obtain ⟨j, w⟩ := q
  obtain ⟨u, hu, rfl⟩ := a_lv_in.mp hq
  unfold a_set2 at hu
  rw [List.getElem?_set] at hu
  by_cases hj1 : i + 1 = j
  · rw [if_pos hj1] at hu
    split at hu <;> cases hu
  · rw [if_neg hj1, List.getElem?_set] at hu
    by_cases hij : i = j
    · subst hij
      simp only [if_true] at hu
      split at hu
      · cases hu; exact List.mem_cons_self
      · cases hu
    · rw [if_neg hij] at hu
      obtain ⟨h1, h2⟩ := a_pre_at hu
      refine List.mem_cons_of_mem _ (List.mem_filter.mpr ⟨a_lv_in.mpr ⟨u, h1, rfl⟩, ?_⟩)
      simp only [a_rn_cat, Bool.and_eq_true, Bool.not_eq_true', beq_eq_false_iff_ne, ne_eq, Bool.and_eq_false_imp, beq_iff_eq]
      exact ⟨fun q => hij q.symm, fun q => hj1 q.symm, fun q1 q2 => h2 ⟨q1, q2⟩⟩
theorem a_wd_rn (G : aG) (r : List Value) : ((r.map (a_rn G)).map fun v => v.category).sum = a_wd r := by
  simp only [a_wd, List.map_map]
  congr 1
  apply List.map_congr_left
  intro v _
  exact a_rn_cat G v
end PT03
section PT04
/-! ===== instructions, one by one ===== -/
theorem a_ii_s {f : Int32 → Int32 → Int32} {st st' : List Value} (h : a_ii f st = some st') : ∃ x y r, st = .int y :: .int x :: r ∧ st' = .int (f x y) :: r := by
  unfold a_ii at h
  split at h
  · cases h; exact ⟨_, _, _, rfl, rfl⟩
  · cases h
theorem a_iin_s {f : Int32 → Int32 → Int32} {st st' : List Value} (h : a_iin f st = some st') : ∃ x y r, st = .int y :: .int x :: r ∧ st' = .int (f x y) :: r ∧ ¬ y = 0 := by
  unfold a_iin at h
  split at h
  · split at h
    · cases h
    · rename_i hy; cases h; exact ⟨_, _, _, rfl, rfl, hy⟩
  · cases h
theorem a_i_s {f : Int32 → Value} {st st' : List Value} (h : a_i f st = some st') : ∃ x r, st = .int x :: r ∧ st' = f x :: r := by
  unfold a_i at h
  split at h
  · cases h; exact ⟨_, _, rfl, rfl⟩
  · cases h
theorem a_ll_s {f : Int64 → Int64 → Value} {st st' : List Value} (h : a_ll f st = some st') : ∃ x y r, st = .long y :: .long x :: r ∧ st' = f x y :: r := by
  unfold a_ll at h
  split at h
  · cases h; exact ⟨_, _, _, rfl, rfl⟩
  · cases h
theorem a_lln_s {f : Int64 → Int64 → Int64} {st st' : List Value} (h : a_lln f st = some st') : ∃ x y r, st = .long y :: .long x :: r ∧ st' = .long (f x y) :: r ∧ ¬ y = 0 := by
  unfold a_lln at h
  split at h
  · split at h
    · cases h
    · rename_i hy; cases h; exact ⟨_, _, _, rfl, rfl, hy⟩
  · cases h
theorem a_l_s {f : Int64 → Value} {st st' : List Value} (h : a_l f st = some st') : ∃ x r, st = .long x :: r ∧ st' = f x :: r := by
  unfold a_l at h
  split at h
  · cases h; exact ⟨_, _, rfl, rfl⟩
  · cases h
theorem a_li_s {f : Int64 → Int32 → Int64} {st st' : List Value} (h : a_li f st = some st') : ∃ x y r, st = .int y :: .long x :: r ∧ st' = .long (f x y) :: r := by
  unfold a_li at h
  split at h
  · cases h; exact ⟨_, _, _, rfl, rfl⟩
  · cases h
theorem a_dup_s {st st' : List Value} (h : a_dup st = some st') : ∃ v r, st = v :: r ∧ st' = v :: v :: r ∧ v.category = 1 := by
  unfold a_dup at h
  split at h
  · split at h
    · rename_i hv; cases h; exact ⟨_, _, rfl, rfl, hv⟩
    · cases h
  · cases h
theorem a_pop_s {st st' : List Value} (h : a_pop st = some st') : ∃ v, st = v :: st' ∧ v.category = 1 := by
  unfold a_pop at h
  split at h
  · split at h
    · rename_i hv; cases h; exact ⟨_, rfl, hv⟩
    · cases h
  · cases h
theorem a_dup2_s {st st' : List Value} (h : a_dup2 st = some st') : ∃ v w r, st = v :: w :: r ∧ st' = v :: w :: v :: w :: r ∧ v.category = 1 ∧ w.category = 1 := by
  unfold a_dup2 at h
  split at h
  · split at h
    · rename_i hv; cases h; exact ⟨_, _, _, rfl, rfl, hv.1, hv.2⟩
    · cases h
  · cases h
/-- an instruction stands where the table says, and is linked as it says -/
def a_ok (Z : List aZ) (M : aM) (pc : Nat) (i : Instr) (len : Nat) (k : aK) : Prop := decode M.2.1 pc = .ok (i, len) ∧ a_ln i len = len ∧ a_lk Z M pc i k = true
section AST
variable {p : Program} {l : Launch} {e : Env} {R : Room} {s : State} {m : MethodId} {args : Array Value} {below : List Frame} {meth : Method} {c : Code} {H : Heap} {locs : List Loc} {cells slots : Nat} {Q : State → Prop}
variable {Z : List aZ} {M : aM} {G : aG} {pc len : Nat} {i : Instr} {k : aK} {L : Array Slot} {ls : aL}
set_option maxHeartbeats 2000000 in
theorem a_sim_stk (hF : a_Fr M p s m args meth c) (hok : a_ok Z M pc i len k) {st st' : List Value} (h : a_stk i k st = some st')
    (kk : W p l e R s m args below meth c H locs cells slots Q (F0 m (pc + len) L (st'.map (a_rn G)))) : W p l e R s m args below meth c H locs cells slots Q (F0 m pc L (st.map (a_rn G))) := by
  obtain ⟨hx, hb, hr, hml, hown, hlocks, hname, hts, -⟩ := hF
  obtain ⟨hd, hlen, hlk⟩ := hok
  rw [← hlen] at kk hd
  unfold a_stk at h
  split at h
  · cases h; exact lv_iconst hx hb hd rfl kk
  · cases h; exact lv_bipush hx hb hd rfl kk
  · cases h; exact lv_sipush hx hb hd rfl kk
  · cases h; exact lv_lconst hx hb hd rfl kk
  · split at h
    · rename_i hk
      cases h
      simp only [a_lk, hk, if_true] at hlk
      exact lv_ldc hx hb hown (hts _ (a_has_in hlk)) hd kk
    · cases h
  · split at h
    · rename_i hk
      cases h
      simp only [a_lk, hk, if_true] at hlk
      exact lv_ldcw hx hb hown (hts _ (a_has_in hlk)) hd kk
    · cases h
  · split at h
    · rename_i hk
      cases h
      simp only [a_lk, hk, if_true] at hlk
      exact lv_ldc2 hx hb hown (hts _ (a_has_in hlk)) hd kk
    · cases h
  · obtain ⟨x, y, r, rfl, rfl⟩ := a_ii_s h; exact lv_iadd hx hb hd kk
  · obtain ⟨x, y, r, rfl, rfl⟩ := a_ii_s h; exact lv_isub hx hb hd kk
  · obtain ⟨x, y, r, rfl, rfl⟩ := a_ii_s h; exact lv_imul hx hb hd kk
  · obtain ⟨x, y, r, rfl, rfl⟩ := a_ii_s h; exact lv_iand hx hb hd kk
  · obtain ⟨x, y, r, rfl, rfl⟩ := a_ii_s h; exact lv_ior hx hb hd kk
  · obtain ⟨x, y, r, rfl, rfl⟩ := a_ii_s h; exact lv_ixor hx hb hd kk
  · obtain ⟨x, y, r, rfl, rfl⟩ := a_ii_s h; exact lv_ishl hx hb hd kk
  · obtain ⟨x, y, r, rfl, rfl⟩ := a_ii_s h; exact lv_ishr hx hb hd kk
  · obtain ⟨x, y, r, rfl, rfl⟩ := a_ii_s h; exact lv_iushr hx hb hd rfl kk
  · obtain ⟨x, y, r, rfl, rfl, hy⟩ := a_iin_s h; exact lv_idiv hx hb hd hy kk
  · obtain ⟨x, y, r, rfl, rfl, hy⟩ := a_iin_s h; exact lv_irem hx hb hd hy kk
  · obtain ⟨x, r, rfl, rfl⟩ := a_i_s h; exact lv_ineg hx hb hd kk
  · obtain ⟨x, r, rfl, rfl⟩ := a_i_s h; exact lv_i2l hx hb hd rfl kk
  · obtain ⟨x, r, rfl, rfl⟩ := a_i_s h; exact lv_i2b hx hb hd rfl kk
  · obtain ⟨x, r, rfl, rfl⟩ := a_i_s h; exact lv_i2s hx hb hd rfl kk
  · obtain ⟨x, r, rfl, rfl⟩ := a_i_s h; exact lv_i2c hx hb hd rfl kk
  · obtain ⟨x, y, r, rfl, rfl⟩ := a_ll_s h; exact lv_ladd hx hb hd kk
  · obtain ⟨x, y, r, rfl, rfl⟩ := a_ll_s h; exact lv_lsub hx hb hd kk
  · obtain ⟨x, y, r, rfl, rfl⟩ := a_ll_s h; exact lv_lmul hx hb hd kk
  · obtain ⟨x, y, r, rfl, rfl⟩ := a_ll_s h; exact lv_land hx hb hd kk
  · obtain ⟨x, y, r, rfl, rfl⟩ := a_ll_s h; exact lv_lor hx hb hd kk
  · obtain ⟨x, y, r, rfl, rfl⟩ := a_ll_s h; exact lv_lxor hx hb hd kk
  · obtain ⟨x, y, r, rfl, rfl⟩ := a_ll_s h; exact W.lcmp hx hb hd kk
  · obtain ⟨x, y, r, rfl, rfl, hy⟩ := a_lln_s h; exact lv_ldiv hx hb hd hy kk
  · obtain ⟨x, y, r, rfl, rfl, hy⟩ := a_lln_s h; exact lv_lrem hx hb hd hy kk
  · obtain ⟨x, r, rfl, rfl⟩ := a_l_s h; exact lv_lneg hx hb hd kk
  · obtain ⟨x, r, rfl, rfl⟩ := a_l_s h; exact lv_l2i hx hb hd rfl kk
  · obtain ⟨x, y, r, rfl, rfl⟩ := a_li_s h; exact lv_lushr hx hb hd rfl kk
  · obtain ⟨v, r, rfl, rfl, hv⟩ := a_dup_s h; exact lv_dup hx hb hd (by rw [a_rn_cat]; exact hv) kk
  · obtain ⟨v, rfl, hv⟩ := a_pop_s h; exact lv_pop hx hb hd (by rw [a_rn_cat]; exact hv) kk
  · obtain ⟨v, w, r, rfl, rfl, hv, hw⟩ := a_dup2_s h; exact lv_dup2_11 hx hb hd (by rw [a_rn_cat]; exact hv) (by rw [a_rn_cat]; exact hw) kk
  · cases h
theorem a_ldi_s {n : Nat} {st : List Value} {q : aL × List Value} (h : a_ldi ls n st = some q) : ∃ x, ls[n]? = some (some (.int x)) ∧ q = (ls, .int x :: st) := by
  unfold a_ldi at h
  split at h
  · rename_i e; cases h; exact ⟨_, e, rfl⟩
  · cases h
theorem a_ldl_s {n : Nat} {st : List Value} {q : aL × List Value} (h : a_ldl ls n st = some q) : ∃ x, ls[n]? = some (some (.long x)) ∧ q = (ls, .long x :: st) := by
  unfold a_ldl at h
  split at h
  · rename_i e; cases h; exact ⟨_, e, rfl⟩
  · cases h
theorem a_lda_s {n : Nat} {st : List Value} {q : aL × List Value} (h : a_lda ls n st = some q) : ∃ x, ls[n]? = some (some (.ref x)) ∧ q = (ls, .ref x :: st) := by
  unfold a_lda at h
  split at h
  · rename_i e; cases h; exact ⟨_, e, rfl⟩
  · cases h
theorem a_sti_s {n : Nat} {st : List Value} {q : aL × List Value} (h : a_sti ls n st = some q) : ∃ x r, st = .int x :: r ∧ n < ls.length ∧ q = (a_set1 ls n (.int x), r) := by
  unfold a_sti at h
  split at h
  · split at h
    · rename_i e; cases h; exact ⟨_, _, rfl, e, rfl⟩
    · cases h
  · cases h
theorem a_stl_s {n : Nat} {st : List Value} {q : aL × List Value} (h : a_stl ls n st = some q) : ∃ x r, st = .long x :: r ∧ n + 1 < ls.length ∧ q = (a_set2 ls n (.long x), r) := by
  unfold a_stl at h
  split at h
  · split at h
    · rename_i e; cases h; exact ⟨_, _, rfl, e, rfl⟩
    · cases h
  · cases h
theorem a_sta_s {n : Nat} {st : List Value} {q : aL × List Value} (h : a_sta ls n st = some q) : ∃ x r, st = .ref x :: r ∧ n < ls.length ∧ q = (a_set1 ls n (.ref x), r) := by
  unfold a_sta at h
  split at h
  · split at h
    · rename_i e; cases h; exact ⟨_, _, rfl, e, rfl⟩
    · cases h
  · cases h
theorem a_inc_s {n : Nat} {z : Int} {st : List Value} {q : aL × List Value} (h : a_inc ls n z st = some q) : ∃ x, ls[n]? = some (some (.int x)) ∧ q = (a_set1 ls n (.int (x + Int32.ofInt z)), st) := by
  unfold a_inc at h
  split at h
  · rename_i e; cases h; exact ⟨_, e, rfl⟩
  · cases h
set_option maxHeartbeats 2000000 in
theorem a_sim_loc (hF : a_Fr M p s m args meth c) (hok : a_ok Z M pc i len k) {st st' : List Value} {ls' : aL} (h : a_loc i ls st = some (ls', st')) (hl : lv_has L M.2.2.1 (a_lv G ls)) (hll : ls.length = M.2.2.1)
    (kk : ∀ L' : Array Slot, lv_has L' M.2.2.1 (a_lv G ls') → ls'.length = M.2.2.1 → W p l e R s m args below meth c H locs cells slots Q (F0 m (pc + len) L' (st'.map (a_rn G)))) : W p l e R s m args below meth c H locs cells slots Q (F0 m pc L (st.map (a_rn G))) := by
  obtain ⟨hx, hb, hr, hml, hown, hlocks, hname, hts, -⟩ := hF
  obtain ⟨hd, hlen, hlk⟩ := hok
  rw [← hlen] at kk hd
  unfold a_loc at h
  split at h
  · obtain ⟨x, e, q⟩ := a_ldi_s h; cases q; exact lv_iload_n hx hb hd rfl (a_lv_at hl e) (kk L hl hll)
  · obtain ⟨x, e, q⟩ := a_ldi_s h; cases q; exact lv_iload hx hb hd (a_lv_at hl e) (kk L hl hll)
  · obtain ⟨x, e, q⟩ := a_ldl_s h; cases q; exact lv_lload_n hx hb hd rfl (a_lv_at hl e) (kk L hl hll)
  · obtain ⟨x, e, q⟩ := a_ldl_s h; cases q; exact lv_lload hx hb hd (a_lv_at hl e) (kk L hl hll)
  · obtain ⟨x, e, q⟩ := a_lda_s h; cases q; exact lv_aload_n hx hb hd rfl (a_lv_at hl e) (kk L hl hll)
  · obtain ⟨x, e, q⟩ := a_lda_s h; cases q; exact lv_aload hx hb hd (a_lv_at hl e) (kk L hl hll)
  · obtain ⟨x, r, rfl, e, q⟩ := a_sti_s h; cases q
    exact lv_istore_n hx hb hd rfl hl (by omega) rfl (fun L' h' => kk L' (a_lv_set1 (v := .int x) h') (by rw [a_set1_len]; exact hll))
  · obtain ⟨x, r, rfl, e, q⟩ := a_sti_s h; cases q
    exact lv_istore hx hb hd hl (by omega) rfl (fun L' h' => kk L' (a_lv_set1 (v := .int x) h') (by rw [a_set1_len]; exact hll))
  · obtain ⟨x, r, rfl, e, q⟩ := a_stl_s h; cases q
    exact lv_lstore_n hx hb hd rfl hl (by omega) rfl (fun L' h' => kk L' (a_lv_set2 (v := .long x) h') (by rw [a_set2_len]; exact hll))
  · obtain ⟨x, r, rfl, e, q⟩ := a_stl_s h; cases q
    exact lv_lstore hx hb hd hl (by omega) rfl (fun L' h' => kk L' (a_lv_set2 (v := .long x) h') (by rw [a_set2_len]; exact hll))
  · obtain ⟨x, r, rfl, e, q⟩ := a_sta_s h; cases q
    exact lv_astore_n hx hb hd rfl hl (by omega) rfl (fun L' h' => kk L' (a_lv_set1 (v := .ref x) h') (by rw [a_set1_len]; exact hll))
  · obtain ⟨x, r, rfl, e, q⟩ := a_sta_s h; cases q
    exact lv_astore hx hb hd hl (by omega) rfl (fun L' h' => kk L' (a_lv_set1 (v := .ref x) h') (by rw [a_set1_len]; exact hll))
  · rename_i n z
    obtain ⟨x, e, q⟩ := a_inc_s h; cases q
    obtain ⟨j, hj⟩ := List.getElem?_of_mem (a_lv_in.mpr ⟨_, e, rfl⟩ : (n, a_rn G (.int x)) ∈ a_lv G ls)
    have hn : n < ls.length := (List.getElem?_eq_some_iff.mp e).1
    exact lv_iinc hx hb hd hl hj rfl (by omega) rfl (fun L' h' => kk L' (a_lv_set1 (v := .int (x + Int32.ofInt z)) h') (by rw [a_set1_len]; exact hll))
  · cases h
theorem a_tgt_s {n : Nat} {o : Int} {t : Nat} (h : a_tgt n o = some t) : (n : Int) + o = (t : Int) := by
  unfold a_tgt at h
  split at h
  · cases h; omega
  · cases h
set_option maxHeartbeats 2000000 in
theorem a_sim_br (hF : a_Fr M p s m args meth c) (hok : a_ok Z M pc i len k) {st st' : List Value} {pc' : Nat} (h : a_br i k pc st = some (pc', st'))
    (kk : W p l e R s m args below meth c H locs cells slots Q (F0 m pc' L (st'.map (a_rn G)))) : W p l e R s m args below meth c H locs cells slots Q (F0 m pc L (st.map (a_rn G))) := by
  obtain ⟨hx, hb, hr, hml, hown, hlocks, hname, hts, -⟩ := hF
  obtain ⟨hd, hlen, hlk⟩ := hok
  rw [← hlen] at hd
  unfold a_br at h
  split at h
  · rename_i cd off
    split at h
    · rename_i x r
      have ht := of_decide_eq_true hlk
      cases h
      cases cd
      · exact lv_if_eq hx hb hd ht (fun q => by simpa [a_cnd, q] using kk) (fun q => by simpa [a_cnd, q] using kk)
      · exact lv_if_ne hx hb hd ht (fun q => by simpa [a_cnd, q] using kk) (fun q => by simpa [a_cnd, q] using kk)
      · exact lv_if_lt hx hb hd ht (fun q => by simpa only [a_cnd, q, decide_true, decide_false, if_true] using kk) (fun q => by simpa only [a_cnd, q, decide_true, decide_false, if_false, Bool.false_eq_true] using kk)
      · exact lv_if_ge hx hb hd ht (fun q => by simpa only [a_cnd, q, decide_true, decide_false, if_true] using kk) (fun q => by simpa only [a_cnd, q, decide_true, decide_false, if_false, Bool.false_eq_true] using kk)
      · exact lv_if_gt hx hb hd ht (fun q => by simpa only [a_cnd, q, decide_true, decide_false, if_true] using kk) (fun q => by simpa only [a_cnd, q, decide_true, decide_false, if_false, Bool.false_eq_true] using kk)
      · exact lv_if_le hx hb hd ht (fun q => by simpa only [a_cnd, q, decide_true, decide_false, if_true] using kk) (fun q => by simpa only [a_cnd, q, decide_true, decide_false, if_false, Bool.false_eq_true] using kk)
    · cases h
  · rename_i cd off
    split at h
    · rename_i y x r
      have ht := of_decide_eq_true hlk
      cases h
      cases cd
      · exact lv_icmp_eq hx hb hd ht (fun q => by simpa [a_cnd, q] using kk) (fun q => by simpa [a_cnd, q] using kk)
      · exact lv_icmp_ne hx hb hd ht (fun q => by simpa [a_cnd, q] using kk) (fun q => by simpa [a_cnd, q] using kk)
      · exact lv_icmp_lt hx hb hd ht (fun q => by simpa only [a_cnd, q, decide_true, decide_false, if_true] using kk) (fun q => by simpa only [a_cnd, q, decide_true, decide_false, if_false, Bool.false_eq_true] using kk)
      · exact lv_icmp_ge hx hb hd ht (fun q => by simpa only [a_cnd, q, decide_true, decide_false, if_true] using kk) (fun q => by simpa only [a_cnd, q, decide_true, decide_false, if_false, Bool.false_eq_true] using kk)
      · exact lv_icmp_gt hx hb hd ht (fun q => by simpa only [a_cnd, q, decide_true, decide_false, if_true] using kk) (fun q => by simpa only [a_cnd, q, decide_true, decide_false, if_false, Bool.false_eq_true] using kk)
      · exact lv_icmp_le hx hb hd ht (fun q => by simpa only [a_cnd, q, decide_true, decide_false, if_true] using kk) (fun q => by simpa only [a_cnd, q, decide_true, decide_false, if_false, Bool.false_eq_true] using kk)
    · cases h
  · cases h
    exact lv_goto hx hb hd (of_decide_eq_true hlk) kk
  · rename_i d lo hi offs
    split at h
    · rename_i x r
      split at h
      · rename_i hx'
        cases ht : a_tgt pc d with
        | none => rw [ht] at h; cases h
        | some t => rw [ht] at h; cases h; exact lv_tableOut hx hb hd hx' (a_tgt_s ht) kk
      · rename_i hx'
        split at h
        · rename_i o ho
          cases ht : a_tgt pc o with
          | none => rw [ht] at h; cases h
          | some t => rw [ht] at h; cases h; exact lv_tableIn hx hb hd (fun q => hx' (Or.inl q)) (fun q => hx' (Or.inr q)) ho (a_tgt_s ht) kk
        · cases h
    · cases h
  · cases h
end AST
end PT04
section PT05
/-! ===== instructions on the heap ===== -/
theorem a_fit_s {ty : FieldType} {v : Value} (h : a_fit ty v = true) (G : aG) : narrow ty (a_rn G v) = a_rn G v ∧ fits ty (a_rn G v) = true := by
  unfold a_fit at h
  split at h
  · exact ⟨rfl, rfl⟩
  · exact ⟨rfl, rfl⟩
  · simp only [Bool.and_eq_true, decide_eq_true_eq] at h; exact h
  · simp only [Bool.and_eq_true, decide_eq_true_eq] at h; exact h
  · exact ⟨rfl, rfl⟩
  · exact ⟨rfl, rfl⟩
  · cases h
theorem a_rn_map_at {G : aG} {fs : List Value} {n : Nat} {v : Value} (h : fs[n]? = some v) : (fs.map (a_rn G))[n]? = some (a_rn G v) := by rw [List.getElem?_map, h]; rfl
theorem a_rv_rn (G : aG) (x : Option Nat) : va_rf (x.map (a_ad G)) = a_rn G (a_rv x) := by cases x <;> rfl
theorem a_upd (l : List Int32) {j : Nat} (x : Int32) (hj : j < l.length) : upd (fun n => l.getD n 0) j x = fun n => (l.set j x).getD n 0 := by
  funext n
  simp only [upd, List.getD_eq_getElem?_getD, List.getElem?_set]
  by_cases h : n = j
  · subst h; simp [hj]
  · rw [if_neg h, if_neg (Ne.symm h)]
theorem a_updL (l : List Int64) {j : Nat} (x : Int64) (hj : j < l.length) : vp_updL (fun n => l.getD n 0) j x = fun n => (l.set j x).getD n 0 := by
  funext n
  simp only [vp_updL, List.getD_eq_getElem?_getD, List.getElem?_set]
  by_cases h : n = j
  · subst h; simp [hj]
  · rw [if_neg h, if_neg (Ne.symm h)]
theorem a_updQ (G : aG) (l : List (Option Nat)) {j : Nat} (x : Nat) (hj : j < l.length) : va_up (fun n => (l.getD n none).map (a_ad G)) j (some (a_ad G x)) = fun n => ((l.set j (some x)).getD n none).map (a_ad G) := by
  funext n
  simp only [va_up, List.getD_eq_getElem?_getD, List.getElem?_set]
  by_cases h : n = j
  · subst h; simp [hj]
  · rw [if_neg h, if_neg (Ne.symm h)]
/-- what a method's start says of the heap -/
def a_H0 (G : aG) (HA : Heap) (s : State) : Prop := G.2.2.1 ≤ s.heap.size ∧ ∀ q : Nat, q < G.2.2.1 → s.heap[q]? = HA[q]?
/-- the heap behind a store -/
theorem a_stored {G : aG} {HA : Heap} {h : aH} {H H1 : Heap} {o : Nat} {c0 c1 : aE} (hr : a_hr G HA h H) (e : h[o]? = some c0) (z : H1.size = H.size) (oq : ∀ q : Nat, q ≠ G.2.2.1 + o → H1[q]? = H[q]?) (hat : va_at G.2.2.2.1 vwCl (G.2.2.1 + o, a_cc G c1) H1) : a_hr G HA (h.set o c1) H1 := by
  refine ⟨by rw [z, List.length_set]; exact hr.1, hr.2.1, fun x hx => ?_, ?_⟩
  · rw [oq x (by omega)]
    exact hr.2.2.1 x hx
  · rw [← a_ws_set]
    exact hr.2.2.2.set (a_D G h) (a_ws_of e) hat oq
theorem a_S_put {G : aG} {H0 H H1 : Heap} {locs : List Loc} {o j : Nat} (hS : va_S (a_A G) H0 H locs) (z : H1.size = H.size) (oq : ∀ q : Nat, q ≠ G.2.2.1 + o → H1[q]? = H[q]?) : va_S (a_A G) H0 H1 (locs ++ [⟨G.2.2.1 + o, j⟩]) := hS.put z oq (Nat.le_add_right _ _)
/-- the heap behind a new cell -/
theorem a_pushed {G : aG} {HA : Heap} {h : aH} {H H1 : Heap} {c1 : aE} (hr : a_hr G HA h H) (z : H1.size = H.size + 1) (oq : ∀ q : Nat, q < H.size → H1[q]? = H[q]?) (hat : va_at G.2.2.2.1 vwCl (G.2.2.1 + h.length, a_cc G c1) H1) : a_hr G HA (h ++ [c1]) H1 := by
  refine ⟨by rw [z, List.length_append, hr.1]; rfl, hr.2.1, fun x hx => ?_, ?_⟩
  · rw [oq x (by rw [hr.1]; omega)]
    exact hr.2.2.1 x hx
  · rw [a_ws_app]
    refine (hr.2.2.2.kept (fun k q hk => oq q.1 ((hr.2.2.2 k q hk).lt))).app (fun k q hk => ?_)
    have hz : k < 1 := (List.getElem?_eq_some_iff.mp hk).1
    rw [show k = 0 by omega] at hk
    cases hk
    exact hat
theorem a_S_push {G : aG} {H0 H H1 : Heap} {locs : List Loc} (hS : va_S (a_A G) H0 H locs) (z : H1.size = H.size + 1) (oq : ∀ q : Nat, q < H.size → H1[q]? = H[q]?) : va_S (a_A G) H0 H1 locs :=
  ⟨by rw [z]; exact Nat.le_succ_of_le hS.1, fun q h1 h2 => (oq q (Nat.lt_of_lt_of_le h1 hS.1)).trans (hS.2.1 q h1 h2), hS.2.2⟩
section AHP
variable {p : Program} {l : Launch} {e : Env} {R : Room} {s : State} {m : MethodId} {args : Array Value} {below : List Frame} {meth : Method} {c : Code} {H : Heap} {locs : List Loc} {cells slots : Nat} {Q : State → Prop}
variable {Z : List aZ} {M : aM} {G : aG} {HA : Heap} {X : aX} {pc idx : Nat} {k : aK} {L : Array Slot} {h h' : aH} {st st' : List Value} {c1 s1 : Nat}
theorem a_sim_get (hF : a_Fr M p s m args meth c) (hK : a_Kn G HA X s) (hd : decode M.2.1 pc = .ok (.getfield idx, 3)) (hlk : a_lk Z M pc (.getfield idx) k = true) (hr : a_hr G HA h H) (hS : va_S (a_A G) s.heap H locs) (ho : a_get k st h = some (st', h', c1, s1))
    (kk : ∀ (H' : Heap) (locs' : List Loc), a_hr G HA h' H' → va_S (a_A G) s.heap H' locs' → W p l e R s m args below meth c H' locs' (cells + c1) (slots + s1) Q (F0 m (pc + 3) L (st'.map (a_rn G)))) : W p l e R s m args below meth c H locs cells slots Q (F0 m pc L (st.map (a_rn G))) := by
  obtain ⟨hx, hb, -, -, hown, -, -, hts, -⟩ := hF
  unfold a_get at ho
  split at ho
  · rename_i o r
    split at ho
    · rename_i ci fs hc
      split at ho
      · rename_i hci
        split at ho
        · rename_i v hv
          cases ho
          skip
          subst hci
          obtain ⟨C, T, N, hcl, hn, hl⟩ := a_lk_get hlk
          exact va_get (ci := k.2.1) (fs := fs.map (a_rn G)) hx hb hts (a_inC hcl) hown hK.1 hr.2.2.2 o (a_ws_of hc) hcl k.2.2.1 hn (hts _ hl) (fun _ h => h) (a_rn_map_at hv) hd (kk H locs hr hS)
        · cases ho
      · cases ho
    · cases ho
  · cases ho
theorem a_sim_put (hF : a_Fr M p s m args meth c) (hK : a_Kn G HA X s) (hd : decode M.2.1 pc = .ok (.putfield idx, 3)) (hlk : a_lk Z M pc (.putfield idx) k = true) (hr : a_hr G HA h H) (hS : va_S (a_A G) s.heap H locs) (ho : a_put k st h = some (st', h', c1, s1))
    (kk : ∀ (H' : Heap) (locs' : List Loc), a_hr G HA h' H' → va_S (a_A G) s.heap H' locs' → W p l e R s m args below meth c H' locs' (cells + c1) (slots + s1) Q (F0 m (pc + 3) L (st'.map (a_rn G)))) : W p l e R s m args below meth c H locs cells slots Q (F0 m pc L (st.map (a_rn G))) := by
  obtain ⟨hx, hb, -, -, hown, -, hname, hts, -⟩ := hF
  unfold a_put at ho
  split at ho
  · rename_i v o r
    split at ho
    · rename_i ci fs hc
      split at ho
      · rename_i hci
        split at ho
        · rename_i hkl
          split at ho
          · rename_i hfit
            cases ho
            skip
            subst hci
            obtain ⟨C, T, N, hcl, hn, hl⟩ := a_lk_put hlk
            obtain ⟨hn1, hf1⟩ := a_fit_s hfit G
            have hin := a_inC hcl
            have hty := a_ftyOK hcl
            have hap := va_apart (args := args) (own := C) hts hin _ hty (a_nm hcl) hK.1 hcl
            obtain ⟨r', h1, cell, q1, q2, q3, q4⟩ := hr.2.2.2 o _ (a_ws_of hc)
            have e' : r' = (C, T, N) := Option.some.inj (h1.symm.trans hcl)
            subst e'
            obtain ⟨hSl, hfc, kC, hkC, hkind⟩ := hK.1.1 k.2.1 _ hcl
            obtain ⟨cf, kf, fi, f, hi, hsl⟩ := hSl k.2.2.1 hn
            have hlay := hts _ (hin _ (u_in_lay hn))
            have hst := (u_facts hfc hkC (u_lays hts hin hn) hi).1
            have hat : ∀ H1 : Heap, H1[G.2.2.1 + o]? = some (cell.setSlot f.slot (a_rn G v)) → va_at G.2.2.2.1 vwCl (G.2.2.1 + o, a_cc G (.inr (k.2.1, fs.set k.2.2.1 v))) H1 := by
              intro H1 e1
              rw [hsl] at e1
              refine ⟨_, hcl, ?_⟩
              show t_OB (G.2.2.1 + o) _ _ _ H1 (vp_V ((fs.set k.2.2.1 v).map (a_rn G)))
              rw [List.map_set]
              exact t_OB.to (V := updV (vp_V (fs.map (a_rn G))) k.2.2.1 (a_rn G v)) ⟨_, e1, q2, q3, t_set q4 hap hn _⟩ (fun j _ => vp_updV_set (by rw [List.length_map]; exact hkl) _ j)
            rcases hl with ⟨hl, hfin⟩ | ⟨hl, hfin, hi0, ho0⟩
            · unfold u_lay at hlay
              rw [if_neg (by rw [hfin]; decide)] at hlay
              have h6 := u_store hfc hkC hkind hlay hi (hty _ hn) hn1 hf1
              exact W.putK hx hb (f := f) ⟨hown, hts _ hl, ⟨_, _, _, hi⟩, hst⟩ (by rw [q2]; exact h6) q1 q3 (by rw [hsl]; exact k2_hasslot (q4 _ hn)) rfl rfl hd fun H' e1 e2 e3 => kk H' _ (a_stored hr hc e2 e3 (hat H' e1)) (a_S_put hS e2 e3)
            · unfold u_lay at hlay
              rw [if_pos hfin] at hlay
              have hcf : m.cls = cf := by
                obtain ⟨_, _, c', _, _, _, -, -, hf', -, -, -, hown2, -⟩ := Cond.laysFinal_spec hlay
                have e1 : c' = cf := by have := hi.symm.trans hf'; simp at this; exact this.1.symm
                rw [ho0] at hown2
                rw [← e1]; exact Option.some.inj (hown.symm.trans hown2)
              have h6 := u_fits hfc hkC hkind (Or.inr hlay) hi (hty _ hn) hn1 hf1
              exact W.putFinK hx hb hown (hts _ hl) hi hst hcf (hname.trans hi0) (by rw [q2]; exact h6) q1 q3 (by rw [hsl]; exact k2_hasslot (q4 _ hn)) rfl rfl hd fun H' e1 e2 e3 => kk H' _ (a_stored hr hc e2 e3 (hat H' e1)) (a_S_put hS e2 e3)
          · cases ho
        · cases ho
      · cases ho
    · cases ho
  · cases ho
theorem a_ald_s {t : Nat} (ho : a_ald t st h = some (st', h', c1, s1)) : ∃ (j : Int32) (o : Nat) (v : List Int32) (r : List Value), st = .int j :: .ref (o + 2) :: r ∧ h[o]? = some (.inl (t, .inl v)) ∧ vp_in j v.length ∧ st' = .int (v.getD j.toNatClampNeg 0) :: r ∧ h' = h ∧ c1 = 0 ∧ s1 = 0 := by
  unfold a_ald at ho
  split at ho
  · split at ho
    · rename_i hc
      split at ho
      · rename_i ht
        split at ho
        · cases ho
        · rename_i hj
          cases ho
          subst ht
          exact ⟨_, _, _, _, rfl, hc, hj, rfl, rfl, rfl, rfl⟩
      · cases ho
    · cases ho
  · cases ho
theorem a_ast_s {t : Nat} (ho : a_ast t st h = some (st', h', c1, s1)) : ∃ (x j : Int32) (o : Nat) (v : List Int32) (r : List Value), st = .int x :: .int j :: .ref (o + 2) :: r ∧ h[o]? = some (.inl (t, .inl v)) ∧ vp_in j v.length ∧ st' = r ∧ h' = h.set o (.inl (t, .inl (v.set j.toNatClampNeg (a_nar t x)))) ∧ c1 = 0 ∧ s1 = 0 := by
  unfold a_ast at ho
  split at ho
  · split at ho
    · rename_i hc
      split at ho
      · rename_i ht
        split at ho
        · cases ho
        · rename_i hj
          cases ho
          subst ht
          exact ⟨_, _, _, _, _, rfl, hc, hj, rfl, rfl, rfl, rfl⟩
      · cases ho
    · cases ho
  · cases ho
theorem vp_in_lt {j : Int32} {n : Nat} (h : vp_in j n) : j.toNatClampNeg < n := Nat.not_le.mp fun q => h (Or.inr q)
theorem a_cell_i (cA : ClassId) (v : List Int32) {j : Nat} (x : Int32) (hj : j < v.length) : (vp_cell cA (v.length, .inl (fun n => v.getD n 0))).setSlot j (.int x) = vp_cell cA ((v.set j x).length, .inl (fun n => (v.set j x).getD n 0)) := by
  rw [vp_cell_i, vp_cell_i, arrV_store, List.length_set]
  refine congrArg (arrV cA v.length) (funext fun n => ?_)
  have e := congrFun (a_upd v x hj) n
  simp only [upd] at e
  by_cases q : n = j
  · rw [if_pos q] at e
    simp only [updV, if_pos q]
    rw [← e]
  · rw [if_neg q] at e
    simp only [updV, if_neg q]
    rw [← e]
theorem a_cell_l (cA : ClassId) (v : List Int64) {j : Nat} (x : Int64) (hj : j < v.length) : (vp_cell cA (v.length, .inr (.inl (fun n => v.getD n 0)))).setSlot j (.long x) = vp_cell cA ((v.set j x).length, .inr (.inl (fun n => (v.set j x).getD n 0))) := by
  rw [vp_cell_l, vp_cell_l, arrV_store, List.length_set]
  refine congrArg (arrV cA v.length) (funext fun n => ?_)
  have e := congrFun (a_updL v x hj) n
  simp only [vp_updL] at e
  by_cases q : n = j
  · rw [if_pos q] at e
    simp only [updV, if_pos q]
    rw [← e]
  · rw [if_neg q] at e
    simp only [updV, if_neg q]
    rw [← e]
theorem a_cell_q (G : aG) (cA : ClassId) (v : List (Option Nat)) {j : Nat} (x : Nat) (hj : j < v.length) : (vp_cell cA (v.length, .inr (.inr (.inr (.inr (fun n => (v.getD n none).map (a_ad G))))))).setSlot j (.ref (a_ad G x)) = vp_cell cA ((v.set j (some x)).length, .inr (.inr (.inr (.inr (fun n => ((v.set j (some x)).getD n none).map (a_ad G)))))) := by
  rw [vp_cell_q, vp_cell_q, arrV_store, List.length_set]
  refine congrArg (arrV cA v.length) (funext fun n => ?_)
  have e := congrFun (a_updQ G v x hj) n
  simp only [va_up] at e
  by_cases q : n = j
  · rw [if_pos q] at e
    simp only [updV, if_pos q]
    rw [← e]
    rfl
  · rw [if_neg q] at e
    simp only [updV, if_neg q]
    rw [← e]
theorem a_nar_2 (x : Int32) : narrow .boolean (.int x) = .int (a_nar 2 x) := rfl
theorem a_nar_3 (x : Int32) : narrow .char (.int x) = .int (a_nar 3 x) := rfl
theorem a_sim_ald (hF : a_Fr M p s m args meth c) (hK : a_Kn G HA X s) {i : Instr} (hi : i = .iaload ∨ i = .baload ∨ i = .caload) (hd : decode M.2.1 pc = .ok (i, 1)) (hr : a_hr G HA h H) (hS : va_S (a_A G) s.heap H locs) (ho : a_hp i k st h = some (st', h', c1, s1))
    (kk : ∀ (H' : Heap) (locs' : List Loc), a_hr G HA h' H' → va_S (a_A G) s.heap H' locs' → W p l e R s m args below meth c H' locs' (cells + c1) (slots + s1) Q (F0 m (pc + 1) L (st'.map (a_rn G)))) : W p l e R s m args below meth c H locs cells slots Q (F0 m pc L (st.map (a_rn G))) := by
  obtain ⟨hx, hb, -⟩ := hF
  rcases hi with rfl | rfl | rfl
  · obtain ⟨j, o, v, r, rfl, hc, hj, rfl, rfl, rfl, rfl⟩ := a_ald_s (t := 0) ho
    exact (va_iald hx hb hK.1 hr.2.2.2 o 0 (a_ws_of hc) (a_tyl_at a_ty0) hj hd (kk H locs hr hS))
  · obtain ⟨j, o, v, r, rfl, hc, hj, rfl, rfl, rfl, rfl⟩ := a_ald_s (t := 2) ho
    exact (va_zald hx hb hK.1 hr.2.2.2 o 2 (a_ws_of hc) (a_tyl_at a_ty2) hj hd (kk H locs hr hS))
  · obtain ⟨j, o, v, r, rfl, hc, hj, rfl, rfl, rfl, rfl⟩ := a_ald_s (t := 3) ho
    exact (va_cald hx hb hK.1 hr.2.2.2 o 3 (a_ws_of hc) (a_tyl_at a_ty3) hj hd (kk H locs hr hS))
theorem a_sim_ast (hF : a_Fr M p s m args meth c) (hK : a_Kn G HA X s) {i : Instr} (hi : i = .iastore ∨ i = .bastore ∨ i = .castore) (hd : decode M.2.1 pc = .ok (i, 1)) (hr : a_hr G HA h H) (hS : va_S (a_A G) s.heap H locs) (ho : a_hp i k st h = some (st', h', c1, s1))
    (kk : ∀ (H' : Heap) (locs' : List Loc), a_hr G HA h' H' → va_S (a_A G) s.heap H' locs' → W p l e R s m args below meth c H' locs' (cells + c1) (slots + s1) Q (F0 m (pc + 1) L (st'.map (a_rn G)))) : W p l e R s m args below meth c H locs cells slots Q (F0 m pc L (st.map (a_rn G))) := by
  obtain ⟨hx, hb, -⟩ := hF
  rcases hi with rfl | rfl | rfl
  · obtain ⟨x, j, o, v, r, rfl, hc, hj, rfl, rfl, rfl, rfl⟩ := a_ast_s (t := 0) ho
    refine W.iast hx hb (hr.2.2.2 o _ (a_ws_of hc)) ((hK.1.2 0 _ (a_tyl_at a_ty0)).1 v.length (fun n => .int (v.getD n 0))) (fun q => by cases q) (by show ¬ (_ ∨ (arrV _ _ _).slots.size ≤ _); rw [arrV_size]; exact hj) rfl rfl hd fun H' e1 z oq => kk H' _ (a_stored hr hc z oq ?_) (a_S_put hS z oq)
    show H'[_]? = some _
    rw [e1]
    exact congrArg some (a_cell_i _ v x (vp_in_lt hj))
  · obtain ⟨x, j, o, v, r, rfl, hc, hj, rfl, rfl, rfl, rfl⟩ := a_ast_s (t := 2) ho
    refine W.zast hx hb (hr.2.2.2 o _ (a_ws_of hc)) ((hK.1.2 2 _ (a_tyl_at a_ty2)).1 v.length (fun n => .int (v.getD n 0))) (fun q => by cases q) (by show ¬ (_ ∨ (arrV _ _ _).slots.size ≤ _); rw [arrV_size]; exact hj) rfl rfl hd fun H' e1 z oq => kk H' _ (a_stored hr hc z oq ?_) (a_S_put hS z oq)
    show H'[_]? = some _
    rw [e1]
    exact congrArg some (a_cell_i _ v (a_nar 2 x) (vp_in_lt hj))
  · obtain ⟨x, j, o, v, r, rfl, hc, hj, rfl, rfl, rfl, rfl⟩ := a_ast_s (t := 3) ho
    refine W.cast hx hb (hr.2.2.2 o _ (a_ws_of hc)) ((hK.1.2 3 _ (a_tyl_at a_ty3)).1 v.length (fun n => .int (v.getD n 0))) (fun q => by cases q) (by show ¬ (_ ∨ (arrV _ _ _).slots.size ≤ _); rw [arrV_size]; exact hj) rfl rfl hd fun H' e1 z oq => kk H' _ (a_stored hr hc z oq ?_) (a_S_put hS z oq)
    show H'[_]? = some _
    rw [e1]
    exact congrArg some (a_cell_i _ v (a_nar 3 x) (vp_in_lt hj))
theorem a_sim_lald (hF : a_Fr M p s m args meth c) (hK : a_Kn G HA X s) (hH : a_H0 G HA s) (hd : decode M.2.1 pc = .ok (.laload, 1)) (hr : a_hr G HA h H) (hS : va_S (a_A G) s.heap H locs) (ho : a_lald st h = some (st', h', c1, s1))
    (kk : ∀ (H' : Heap) (locs' : List Loc), a_hr G HA h' H' → va_S (a_A G) s.heap H' locs' → W p l e R s m args below meth c H' locs' (cells + c1) (slots + s1) Q (F0 m (pc + 1) L (st'.map (a_rn G)))) : W p l e R s m args below meth c H locs cells slots Q (F0 m pc L (st.map (a_rn G))) := by
  obtain ⟨hx, hb, -⟩ := hF
  unfold a_lald at ho
  split at ho
  · rename_i j o r
    split at ho
    · rename_i hc
      split at ho
      · rename_i ht
        split at ho
        · cases ho
        · rename_i hj
          cases ho
          subst ht
          exact (va_lald hx hb hK.1 hr.2.2.2 o 1 (a_ws_of hc) (a_tyl_at a_ty1) hj hd (kk H locs hr hS))
      · cases ho
    · cases ho
  · rename_i j r
    split at ho
    · cases ho
    · rename_i hj
      cases ho
      have hT : va_T .long G.2.1 a_so.length (fun j => .long (a_so.getD j 0)) (a_A G) s s.heap := hK.2.2.2.2.2.1.kept (fun a ha _ => hH.2 a (by rw [← hr.2.1]; exact ha))
      exact (va_tl hx hb hT hS hj rfl hd (kk H locs hr hS))
  · cases ho
theorem a_sim_last (hF : a_Fr M p s m args meth c) (hK : a_Kn G HA X s) (hd : decode M.2.1 pc = .ok (.lastore, 1)) (hr : a_hr G HA h H) (hS : va_S (a_A G) s.heap H locs) (ho : a_last st h = some (st', h', c1, s1))
    (kk : ∀ (H' : Heap) (locs' : List Loc), a_hr G HA h' H' → va_S (a_A G) s.heap H' locs' → W p l e R s m args below meth c H' locs' (cells + c1) (slots + s1) Q (F0 m (pc + 1) L (st'.map (a_rn G)))) : W p l e R s m args below meth c H locs cells slots Q (F0 m pc L (st.map (a_rn G))) := by
  obtain ⟨hx, hb, -⟩ := hF
  unfold a_last at ho
  split at ho
  · rename_i x j o r
    split at ho
    · rename_i t v hc
      split at ho
      · rename_i ht
        split at ho
        · cases ho
        · rename_i hj
          cases ho
          subst ht
          refine W.last hx hb (hr.2.2.2 o _ (a_ws_of hc)) ((hK.1.2 1 _ (a_tyl_at a_ty1)).1 v.length (fun n => .long (v.getD n 0))) (fun q => by cases q) (by show ¬ (_ ∨ (arrV _ _ _).slots.size ≤ _); rw [arrV_size]; exact hj) rfl rfl hd fun H' e1 z oq => kk H' _ (a_stored hr hc z oq ?_) (a_S_put hS z oq)
          show H'[_]? = some _
          rw [e1]
          exact congrArg some (a_cell_l _ v x (vp_in_lt hj))
      · cases ho
    · cases ho
  · cases ho
theorem a_sim_aald (hF : a_Fr M p s m args meth c) (hK : a_Kn G HA X s) (hd : decode M.2.1 pc = .ok (.aaload, 1)) (hr : a_hr G HA h H) (hS : va_S (a_A G) s.heap H locs) (ho : a_aald st h = some (st', h', c1, s1))
    (kk : ∀ (H' : Heap) (locs' : List Loc), a_hr G HA h' H' → va_S (a_A G) s.heap H' locs' → W p l e R s m args below meth c H' locs' (cells + c1) (slots + s1) Q (F0 m (pc + 1) L (st'.map (a_rn G)))) : W p l e R s m args below meth c H locs cells slots Q (F0 m pc L (st.map (a_rn G))) := by
  obtain ⟨hx, hb, -⟩ := hF
  unfold a_aald at ho
  split at ho
  · rename_i j o r
    split at ho
    · rename_i t v hc
      split at ho
      · rename_i ht
        split at ho
        · cases ho
        · rename_i hj
          cases ho
          skip
          obtain ⟨ty, hty, hrf⟩ := a_tyR ht.1 ht.2
          refine W.aald (v := a_rn G (a_rv (v.getD j.toNatClampNeg none))) (ty := ty) hx hb (hr.2.2.2 o _ (a_ws_of hc)) ((hK.1.2 t _ (a_tyl_at hty)).1 v.length (fun n => va_rf ((v.getD n none).map (a_ad G)))) hrf (fun q => by cases q) (by show ¬ (_ ∨ (arrV _ _ _).slots.size ≤ _); rw [arrV_size]; exact hj) ?_ rfl rfl hd (kk H locs hr hS)
          show (arrV _ _ _).slots[_]? = _
          rw [arrV_read _ _ (vp_in_lt hj), a_rv_rn]
      · cases ho
    · cases ho
  · cases ho
theorem a_sim_aast (hF : a_Fr M p s m args meth c) (hK : a_Kn G HA X s) (hd : decode M.2.1 pc = .ok (.aastore, 1)) (hr : a_hr G HA h H) (hS : va_S (a_A G) s.heap H locs) (ho : a_aast st h = some (st', h', c1, s1))
    (kk : ∀ (H' : Heap) (locs' : List Loc), a_hr G HA h' H' → va_S (a_A G) s.heap H' locs' → W p l e R s m args below meth c H' locs' (cells + c1) (slots + s1) Q (F0 m (pc + 1) L (st'.map (a_rn G)))) : W p l e R s m args below meth c H locs cells slots Q (F0 m pc L (st.map (a_rn G))) := by
  obtain ⟨hx, hb, -⟩ := hF
  unfold a_aast at ho
  split at ho
  · rename_i w j o r
    split at ho
    · rename_i t v ci vs hc hw
      split at ho
      · rename_i ht
        split at ho
        · cases ho
        · rename_i hj
          cases ho
          skip
          obtain ⟨C, T, N, hcl, hty⟩ := a_kindOK ht.2
          obtain ⟨r', hr', cellV, g1, g2, g3, -⟩ := hr.2.2.2 w _ (a_ws_of hw)
          have hcls := (hK.1.1 ci _ hcl).2
          obtain ⟨kA, comp, k1, k2, k3, -⟩ := (hK.1.2 t _ (a_tyl_at hty)).2
          have hcomp : comp = G.2.2.2.1.1 ci := Option.some.inj (k3.symm.trans hcls.1)
          subst hcomp
          obtain ⟨kC, hkC, -⟩ := hcls.2
          refine W.aast hx hb (v := G.2.2.1 + w) (hr.2.2.2 o _ (a_ws_of hc)) (fun q h => by cases h) (fun h => by cases h) k1 k2 rfl hkC ⟨fun q => hj (Or.inl q), by show _ < (arrV _ _ _).slots.size; rw [arrV_size]; exact vp_in_lt hj⟩ g1 (fun q h => by rw [g3] at h; cases h) (by rw [g2]; exact hkC) (by rw [g2]; exact va_assign hcls) rfl rfl hd fun H' e1 z oq => kk H' _ (a_stored hr hc z oq ?_) (a_S_put hS z oq)
          show H'[_]? = some _
          rw [e1]
          exact congrArg some (a_cell_q G _ v (w + 2) (vp_in_lt hj))
      · cases ho
    · cases ho
  · cases ho
theorem a_sim_len (hF : a_Fr M p s m args meth c) (hK : a_Kn G HA X s) (hH : a_H0 G HA s) (hd : decode M.2.1 pc = .ok (.arraylength, 1)) (hr : a_hr G HA h H) (hS : va_S (a_A G) s.heap H locs) (ho : a_len st h = some (st', h', c1, s1))
    (kk : ∀ (H' : Heap) (locs' : List Loc), a_hr G HA h' H' → va_S (a_A G) s.heap H' locs' → W p l e R s m args below meth c H' locs' (cells + c1) (slots + s1) Q (F0 m (pc + 1) L (st'.map (a_rn G)))) : W p l e R s m args below meth c H locs cells slots Q (F0 m pc L (st.map (a_rn G))) := by
  obtain ⟨hx, hb, -⟩ := hF
  unfold a_len at ho
  split at ho
  · rename_i o r
    split at ho
    · rename_i t v hc
      split at ho
      · rename_i ht
        cases ho
        exact (va_alen hx hb hK.1 hr.2.2.2 o t (a_ws_of hc) (a_tyl_at (List.getElem?_eq_getElem ht)) rfl hd (kk H locs hr hS))
      · cases ho
    · rename_i t v hc
      split at ho
      · rename_i ht
        cases ho
        exact (va_alen hx hb hK.1 hr.2.2.2 o t (a_ws_of hc) (a_tyl_at (List.getElem?_eq_getElem ht)) rfl hd (kk H locs hr hS))
      · cases ho
    · rename_i t v hc
      split at ho
      · rename_i ht
        cases ho
        exact (va_alen hx hb hK.1 hr.2.2.2 o t (a_ws_of hc) (a_tyl_at (List.getElem?_eq_getElem ht)) rfl hd (kk H locs hr hS))
      · cases ho
    · cases ho
  · cases ho
    have hT : va_T .long G.2.1 a_so.length (fun j => .long (a_so.getD j 0)) (a_A G) s s.heap := hK.2.2.2.2.2.1.kept (fun a ha _ => hH.2 a (by rw [← hr.2.1]; exact ha))
    exact (va_tlen hx hb hT hS rfl hd (kk H locs hr hS))
  · cases ho
theorem a_cl_le {n : Int32} {N : Nat} (h : n.toNatClampNeg ≤ N) (ty : FieldType) (hb : componentBytes ty ≤ 8) (hN : N ≤ 65536) : n.toNatClampNeg * componentBytes ty ≤ 536870912 := by
  have : n.toNatClampNeg * componentBytes ty ≤ 65536 * 8 := Nat.mul_le_mul (by omega) hb
  omega
theorem a_rep_i (n : Nat) : (fun j : Nat => Value.int ((List.replicate n (0 : Int32)).getD j 0)) = fun _ => .int 0 := by
  funext j
  simp only [List.getD_eq_getElem?_getD, List.getElem?_replicate]
  split <;> rfl
theorem a_rep_l (n : Nat) : (fun j : Nat => Value.long ((List.replicate n (0 : Int64)).getD j 0)) = fun _ => .long 0 := by
  funext j
  simp only [List.getD_eq_getElem?_getD, List.getElem?_replicate]
  split <;> rfl
theorem a_rep_q (G : aG) (n : Nat) : (fun j : Nat => va_rf (((List.replicate n (none : Option Nat)).getD j none).map (a_ad G))) = fun _ => .null := by
  funext j
  simp only [List.getD_eq_getElem?_getD, List.getElem?_replicate]
  split <;> rfl
theorem a_at_i {H1 : Heap} {a n : Nat} {cA : ClassId} (h : H1[a]? = some (arrV cA n (fun _ => .int 0))) : H1[a]? = some (vp_cell cA ((List.replicate n (0 : Int32)).length, .inl (fun j => (List.replicate n (0 : Int32)).getD j 0))) := by rw [vp_cell_i, List.length_replicate, a_rep_i]; exact h
theorem a_at_l {H1 : Heap} {a n : Nat} {cA : ClassId} (h : H1[a]? = some (arrV cA n (fun _ => .long 0))) : H1[a]? = some (vp_cell cA ((List.replicate n (0 : Int64)).length, .inr (.inl (fun j => (List.replicate n (0 : Int64)).getD j 0)))) := by rw [vp_cell_l, List.length_replicate, a_rep_l]; exact h
theorem a_at_q {G : aG} {H1 : Heap} {a n : Nat} {cA : ClassId} (h : H1[a]? = some (arrV cA n (fun _ => .null))) : H1[a]? = some (vp_cell cA ((List.replicate n (none : Option Nat)).length, .inr (.inr (.inr (.inr (fun j => ((List.replicate n (none : Option Nat)).getD j none).map (a_ad G))))))) := by rw [vp_cell_q, List.length_replicate, a_rep_q]; exact h
/-- a new row of numbers: its class is the one that is known -/
theorem a_arr_cls {U : State} {t : Nat} {ty : FieldType} {cA : ClassId} (hK : va_K G.2.2.2.1 vwCl (a_tyl G) U) (ht : a_tys[t]? = some ty) (hp : ty = .int ∨ ty = .long ∨ ty = .boolean ∨ ty = .char) (hc : U.vm.findClass ("[" ++ ty.toString) = some cA) : cA = G.2.2.2.2 t := by
  have h2 := (hK.2 t _ (a_tyl_at ht)).2
  rcases hp with rfl | rfl | rfl | rfl <;> exact Option.some.inj (hc.symm.trans h2)
theorem a_newa_s {ty : ArrayType} (ho : a_newa ty st h = some (st', h', c1, s1)) : ∃ (n : Int32) (r : List Value) (t : Nat) (q : aA), st = .int n :: r ∧ ¬ n < 0 ∧ n.toNatClampNeg ≤ 65536 ∧ st' = .ref (h.length + 2) :: r ∧ h' = h ++ [.inl (t, q)] ∧ c1 = 1 ∧ s1 = n.toNatClampNeg ∧
    a_tys[t]? = some (newarray.typeOf ty) ∧ (newarray.typeOf ty = .int ∨ newarray.typeOf ty = .long ∨ newarray.typeOf ty = .boolean ∨ newarray.typeOf ty = .char) ∧ componentBytes (newarray.typeOf ty) ≤ 8 ∧
    ∀ (G : aG) (cA : ClassId), cA = G.2.2.2.2 t → (a_cc G (.inl (t, q)) = .inl (cA, n.toNatClampNeg, match q with
      | .inl l => .inl (fun j => l.getD j 0)
      | .inr (.inl l) => .inr (.inl (fun j => l.getD j 0))
      | .inr (.inr l) => .inr (.inr (.inr (.inr (fun j => (l.getD j none).map (a_ad G)))))) ∧ ∀ H1 : Heap, H1[G.2.2.1 + h.length]? = some (arrV cA n.toNatClampNeg (fun _ => defaultValue (newarray.typeOf ty))) → va_at G.2.2.2.1 vwCl (G.2.2.1 + h.length, a_cc G (.inl (t, q))) H1) := by
  unfold a_newa at ho
  split at ho
  · rename_i n r
    split at ho
    · cases ho
    · rename_i hn
      have hn1 : ¬ n < 0 := fun q => hn (Or.inl q)
      have hn2 : n.toNatClampNeg ≤ 65536 := Nat.not_lt.mp fun q => hn (Or.inr q)
      split at ho
      · cases ho
        refine ⟨n, r, 0, _, rfl, hn1, hn2, rfl, rfl, rfl, rfl, a_ty0, Or.inl rfl, by decide, fun G cA e => ⟨by subst e; simp [a_cc], fun H1 e1 => ?_⟩⟩
        subst e
        exact a_at_i e1
      · cases ho
        refine ⟨n, r, 1, _, rfl, hn1, hn2, rfl, rfl, rfl, rfl, a_ty1, Or.inr (Or.inl rfl), by decide, fun G cA e => ⟨by subst e; simp [a_cc], fun H1 e1 => ?_⟩⟩
        subst e
        exact a_at_l e1
      · cases ho
        refine ⟨n, r, 2, _, rfl, hn1, hn2, rfl, rfl, rfl, rfl, a_ty2, Or.inr (Or.inr (Or.inl rfl)), by decide, fun G cA e => ⟨by subst e; simp [a_cc], fun H1 e1 => ?_⟩⟩
        subst e
        exact a_at_i e1
      · cases ho
        refine ⟨n, r, 3, _, rfl, hn1, hn2, rfl, rfl, rfl, rfl, a_ty3, Or.inr (Or.inr (Or.inr rfl)), by decide, fun G cA e => ⟨by subst e; simp [a_cc], fun H1 e1 => ?_⟩⟩
        subst e
        exact a_at_i e1
      · cases ho
  · cases ho
theorem a_sim_newa {ty : ArrayType} (hF : a_Fr M p s m args meth c) (hK : a_Kn G HA X s) (hd : decode M.2.1 pc = .ok (.newarray ty, 2)) (hlk : a_lk Z M pc (.newarray ty) k = true) (hr : a_hr G HA h H) (hS : va_S (a_A G) s.heap H locs) (ho : a_newa ty st h = some (st', h', c1, s1)) (hc1 : cells + c1 ≤ R.cells) (hs1 : slots + s1 ≤ R.slots)
    (kk : ∀ (H' : Heap) (locs' : List Loc), a_hr G HA h' H' → va_S (a_A G) s.heap H' locs' → W p l e R s m args below meth c H' locs' (cells + c1) (slots + s1) Q (F0 m (pc + 2) L (st'.map (a_rn G)))) : W p l e R s m args below meth c H locs cells slots Q (F0 m pc L (st.map (a_rn G))) := by
  obtain ⟨hx, hb, -, -, hown, -, -, hts, -⟩ := hF
  obtain ⟨n, r, t, q, rfl, hn, hn2, rfl, rfl, rfl, rfl, hty, hp, hcb, hcell⟩ := a_newa_s ho
  refine va_newaK hx hb (hts _ (a_has_in hlk)) rfl hd rfl hn rfl (a_cl_le hn2 _ hcb (Nat.le_refl _)) hc1 hs1 hr.1 fun H' cA e1 z1 o1 hAr hNm => ?_
  have hcA := a_arr_cls hK.1 hty hp hNm
  have z1' : H'.size = H.size + 1 := by rw [z1, hr.1]
  have o1' : ∀ q : Nat, q < H.size → H'[q]? = H[q]? := fun q hq => o1 q (by rw [← hr.1]; exact hq)
  exact kk H' locs (a_pushed hr z1' o1' ((hcell G cA hcA).2 H' e1)) (a_S_push hS z1' o1')
theorem a_sim_newq (hF : a_Fr M p s m args meth c) (hK : a_Kn G HA X s) (hk : k.1 = 12) (hd : decode M.2.1 pc = .ok (.anewarray idx, 3)) (hlk : a_lk Z M pc (.anewarray idx) k = true) (hr : a_hr G HA h H) (hS : va_S (a_A G) s.heap H locs) (ho : a_newq k st h = some (st', h', c1, s1)) (hc1 : cells + c1 ≤ R.cells) (hs1 : slots + s1 ≤ R.slots)
    (kk : ∀ (H' : Heap) (locs' : List Loc), a_hr G HA h' H' → va_S (a_A G) s.heap H' locs' → W p l e R s m args below meth c H' locs' (cells + c1) (slots + s1) Q (F0 m (pc + 3) L (st'.map (a_rn G)))) : W p l e R s m args below meth c H locs cells slots Q (F0 m pc L (st.map (a_rn G))) := by
  obtain ⟨hx, hb, -, -, hown, -, -, hts, -⟩ := hF
  unfold a_newq at ho
  split at ho
  · rename_i n r
    split at ho
    · cases ho
    · rename_i hn
      cases ho
      have hn1 : ¬ n < 0 := fun q => hn (Or.inl q)
      have hn2 : n.toNatClampNeg ≤ 65536 := Nat.not_lt.mp fun q => hn (Or.inr q)
      obtain ⟨C, hty, hl, hov⟩ := a_lk_newq hk hlk
      refine W.anew hx hb hown (hts _ hl) (va_AO.use (hK.2.2.1 C hov)) rfl hd rfl hn1 (by omega) hc1 hs1 fun cA kA comp f1 f2 f3 f4 => ?_
      have hcA : cA = G.2.2.2.2 k.2.1 := by
        obtain ⟨kA', comp', -, -, -, g4⟩ := (hK.1.2 k.2.1 _ (a_tyl_at hty)).2
        exact Option.some.inj (f1.symm.trans g4)
      generalize hH1 : H.push ({ cls := cA, slots := Array.replicate n.toNatClampNeg .null, vm := .none } : Cell) = H1
      have z1 : H1.size = H.size + 1 := by rw [← hH1, Array.size_push]
      have o1 : ∀ q : Nat, q < H.size → H1[q]? = H[q]? := fun q hq => by rw [← hH1, Array.getElem?_push, if_neg (Nat.ne_of_lt hq)]
      have e1 : H1[H.size]? = some (arrV cA n.toNatClampNeg (fun _ => .null)) := by rw [← hH1, Array.getElem?_push_size, ← arrV_new]
      have hz := hr.1
      rw [hz] at e1
      have := kk H1 locs (a_pushed hr z1 o1 (by
        subst hcA
        exact a_at_q e1)) (a_S_push hS z1 o1)
      rw [hz]
      exact this
  · cases ho
theorem a_sim_new (hF : a_Fr M p s m args meth c) (hK : a_Kn G HA X s) (hk : k.1 = 11) (hd : decode M.2.1 pc = .ok (.new idx, 3)) (hlk : a_lk Z M pc (.new idx) k = true) (hr : a_hr G HA h H) (hS : va_S (a_A G) s.heap H locs) (ho : a_new k st h = some (st', h', c1, s1)) (hc1 : cells + c1 ≤ R.cells) (hs1 : slots + s1 ≤ R.slots)
    (kk : ∀ (H' : Heap) (locs' : List Loc), a_hr G HA h' H' → va_S (a_A G) s.heap H' locs' → W p l e R s m args below meth c H' locs' (cells + c1) (slots + s1) Q (F0 m (pc + 3) L (st'.map (a_rn G)))) : W p l e R s m args below meth c H locs cells slots Q (F0 m pc L (st.map (a_rn G))) := by
  obtain ⟨hx, hb, -, -, hown, -, -, hts, -⟩ := hF
  obtain ⟨C, T, N, hcl, hN, hl, hins, hini⟩ := a_lk_new hk hlk
  unfold a_new at ho
  cases ho
  have hKn := hK.1.1 k.2.1 _ hcl
  rw [hN] at hs1 kk
  refine W.newcK hx hb hown (hts _ hl) (hts _ hins) (hts _ hini) rfl hd hc1 hs1 hKn.2.1 hr.1 fun H1 kC hkC e1 z1 o1 => ?_
  have z1' : H1.size = H.size + 1 := by rw [z1, hr.1]
  have o1' : ∀ q : Nat, q < H.size → H1[q]? = H[q]? := fun q hq => o1 q (by rw [← hr.1]; exact hq)
  refine kk H1 locs (a_pushed hr z1' o1' ⟨_, hcl, ?_⟩) (a_S_push hS z1' o1')
  refine (u_born (a_fty k.2.1) hts (a_inC hcl) hKn hkC e1 (a_ftyOK hcl)).to (fun j hj => ?_)
  show defaultValue (a_fty k.2.1 j) = vp_V (((List.range N).map (fun j => defaultValue (a_fty k.2.1 j))).map (a_rn G)) j
  have hj' : j < N := hj
  simp only [vp_V, List.getD_eq_getElem?_getD, List.getElem?_map, List.getElem?_range hj', Option.map_some, Option.getD_some]
  cases a_fty k.2.1 j <;> rfl
theorem a_sim_sta (hF : a_Fr M p s m args meth c) (hK : a_Kn G HA X s) (hH : a_H0 G HA s) (hk : k.1 = 14) (hd : decode M.2.1 pc = .ok (.getstatic idx, 3)) (hlk : a_lk Z M pc (.getstatic idx) k = true) (hr : a_hr G HA h H) (hS : va_S (a_A G) s.heap H locs)
    (kk : W p l e R s m args below meth c H locs cells slots Q (F0 m (pc + 3) L ((Value.ref 1 :: st).map (a_rn G)))) : W p l e R s m args below meth c H locs cells slots Q (F0 m pc L (st.map (a_rn G))) := by
  obtain ⟨hx, hb, -, -, hown, -, -, hts, -⟩ := hF
  have hZ : va_Z a_soC a_soN "[J" (.ref G.2.1) (a_A G) s s.heap := hK.2.2.2.2.1.kept (fun a ha _ => hH.2 a (by rw [← hr.2.1]; exact ha))
  exact va_gets hx hb hZ hS hown (hts _ (a_lk_sta hk hlk)) (fun _ h => h) hd kk
theorem a_sim_obj (hF : a_Fr M p s m args meth c) (hk : k.1 = 9) (hd : decode M.2.1 pc = .ok (.invokespecial idx, 3)) (hlk : a_lk Z M pc (.invokespecial idx) k = true) {o : Nat} {r : List Value} (hw : a_wd r ≤ 8) (hfr : 1 ≤ R.frames) (hlo : 200 ≤ R.locals) (hsz : L.size = M.2.2.1)
    (kk : W p l e R s m args below meth c H locs cells slots Q (F0 m (pc + 3) L (r.map (a_rn G)))) : W p l e R s m args below meth c H locs cells slots Q (F0 m pc L ((Value.ref o :: r).map (a_rn G))) := by
  obtain ⟨hx, hb, -, hml, hown, -, -, hts, -⟩ := hF
  obtain ⟨h1, h2, h3⟩ := a_lk_obj hk hlk
  refine W.objInit hx hb hown (hts _ h1) (hts _ h2) (hts _ h3) rfl (by rw [hml]; exact hsz) rfl hd hfr ?_ kk
  show 2 * 0 + ((r.map (a_rn G)).map fun v => v.category).sum + 12 ≤ _
  rw [a_wd_rn]
  omega
theorem a_cpy_len (f g : List Int32) (sp dp n : Nat) : (a_cpy f g sp dp n).length = g.length := by simp [a_cpy]
theorem a_cpy_fn (f g : List Int32) {sp dp n : Nat} (h : dp + n ≤ g.length) : va_cpy (fun j => f.getD j 0) (fun j => g.getD j 0) sp dp n = fun j => (a_cpy f g sp dp n).getD j 0 := by
  funext j
  simp only [va_cpy, a_cpy, List.getD_eq_getElem?_getD, List.getElem?_map]
  by_cases hj : j < g.length
  · rw [List.getElem?_range hj]
    simp only [Option.map_some, Option.getD_some]
  · rw [List.getElem?_eq_none (l := List.range g.length) (by rw [List.length_range]; omega), if_neg (by omega), List.getElem?_eq_none (l := g) (by omega)]
    rfl
theorem a_copy_s (ho : a_copy st h = some (st', h', c1, s1)) : ∃ (n dp sp : Int32) (d o t : Nat) (f g : List Int32) (r : List Value), st = .int n :: .int dp :: .ref (d + 2) :: .int sp :: .ref (o + 2) :: r ∧ h[o]? = some (.inl (t, .inl f)) ∧ h[d]? = some (.inl (t, .inl g)) ∧ (t = 0 ∨ t = 3) ∧ ¬ sp < 0 ∧ ¬ dp < 0 ∧ ¬ n < 0 ∧ sp.toNatClampNeg + n.toNatClampNeg ≤ f.length ∧ dp.toNatClampNeg + n.toNatClampNeg ≤ g.length ∧
    (t = 0 ∨ ∀ i, i < n.toNatClampNeg → fits .char (.int (f.getD (sp.toNatClampNeg + i) 0)) = true) ∧ st' = r ∧ h' = h.set d (.inl (t, .inl (a_cpy f g sp.toNatClampNeg dp.toNatClampNeg n.toNatClampNeg))) ∧ c1 = 0 ∧ s1 = 0 := by
  unfold a_copy at ho
  split at ho
  · split at ho
    · rename_i hc hd
      split at ho
      · rename_i ht
        split at ho
        · cases ho
        · rename_i hb
          split at ho
          · rename_i hfit
            cases ho
            obtain ⟨e, ht⟩ := ht
            subst e
            refine ⟨_, _, _, _, _, _, _, _, _, rfl, hc, hd, ht, fun q => hb (Or.inl q), fun q => hb (Or.inr (Or.inl q)), fun q => hb (Or.inr (Or.inr (Or.inl q))), Nat.not_lt.mp fun q => hb (Or.inr (Or.inr (Or.inr (Or.inl q)))), Nat.not_lt.mp fun q => hb (Or.inr (Or.inr (Or.inr (Or.inr q)))), ?_, rfl, rfl, rfl, rfl⟩
            rcases hfit with q | q
            · exact Or.inl q
            · exact Or.inr fun i hi => (List.all_eq_true.mp q) i (List.mem_range.mpr hi)
          · cases ho
      · cases ho
    · cases ho
  · cases ho
set_option maxHeartbeats 1000000 in
theorem a_sim_copy (hF : a_Fr M p s m args meth c) (hK : a_Kn G HA X s) (hk : k.1 = 10) (hd : decode M.2.1 pc = .ok (.invokestatic idx, 3)) (hlk : a_lk Z M pc (.invokestatic idx) k = true) (hr : a_hr G HA h H) (hS : va_S (a_A G) s.heap H locs) (hsz : L.size = M.2.2.1) (hfr : 1 ≤ R.frames) (hlo : 200 ≤ R.locals) (hw : a_wd (st.drop 5) ≤ 8) (ho : a_copy st h = some (st', h', c1, s1))
    (kk : ∀ (H' : Heap) (locs' : List Loc), a_hr G HA h' H' → va_S (a_A G) s.heap H' locs' → W p l e R s m args below meth c H' locs' (cells + c1) (slots + s1) Q (F0 m (pc + 3) L (st'.map (a_rn G)))) : W p l e R s m args below meth c H locs cells slots Q (F0 m pc L (st.map (a_rn G))) := by
  obtain ⟨hx, hb, -, hml, hown, -, -, hts, -⟩ := hF
  obtain ⟨l1, l2, l3, l4⟩ := a_lk_copy hk hlk
  obtain ⟨n, dp, sp, d, o, t, f, g, r, rfl, hc0, hc1, ht, h1, h2, h3, h4, h5, hfit, e1, rfl, rfl, rfl⟩ := a_copy_s ho
  subst e1
  skip
  obtain ⟨ty, hty, hprim, hfit'⟩ : ∃ ty, a_tys[t]? = some ty ∧ refKind ty = false ∧ ∀ i, i < n.toNatClampNeg → fits ty (.int (f.getD (sp.toNatClampNeg + i) 0)) = true := by
    rcases ht with rfl | rfl
    · exact ⟨_, a_ty0, rfl, fun _ _ => rfl⟩
    · refine ⟨_, a_ty3, rfl, ?_⟩
      rcases hfit with q | q
      · cases q
      · exact q
  have nn : ∀ z : Int32, ¬ z < 0 → z.toInt = (z.toNatClampNeg : Int) := by
    intro z hz
    have hz0 : (0 : Int) ≤ z.toInt := by
      have := Int32.not_lt.mp hz
      simpa using Int32.le_iff_toInt_le.mp this
    show z.toInt = ((z.toInt.toNat : Nat) : Int)
    omega
  intro T hT Y
  have hC0 : H[G.2.2.1 + o]? = some (vp_cell (G.2.2.2.2 t) (f.length, .inl (fun j => f.getD j 0))) := hr.2.2.2 o _ (a_ws_of hc0)
  have hC1 : H[G.2.2.1 + d]? = some (vp_cell (G.2.2.2.2 t) (g.length, .inl (fun j => g.getD j 0))) := hr.2.2.2 d _ (a_ws_of hc1)
  obtain ⟨-, k0, hk0, cm0, hkk0⟩ := (hK.1.2 t _ (a_tyl_at hty)).1 f.length (fun j => .int (f.getD j 0))
  obtain ⟨-, k1, hk1, cm1, hkk1⟩ := (hK.1.2 t _ (a_tyl_at hty)).1 g.length (fun j => .int (g.getD j 0))
  obtain ⟨vm', X', step⟩ := Y.arraycopy hx hown (hts _ l1) (hts _ l2) (hts _ l3) (hts _ l4) (src := G.2.2.1 + o) (dst := G.2.2.1 + d) (cs := vp_cell (G.2.2.2.2 t) (f.length, .inl (fun j => f.getD j 0))) (cd := vp_cell (G.2.2.2.2 t) (g.length, .inl (fun j => g.getD j 0))) (srcPos := sp) (destPos := dp) (n := n) (by rw [hT]; exact hC0) (by rw [hT]; exact hC1)
    (fun _ h => by cases h) (fun _ h => by cases h) (fun h => by cases h) (fun h => by cases h) hk0 hk1 hkk0 hkk1 (by simp [hprim]) h1 h2 h3
    (by rw [nn sp h1, nn n h3]; show ¬ _ > ((arrV _ f.length (fun j => .int (f.getD j 0))).slots.size : Int); rw [arrV_size]; omega)
    (by rw [nn dp h2, nn n h3]; show ¬ _ > ((arrV _ g.length (fun j => .int (g.getD j 0))).slots.size : Int); rw [arrV_size]; omega)
    (fun vm₁ _ i hi => by
      have e : (vp_cell (G.2.2.2.2 t) (f.length, .inl (fun j => f.getD j 0))).slots.getD (sp.toNatClampNeg + i) .null = .int (f.getD (sp.toNatClampNeg + i) 0) := by
        show (arrV _ f.length (fun j => .int (f.getD j 0))).slots.getD _ _ = _
        rw [Array.getD_eq_getD_getElem?, arrV_read _ _ (by omega)]
        rfl
      refine ⟨?_, ?_⟩
      · rw [e]
        exact hfit' i hi
      · rw [e]
        exact trivial)
    (g := F0 m pc L ((Value.int n :: .int dp :: .ref (d + 2) :: .int sp :: .ref (o + 2) :: st').map (a_rn G))) rfl (by rw [hml]; exact hsz) (rest := st'.map (a_rn G)) rfl (by rw [hb]; exact hd) hfr (by
      show 2 * 0 + ((st'.map (a_rn G)).map fun v => v.category).sum + _ ≤ _
      rw [a_wd_rn]
      have hw' : a_wd st' ≤ 8 := hw
      have hnf : nativeFrameWords "java/lang/System" "arraycopy" 5 + 11 ≤ 50 := by decide +kernel
      omega)
  have e1 : copied (vp_cell (G.2.2.2.2 t) (f.length, .inl (fun j => f.getD j 0))) (vp_cell (G.2.2.2.2 t) (g.length, .inl (fun j => g.getD j 0))) sp dp n = vp_cell (G.2.2.2.2 t) (g.length, .inl (va_cpy (fun j => f.getD j 0) (fun j => g.getD j 0) sp.toNatClampNeg dp.toNatClampNeg n.toNatClampNeg)) := va_copied (fun z => .int z) (G.2.2.2.2 t) (G.2.2.2.2 t) (n1 := g.length) (dp := dp.toNatClampNeg) (fun j => f.getD j 0) (fun j => g.getD j 0) h4
  rw [e1, a_cpy_fn f g h5] at X' step
  have hlt : G.2.2.1 + d < H.size := (Array.getElem?_eq_some_iff.mp hC1).1
  generalize hcw : vp_cell (G.2.2.2.2 t) (g.length, .inl (fun j => (a_cpy f g sp.toNatClampNeg dp.toNatClampNeg n.toNatClampNeg).getD j 0)) = cw at X' step
  have hheap : ((T.setVm vm').setCell (G.2.2.1 + d) cw).heap = H.setIfInBounds (G.2.2.1 + d) cw := by rw [← hT]; rfl
  have oq : ∀ q : Nat, q ≠ G.2.2.1 + d → (H.setIfInBounds (G.2.2.1 + d) cw)[q]? = H[q]? := fun q hq => by simp [Array.getElem?_setIfInBounds, Ne.symm hq]
  have z1 : (H.setIfInBounds (G.2.2.1 + d) cw).size = H.size := by simp
  obtain ⟨t', a1, b1⟩ := kk _ _ (a_stored hr hc1 z1 oq (by
      show (H.setIfInBounds _ _)[_]? = some (vp_cell _ (_, _))
      rw [a_cpy_len, hcw]
      simp [Array.getElem?_setIfInBounds, hlt])) ⟨by rw [z1]; exact hS.1, fun q g1 g2 => by
      rw [oq q (fun e => g2 (by rw [e]; exact Nat.le_add_right _ _))]
      exact hS.2.1 q g1 g2, fun q hq => by
      rcases List.mem_append.mp hq with h | h
      · exact hS.2.2 q h
      · obtain ⟨z, -, hz⟩ := List.mem_map.mp h
        rw [← hz]
        exact Nat.le_add_right _ _⟩ _ hheap X'
  exact ⟨t', step t' a1, b1⟩
theorem a_sim_scr (hF : a_Fr M p s m args meth c) (hK : a_Kn G HA X s) (hH : a_H0 G HA s) {i : Instr} {len : Nat} (hd : decode M.2.1 pc = .ok (i, a_ln i len)) (hr : a_hr G HA h H) (hS : va_S (a_A G) s.heap H locs) (ho : a_scr X i st = some st')
    (kk : W p l e R s m args below meth c H locs cells slots Q (F0 m (pc + a_ln i len) L (st'.map (a_rn G)))) : W p l e R s m args below meth c H locs cells slots Q (F0 m pc L (st.map (a_rn G))) := by
  obtain ⟨hx, hb, -⟩ := hF
  unfold a_scr at ho
  split at ho
  · rename_i Ln xs j r
    split at ho
    · cases ho
    · rename_i hj
      cases ho
      obtain ⟨hX, hbl⟩ := hK.2.2.2.2.2.2.1 Ln xs rfl
      have hbl' : G.1 < G.2.2.1 := by rw [← hr.2.1]; exact hbl
      exact va_sld hx hb (hX.kept (hH.2 _ hbl')) (Nat.lt_of_lt_of_le hbl' hH.1) (Nat.not_le.mpr hbl') hS hj hd kk
  · rename_i Ln xs r
    cases ho
    obtain ⟨hX, hbl⟩ := hK.2.2.2.2.2.2.1 Ln xs rfl
    have hbl' : G.1 < G.2.2.1 := by rw [← hr.2.1]; exact hbl
    exact va_slen hx hb (hX.kept (hH.2 _ hbl')) (Nat.lt_of_lt_of_le hbl' hH.1) (Nat.not_le.mpr hbl') hS hd kk
  · cases ho
theorem a_lk_newm {dims : Nat} (hk : k.1 = 13) (h : a_lk Z M pc (.multianewarray idx dims) k = true) : Cond.classLink M.1.cls idx "[[J" ∈ a_good ∧ k.2.1 = 6 ∧ dims = 2 := by
  simp only [a_lk, hk, if_true, Bool.and_eq_true, decide_eq_true_eq] at h
  exact ⟨a_has_in h.1.1, h.1.2, h.2⟩
theorem a_arrL : Cond.arrayClass .long ∈ a_good := a_has_in (j := a_plL) (by decide +kernel)
theorem a_outer (G : aG) (n c : Nat) (cA : ClassId) : vp_cell cA (n, .inr (.inr (.inr (.inr (fun i => if i < n then some (G.2.2.1 + c + 1 + i) else none))))) = vp_cell cA (((List.range n).map (fun j => some (c + 3 + j))).length, .inr (.inr (.inr (.inr (fun j => (((List.range n).map (fun j => some (c + 3 + j))).getD j none).map (a_ad G)))))) := by
  rw [List.length_map, List.length_range, vp_cell_q, vp_cell_q]
  refine congrArg (arrV cA n) (funext fun j => congrArg va_rf ?_)
  simp only [List.getD_eq_getElem?_getD, List.getElem?_map]
  by_cases hj : j < n
  · rw [if_pos hj, List.getElem?_range hj]
    simp only [Option.map_some, Option.getD_some]
    rw [show c + 3 + j = (c + 1 + j) + 2 by omega]
    show some _ = some (G.2.2.1 + (c + 1 + j))
    congr 1
    omega
  · rw [if_neg hj, List.getElem?_eq_none (l := List.range n) (by rw [List.length_range]; omega)]
    rfl
set_option maxHeartbeats 1000000 in
theorem a_sim_newm {dims : Nat} (hF : a_Fr M p s m args meth c) (hK : a_Kn G HA X s) (hk : k.1 = 13) (hd : decode M.2.1 pc = .ok (.multianewarray idx dims, 4)) (hlk : a_lk Z M pc (.multianewarray idx dims) k = true) (hr : a_hr G HA h H) (hS : va_S (a_A G) s.heap H locs) (ho : a_newm k st h = some (st', h', c1, s1)) (hc1 : cells + c1 ≤ R.cells) (hs1 : slots + s1 ≤ R.slots)
    (kk : ∀ (H' : Heap) (locs' : List Loc), a_hr G HA h' H' → va_S (a_A G) s.heap H' locs' → W p l e R s m args below meth c H' locs' (cells + c1) (slots + s1) Q (F0 m (pc + 4) L (st'.map (a_rn G)))) : W p l e R s m args below meth c H locs cells slots Q (F0 m pc L (st.map (a_rn G))) := by
  obtain ⟨hx, hb, -, -, hown, -, -, hts, -⟩ := hF
  obtain ⟨hcl, h6, rfl⟩ := a_lk_newm hk hlk
  unfold a_newm at ho
  split at ho
  · rename_i n2 n1 r
    split at ho
    · rename_i hn
      obtain ⟨rfl, rfl⟩ := hn
      cases ho
      intro T hT Xs
      obtain ⟨vm₁, cA, comp, -, fA, fC, -, -, X', step⟩ := Xs.multianewarray2F hx hown (ty := .long) (hts _ hcl) hK.2.2.2.1 (hts _ a_arrL) (g := F0 m pc L ((Value.int 16 :: .int 16 :: r).map (a_rn G))) rfl (by rw [hb]; exact hd) (n := 16) (k := 16) (rest := r.map (a_rn G)) rfl (by decide) (by decide) (by decide) (by decide) (by decide) rfl rfl hc1 hs1
      have hN : (16 : Int32).toNatClampNeg = 16 := by decide
      rw [hN] at X' step
      have hcA : cA = G.2.2.2.2 6 := Option.some.inj (fA.symm.trans (hK.1.2 6 _ (a_tyl_at a_ty6)).2)
      have hcC : comp = G.2.2.2.2 1 := Option.some.inj (fC.symm.trans (hK.1.2 1 _ (a_tyl_at a_ty1)).2)
      subst hcA; subst hcC
      generalize hFl : Jvm.Free.Multi.fill (T.setVm vm₁) (G.2.2.2.2 6) (G.2.2.2.2 1) 16 16 (defaultValue .long) 16 = F at X' step
      have hTh : (T.setVm vm₁).heap = H := hT
      obtain ⟨f1, f2, -, -⟩ := Jvm.Free.Multi.fill_facts (T.setVm vm₁) (G.2.2.2.2 6) (G.2.2.2.2 1) 16 16 (defaultValue .long) 16
      rw [hFl, hTh] at f1 f2
      have hold : ∀ x : Nat, x < H.size → F.heap[x]? = H[x]? := fun x hx => by
        have := Jvm.Free.Multi.fill_old (T.setVm vm₁) (G.2.2.2.2 6) (G.2.2.2.2 1) 16 16 (defaultValue .long) (a := x) (by rw [hTh]; exact hx) 16
        rw [hFl, hTh] at this
        exact this
      have hrow : ∀ j : Nat, j < 16 → F.heap[H.size + 1 + j]? = some (Jvm.Free.Multi.innerC (G.2.2.2.2 1) 16 (defaultValue .long)) := fun j hj => by
        have := Jvm.Free.Multi.fill_inner (T.setVm vm₁) (G.2.2.2.2 6) (G.2.2.2.2 1) 16 16 (defaultValue .long) 16 j hj
        rw [hFl, hTh] at this
        exact this
      have hout : Jvm.Free.Multi.outerC (G.2.2.2.2 6) 16 H.size 16 = vp_cell (G.2.2.2.2 6) (16, .inr (.inr (.inr (.inr (fun i => if i < 16 then some (G.2.2.1 + h.length + 1 + i) else none))))) := by
        rw [vp_cell_q, ← hr.1]
        exact vr_outer (G.2.2.2.2 6) 16 H.size 16
      rw [hout, a_outer] at f2
      have hz := hr.1
      have hnew : a_hr G HA (h ++ .inl (k.2.1, .inr (.inr ((List.range 16).map (fun j => some (h.length + 3 + j))))) :: List.replicate 16 (.inl (1, .inr (.inl (List.replicate 16 0))))) F.heap := by
        refine ⟨?_, hr.2.1, fun x hx => (hold x (by omega)).trans (hr.2.2.1 x hx), ?_⟩
        · rw [f1, hz]
          simp only [List.length_append, List.length_cons, List.length_replicate]
          omega
        · intro j q hq
          rw [a_ws_at] at hq
          rcases Nat.lt_trichotomy j h.length with hj | hj | hj
          · rw [List.getElem?_append_left hj, ← a_ws_at] at hq
            exact (hr.2.2.2 j q hq).kept (hold q.1 ((hr.2.2.2 j q hq).lt))
          · subst hj
            rw [List.getElem?_append_right (Nat.le_refl _), Nat.sub_self] at hq
            cases hq
            rw [h6]
            show F.heap[_]? = some (vp_cell _ _)
            rw [← hz]
            exact f2
          · rw [List.getElem?_append_right (by omega), show j - h.length = (j - h.length - 1) + 1 by omega, List.getElem?_cons_succ, List.getElem?_replicate] at hq
            split at hq
            · rename_i hj2
              cases hq
              show F.heap[_]? = some (vp_cell _ _)
              have := hrow (j - h.length - 1) hj2
              rw [hz, show G.2.2.1 + h.length + 1 + (j - h.length - 1) = G.2.2.1 + j by omega] at this
              rw [this, vp_cell_l, List.length_replicate, a_rep_l]
              show some (Cell.mk _ _ _ _ _) = _
              rw [← arrV_new]
              rfl
            · cases hq
      have hstk : (Value.ref T.heap.size :: r.map (a_rn G)) = (Value.ref (h.length + 2) :: r).map (a_rn G) := by
        rw [hT, hz]; rfl
      obtain ⟨t, a1, b1⟩ := kk F.heap locs hnew ⟨by rw [f1]; have := hS.1; omega, fun x g1 g2 => (hold x (Nat.lt_of_lt_of_le g1 hS.1)).trans (hS.2.1 x g1 g2), hS.2.2⟩ F rfl X'
      rw [hstk] at step
      exact ⟨t, step t a1, b1⟩
    · cases ho
  · cases ho
end AHP
end PT05
section PT05a
/-! ===== a throw whose first constructor calls on by an index of its own, with no traces: the kit has it with traces (ctorThrowOnSVX), or by index 7 (ctorThrowS) ===== -/
section ATX
variable {p : Program} {l : Launch} {e : Env} {R : Room} {s : State} {m₀ : MethodId} {args : Array Value} {below : List Frame} {meth : Method} {c : Code} {W : State} {locs : List Loc} {cells slots : Nat}
theorem a_selX {e : Env} {l : Launch} (ha : l.admits e) {cls : String} {cX : ClassId} {y : MethodName} {t : MethodId} (hc : s.vm.findClass cls = some cX) (ht : s.methodNamed? y = some t) (hy : y.cls ≠ "java/lang/invoke/MethodHandle" ∧ y.cls ≠ "java/lang/invoke/VarHandle") (hw : (Cond.selects cls y y).before args s = true) : selectMethod e.platform s.vm cX t = .method t := by
  obtain ⟨c2, r2, m2, q1, q2, q3, q4, -⟩ := Cond.selects_spec hw
  cases Option.some.inj (q1.symm.trans hc)
  cases Option.some.inj (q3.symm.trans ht)
  cases Option.some.inj (q2.symm.trans (State.methodFound?_of_named ht hy))
  rw [Launch.admits_selectMethod ha]; exact q4
set_option maxHeartbeats 1000000 in
theorem a_ctorThrow (X : Stand p l e R s m₀ args below meth c W locs cells slots) (hexec : p.tables.exec = Jvm.exec) (htr : e.platform.stackTraces = false) {own cls : String} {names : List String} {ic ix : Nat} {rx : ByteArray}
    (x0 : decode rx 0 = .ok (.aload_n 0, 1)) (x1 : decode rx 1 = .ok (.aload_n 1, 1)) (x2 : decode rx 2 = .ok (.invokespecial ix, 3)) (x5 : decode rx 5 = .ok (.return_, 1))
    (hown : s.vm.findClass own = some m₀.cls) (hcls : Bundle.fit cls = true) (hnames : ∀ n ∈ names, Bundle.fit n = true)
    (h : ∀ w ∈ Bundle.ownAtomsX own ic cls ix rx names, w.before args s = true)
    (hlocs : ∀ x ∈ locs, ∀ cell, s.heap[x.base]? = some cell → cell.vm.isStatics = false)
    {a : Addr} {cX : ClassId} {kX : Class} (hfX : s.vm.findClass cls = some cX) (hkX : s.vm.classes[cX]? = some kX) (hcell : W.heap[a]? = some (freshCell cX kX)) (hnew : s.heap.size ≤ a) {msg : Value} (hmsg : msg.isRef = true)
    {g : JFrame} (hg : g.method = m₀) (hsize : g.locals.size = c.maxLocals) (hlocked : g.locked = none) (hentered : g.entered = []) {rest : List Value} (hstack : g.stack = msg :: .ref a :: .ref a :: rest)
    (hd6 : decode c.code g.pc = .ok (.invokespecial ic, 3)) (hd9 : decode c.code (g.pc + 3) = .ok (.athrow, 1)) (hout : ∀ x ∈ c.exceptionTable.toList, covers x (g.pc + 3) = false)
    (hRf : names.length + 3 < R.frames) (hRl : 2 * g.monitorRoom + ((Value.ref a :: rest).map fun v => v.category).sum + (13 * (names.length + 1) + 42) ≤ R.locals) (hlocks : meth.locks = false) :
    ∃ U : State, Steps p.tables e below (W.setTop g) U ∧ U.status = .running ∧ Ended U below (.threw a) ∧ s.WarmedH U.vm ∧ s.sameButNew ({ U with vm := s.vm } : State) locs cells slots ∧
      ∃ ce, U.heap[a]? = some ce ∧ ce.vm = .none ∧ ce.cls = cX := by
  have P := X.admits.platform
  have hpl : e.platform.magicAccessors = ({} : Platform).magicAccessors := by rw [P]
  have hw : ∀ w, w ∈ Bundle.ownAtomsX own ic cls ix rx names → w.holds args s none s [] = true := fun w q => h w q
  obtain ⟨T, Z0, L, -, Y⟩ := ThrowableC.of_atoms (args := args) (by rw [P]) (by rw [P]) hpl (fun w q => h w (by simp [Bundle.ownAtomsX, q]))
  obtain ⟨Z, M, LZ, LM, hnZ⟩ := Init0T.ofS_atoms (args := args) hpl L Y (fun w q => h w (by simp [Bundle.ownAtomsX, q]))
  obtain ⟨P1, Ps, hlen, L1, hL, hP1, hk1, hks⟩ := Bundle.chainSX (args := args) hpl hnZ x0 x1 x2 x5 names cls hcls hnames (fun w q => h w (by simp [Bundle.ownAtomsX, q]))
  have hf1 : s.vm.findClass cls = some P1.m.cls := findClass_of_methodNamed hP1
  cases Option.some.inj (hfX.symm.trans hf1)
  obtain ⟨c1, k1, hc1, hk, hord, -, -, -⟩ := Cond.instantiable_spec (hw (.instantiable cls 6) (by simp [Bundle.ownAtomsX]))
  cases Option.some.inj (hc1.symm.trans hf1)
  cases Option.some.inj (hkX.symm.trans hk)
  have s0 := a_selX X.admits hf1 Y.fill0 (by decide) (hw (.selects cls Bundle.tFill0 Bundle.tFill0) (by simp [Bundle.ownAtomsX]))
  have s1 := a_selX X.admits hf1 Y.fill (by decide) (hw (.selects cls Bundle.tFill Bundle.tFill) (by simp [Bundle.ownAtomsX]))
  obtain ⟨z0, hz0, hz1⟩ := Y.statics
  obtain ⟨u0, hu0⟩ := Cond.staticRefV Y.unassigned L.unassignedStatic L.statics hz0 hz1 (hw (.isRef (.static Bundle.tN "UNASSIGNED_STACK" Bundle.steD)) (by simp [Bundle.ownAtomsX]))
  obtain ⟨u1, hu1⟩ := Cond.staticRefV Y.sentinel L.sentinelStatic L.statics hz0 hz1 (hw (.isRef (.static Bundle.tN "SUPPRESSED_SENTINEL" Bundle.listD)) (by simp [Bundle.ownAtomsX]))
  obtain ⟨b1, b2, fB, b3, b4, b5, b6, -, b7, b8, b9⟩ := Cond.ownField (t := .object "java/lang/Object") Y.found L.cls (by decide +kernel) (hw (.fieldLink Bundle.tN 198 Bundle.tN "backtrace" "Ljava/lang/Object;") (by simp [Bundle.ownAtomsX])) (hw (.lays Bundle.tN Bundle.tN "backtrace" "Ljava/lang/Object;") (by simp [Bundle.ownAtomsX])) e.platform hpl
  obtain ⟨zS, hzS, zv, -, hkeep⟩ := X.same.2.2.2.2.2 T.aS z0 hz0
  have hoff : ∀ i, (⟨T.aS, i⟩ : Loc) ∉ locs := fun i hi => by
    have q := hlocs _ hi z0 hz0
    rw [hz1] at q; cases q
  have hun : zS.vm ≠ .unknown := by
    rw [zv]; intro q
    rw [show z0.vm = .unknown from q] at hz1
    cases hz1
  have hne : T.aS ≠ a := Nat.ne_of_lt (Nat.lt_of_lt_of_le (Array.getElem?_eq_some_iff.mp hz0).1 hnew)
  obtain ⟨iM, hM⟩ := Y.msg
  obtain ⟨tC, dC, eC, nC⟩ := Cond.laysAt hf1 hk Y.cause (hw (.lays cls Bundle.tN "cause" "Ljava/lang/Throwable;") (by simp [Bundle.ownAtomsX]))
  obtain ⟨tS, dS, eS, nS⟩ := Cond.laysAt hf1 hk Y.stack (hw (.lays cls Bundle.tN "stackTrace" Bundle.steD) (by simp [Bundle.ownAtomsX]))
  obtain ⟨tP, dP, eP, nP⟩ := Cond.laysAt hf1 hk Y.supp (hw (.lays cls Bundle.tN "suppressedExceptions" Bundle.listD) (by simp [Bundle.ownAtomsX]))
  obtain ⟨tM, dM, eM, nM⟩ := Cond.laysAt hf1 hk hM (hw (.lays cls Bundle.tN "detailMessage" "Ljava/lang/String;") (by simp [Bundle.ownAtomsX]))
  obtain ⟨tB, dB, eB, nB⟩ := Cond.laysAt hf1 hk b9 (hw (.lays cls Bundle.tN "backtrace" "Ljava/lang/Object;") (by simp [Bundle.ownAtomsX]))
  have k1 := Cond.laysApart eB eC nB nC (by rw [b7, Y.causeName]; decide)
  have k2 := Cond.laysApart eB eS nB nS (by rw [b7, Y.stackName]; decide)
  have k3 := Cond.laysApart eB eP nB nP (by rw [b7, Y.suppName]; decide)
  have hskip : SkipFacts T e.platform s (fun u => u) u0 ((preparedCellV T.toThrowableT (freshCell P1.m.cls kX) a u0 u1).withEntry W.cur) :=
    ⟨{ ci198 := b1, i198 := b2, fBack := fB }, ⟨b3, b4, b5, b6⟩, by
      have q := fresh_default (c := P1.m.cls) tB
      rw [b8] at q
      simpa [preparedCellV, Cell.setSlot, Cell.withEntry, Array.getElem?_setIfInBounds, k1, k2, k3, k1.symm, k2.symm, k3.symm, defaultValue] using q, fun _ _ => rfl⟩
  obtain ⟨tm, -, -, -, vm₁, hnC, -, -, -, -, -, -, -, hW₁, st1⟩ := Steps.initColdS (tb := p.tables) (e := e) (below := below) (s := s) (U := W) X.here hexec X.warmed hpl hown (t := Bundle.initS cls) rfl rfl (Bundle.fit_spec hcls).2
    (hw (.methodLink own ic (Bundle.initS cls)) (by simp [Bundle.ownAtomsX])) (h (.instanceMethod (Bundle.initS cls)) (by cases names <;> simp [Bundle.ownAtomsX, Bundle.chainSAtomsX, Bundle.passSAtoms])) (bytes := rx) (maxL := 2) (h (.code (Bundle.initS cls) rx 2 none) (by cases names <;> simp [Bundle.ownAtomsX, Bundle.chainSAtomsX, Bundle.passSAtoms]))
    (f := g) hg (a := a) (msg := msg) (rest := .ref a :: rest) hstack hd6
  cases Option.some.inj (hnC.symm.trans hP1)
  obtain ⟨vm₂, X₂, st2⟩ := (X.noted hW₁).ctorMessageOffV hexec (g := { g with stack := .ref a :: rest }) hg hsize T L Z LZ M LM (P1 :: Ps)
    (fun Q hQ => by rcases List.mem_cons.mp hQ with rfl | hQ; exact L1; exact hL Q hQ) ⟨hk1, hks⟩ (u0 := u0) (sen := u1) (self := a) hmsg (cell := freshCell P1.m.cls kX) (cellS := zS)
    hcell (fun _ => by simp) (by simp) rfl rfl s0 s1 hzS hne hun (by rw [hkeep _ (hoff _)]; exact hu0) (by rw [hkeep _ (hoff _)]; exact hu1)
    (Takes.of_laid hk hord tC (by rw [Y.causeType]; rfl)) (Takes.of_laid hk hord tS (by rw [Y.stackType]; exact fits_refV_array _ u0)) (Takes.of_laid hk hord tP (by rw [Y.suppType]; exact fits_refV_object _ u1))
    (Takes.of_laid hk hord tM (by rw [Y.msgType]; exact fits_refV_object _ ⟨msg, hmsg⟩)) Y.objLocals hskip htr [] hd6
    (by simp only [List.length_cons, hlen]; omega) (by simp only [List.length_cons, hlen]; exact hRl)
  obtain ⟨r1, r2, r3, r4, r5⟩ := X₂.athrowLeaves hexec (g := { g with stack := .ref a :: rest, pc := g.pc + 3 }) hg hlocked hentered hout (a := a) (rest := rest) rfl hd9
  have hlt : a < ((W.setVm vm₁).setVm vm₂).heap.size := (Array.getElem?_eq_some_iff.mp hcell).1
  refine ⟨_, st1 _ (fun acts => ?_), r2, r3, r4, r5.weaken (fun y hy hlt' => ?_) (Nat.le_refl _) (Nat.le_refl _), _, heapAt_setCell_self (s := (W.setVm vm₁).setVm vm₂) (plainBareV T.toThrowableT (freshCell P1.m.cls kX) a u0 u1 msg) hlt, rfl, rfl⟩
  · rw [doInvoke_state]
    exact st2 _ r1
  · rcases List.mem_append.mp hy with q | q
    · exact q
    · exfalso
      have hb : y.base = a := by
        simp only [List.mem_cons, List.not_mem_nil, or_false] at q
        rcases q with rfl | rfl | rfl | rfl | rfl <;> rfl
      rw [hb] at hlt'
      exact Nat.not_lt.mpr hnew hlt'
end ATX
end PT05a
section PT05b
/-! ===== throws: the given row, with what is known of the heap behind it ===== -/
section ATH
variable {p : Program} {l : Launch} {e : Env} {R : Room} {s : State} {m : MethodId} {args : Array Value} {below : List Frame} {meth : Method} {c : Code} {H : Heap} {locs : List Loc} {cells slots : Nat} {Q : State → Prop}
variable {mc ms : Nat} {free : Addr → Prop} {A0 A1 : Nat → Prop} {H0 : Heap} {a : Array Value} {ls : Array Slot} {st0 rest : List Value}
variable {Qc : Array Value → State → Outcome → State → Prop} {XC : String → State → State → Prop}
theorem a_throwSW {cc : ByteArray} {pc : Nat} (hexec : p.tables.exec = Jvm.exec) (hb : c.code = cc) (hl : l.stackTraces = false) {own cls text : String} {names : List String} {ik is ic ix mc ms sa : Nat} {rx : ByteArray} {A : Nat → Prop}
    (x0 : decode rx 0 = .ok (.aload_n 0, 1)) (x1 : decode rx 1 = .ok (.aload_n 1, 1)) (x2 : decode rx 2 = .ok (.invokespecial ix, 3)) (x5 : decode rx 5 = .ok (.return_, 1))
    (hown : s.vm.findClass own = some m.cls) (hcls : Bundle.fit cls = true) (hnames : ∀ n ∈ names, Bundle.fit n = true)
    (hk : (Cond.classLink own ik cls).before args s = true) (hini : (Cond.initialized cls).before args s = true) (hstr : vk_R own is text sa s) (hat : ∀ w ∈ (Bundle.ownAtomsX own ic cls ix rx names).filter vx_no, w.before args s = true)
    (hgood : ∀ w ∈ Cond.classLink own ik cls :: Cond.initialized cls :: (Bundle.ownAtomsX own ic cls ix rx names).filter vx_no, vx_ot w = true)
    (hU : vx_Zq Bundle.tN "UNASSIGNED_STACK" Bundle.steD A s s.heap) (hN : vx_Zq Bundle.tN "SUPPRESSED_SENTINEL" Bundle.listD A s s.heap) (hS : va_S A s.heap H locs) (hsize : ls.size = c.maxLocals)
    (d0 : decode cc pc = .ok (.new ik, 3)) (d3 : decode cc (pc + 3) = .ok (.dup, 1)) (d4 : decode cc (pc + 4) = .ok (.ldc_w is, 3)) (d7 : decode cc (pc + 7) = .ok (.invokespecial ic, 3)) (d10 : decode cc (pc + 10) = .ok (.athrow, 1))
    (hout : ∀ x ∈ c.exceptionTable.toList, covers x (pc + 10) = false)
    (hRframes : names.length + 3 < R.frames) (hRlocals : (rest.map fun v => v.category).sum + (13 * (names.length + 1) + 43) ≤ R.locals) (hRcells : cells + 1 ≤ R.cells) (hRslots : slots + 6 ≤ R.slots) (hlocks : meth.locks = false)
    (hx : ∀ (t : State) (ce : Cell), s.vm.Alike t.vm → t.heap.size = H.size + 1 → t.heap[H.size]? = some ce → ce.vm = .none → s.vm.findClass cls = some ce.cls → (∀ q : Nat, q < H.size → t.heap[q]? = H[q]?) → XC cls s t)
    (hf : ∀ z ∈ locs, free z.base) (hc : cells + 1 ≤ mc) (hs : slots + 6 ≤ ms) :
    W p l e R s m args below meth c H locs cells slots (vx_MQ below Qc XC args s mc ms free) (F0 m pc ls rest) := by
  intro T hT X
  have htr : e.platform.stackTraces = false := (show e.platform.stackTraces = l.stackTraces by rw [X.admits.platform]).trans hl
  have Y := vx_rebase X (R' := { frames := R.frames, locals := R.locals, cells := 1, slots := 6 }) (Nat.le_refl _) (Nat.le_refl _) hRcells hRslots
  obtain ⟨s', hA⟩ : ∃ z, z = (T.setVm s.vm).setFrames (.invoking m args :: below) := ⟨_, rfl⟩
  rw [← hA] at Y
  have hvm : s'.vm = s.vm := by rw [hA]; rfl
  have hhp : s'.heap = H := by rw [hA]; exact hT
  have hW0 : s.WarmedH s'.vm := by rw [hvm]; exact State.WarmedH.refl s
  have hat' : ∀ w ∈ (Bundle.ownAtomsX own ic cls ix rx names).filter vx_no, w.before args s' = true := fun w hw => vx_ot_at hW0 hvm.symm (hgood w (List.mem_cons_of_mem _ (List.mem_cons_of_mem _ hw))) (hat w hw)
  have hk' : (Cond.classLink own ik cls).before args s' = true := vx_ot_at hW0 hvm.symm (hgood _ List.mem_cons_self) hk
  have hini' : (Cond.initialized cls).before args s' = true := vx_ot_at hW0 hvm.symm (hgood _ (List.mem_cons_of_mem _ List.mem_cons_self)) hini
  have hU' : vx_Zq Bundle.tN "UNASSIGNED_STACK" Bundle.steD A s' s'.heap := by rw [hhp]; exact vx_Zq.moved hW0.alike (hU.kept hS.2.1)
  have hN' : vx_Zq Bundle.tN "SUPPRESSED_SENTINEL" Bundle.listD A s' s'.heap := by rw [hhp]; exact vx_Zq.moved hW0.alike (hN.kept hS.2.1)
  have h : ∀ w ∈ Bundle.ownAtomsX own ic cls ix rx names, w.before args s' = true := vx_own hat' (vx_isRefq hU'.1) (vx_isRefq hN'.1) hU'.2.word hN'.2.word
  have hown' : s'.vm.findClass own = some m.cls := by rw [hvm]; exact hown
  have hins : (Cond.instantiable cls 6).before args s' = true := h _ (by simp [Bundle.ownAtomsX])
  obtain ⟨vm₁, cX, kX, hfX, hkX, -, -, X₁, st1⟩ := Y.newCold hexec (own := own) (C := cls) (index := ik) (n := 6) hown' hk' hins hini'
    (g := F0 m pc ls rest) rfl (by rw [hb]; exact d0) (Nat.le_refl _) (Nat.le_refl _)
  generalize hT1 : (T.setVm vm₁).pushCell { cls := cX, slots := kX.instanceTypes.map defaultValue, vm := .none } = T1 at X₁ st1
  have hcat : (Value.ref T.heap.size).category = 1 := rfl
  have hcellA : T1.heap[T.heap.size]? = some (freshCell cX kX) := by rw [← hT1]; exact State.heap_pushCell_size _ _
  have d3' : decode c.code (pc + 3) = .ok (.dup, 1) := by rw [hb]; exact d3
  have d4' : decode c.code (pc + 4) = .ok (.ldc_w is, 3) := by rw [hb]; exact d4
  have hstr' : vk_R own is text sa s' := vk_R.warm hW0 hstr
  obtain ⟨U, hsteps, hrun, hend, hW, hsame, ce, hce, hOv, hOc⟩ := a_ctorThrow X₁ hexec htr (own := own) (cls := cls) (names := names) (ic := ic) x0 x1 x2 x5 hown' hcls hnames h (fun x hx => nomatch hx) hfX hkX hcellA (by rw [hhp, hT]; exact Nat.le_refl _) (msg := .ref sa) rfl
    (g := { method := m, pc := pc + 7, locals := ls, stack := .ref sa :: .ref T.heap.size :: .ref T.heap.size :: rest, locked := none }) rfl hsize rfl rfl (rest := rest) rfl
    (by rw [hb]; exact d7) (by rw [hb]; exact d10) hout hRframes (by simp only [List.map_cons, List.sum_cons, hcat]; omega) hlocks
  obtain ⟨f1, f2⟩ := vx_frame hsame
  rw [hhp] at f1 f2
  have hWs : s.WarmedH U.vm := State.WarmedH.trans hW0 hW
  have hzz : U.heap.size = H.size + 1 := by
    have h9 : U.heap.size ≤ s'.heap.size + (0 + 1) := hsame.2.2.1
    rw [hhp] at h9
    have h8 : T.heap.size < U.heap.size := (Array.getElem?_eq_some_iff.mp hce).1
    rw [hT] at h8
    omega
  have hcl : s.vm.findClass cls = some ce.cls := by
    rw [hOc, ← hvm]; exact hfX
  have hall : s.sameButNew ({ U with vm := s.vm } : State) locs mc ms := by
    subst hA
    obtain ⟨e1, e2⟩ := hsame
    rw [State.setFrames_setFrames] at e1
    have h2 : (T.setVm s.vm).sameButNew ({ U with vm := s.vm } : State) [] (0 + 1) (0 + 6) := ⟨e1, e2⟩
    have h3 := X.same.trans h2
    rw [List.append_nil] at h3
    exact h3.mono hc hs
  refine ⟨U, ?_, .threw T.heap.size, hrun, hend, Or.inr ⟨T.heap.size, rfl, cls, ce, locs, hx U ce hWs.alike hzz (by rw [← hT]; exact hce) hOv hcl (fun q hq => f2 q hq (fun z hz => nomatch hz)), hce, hOv, hcl, hWs, hall, hf⟩⟩
  refine st1 _ ?_
  show Steps p.tables e below (T1.setTop { method := m, pc := pc + 3, locals := ls, stack := .ref T.heap.size :: rest, locked := none }) _
  jvm_step X₁.here [X₁.here.top, hexec, d3', Value.category]
  exact X₁.ldcStringW hexec (own := own) (text := text) (index := is) (a := sa) hown' hstr'.1 hstr'.2
    (g := { method := m, pc := pc + 4, locals := ls, stack := .ref T.heap.size :: .ref T.heap.size :: rest, locked := none }) rfl d4' _ hsteps
end ATH
end PT05b
section PT05c
/-! ===== a body's law, the method's name alone with no row among the natives ===== -/
theorem a_MetofW {l : Launch} {y : MethodName} {ws ws' : List Cond} {rm : Room} {Pc : Array Value → State → Prop} {Qc : Array Value → State → Outcome → State → Prop} {mc ms : Nat} {free : Addr → Prop} {cc : ByteArray} {maxL : Nat} {ret : Option FieldType}
    (hy : plainFor y = true) (hw : ws = Cond.code y cc maxL ret :: ws')
    (body : ∀ p e s m args below meth c s₁, BodyLoose p l y (headSpec ws rm) cc maxL ret e s m args below meth c s₁ → c.maxLocals = maxL → Pc args s →
      W p l e (headSpec ws rm).room s m args below meth c s.heap [] 0 0 (MQ below Qc args s mc ms free) (entryFrame m args maxL)) : Met l y ws rm Pc Qc mc ms free :=
  MetFree.of_bodySF (code := cc) (maxLocals := maxL) (ret := ret) hy
    (fun args s m h hn => by
      obtain ⟨meth, c, h1, h2, h3, h4, h5, h6, -, -⟩ := Cond.code_spec hn (atoms_spec (ws := ws) h _ (by rw [hw]; exact List.mem_cons_self))
      exact ⟨meth, c, h1, h2, h3, h4, h5, h6⟩)
    (fun p e s m args below meth c s₁ B hml hP _ => by
      obtain ⟨t, a1, o, b1, b2, b3⟩ := body p e s m args below meth c s₁ B hml hP s₁ (by rw [B.state]; rfl) (Stand.of_body B)
      exact ⟨t, o, a1, b1, b2, ⟨b3.1, b3.2⟩⟩)
theorem a_MetWT {l : Launch} {y : MethodName} {ws ws' : List Cond} {rm : Room} {Pc : Array Value → State → Prop} {Qc : Array Value → State → Outcome → State → Prop} {mc ms : Nat} {free : Addr → Prop} {cc : ByteArray} {maxL : Nat} {ret : Option FieldType} {hh : List (Nat × Nat × Nat × Nat)}
    (hy : plainFor y = true) (hw : ws = Cond.codeWith y cc maxL ret hh :: ws')
    (body : ∀ p e s m args below meth c s₁, BodyLoose p l y (headSpec ws rm) cc maxL ret e s m args below meth c s₁ → c.maxLocals = maxL → Pc args s →
      W p l e (headSpec ws rm).room s m args below meth c s.heap [] 0 0 (MQ below Qc args s mc ms free) (entryFrame m args maxL)) : Met l y ws rm Pc Qc mc ms free :=
  MetFree.of_bodySF (code := cc) (maxLocals := maxL) (ret := ret) hy
    (fun args s m h hn => by
      obtain ⟨m9, meth, c, hn9, h1, h2, h3, h4, -, h5, h6, -⟩ := Cond.codeWith_spec (atoms_spec (ws := ws) h _ (by rw [hw]; exact List.mem_cons_self))
      cases hn.symm.trans hn9
      exact ⟨meth, c, h1, h2, h3, h4, h5, h6⟩)
    (fun p e s m args below meth c s₁ B hml hP _ => by
      obtain ⟨t, a1, o, b1, b2, b3⟩ := body p e s m args below meth c s₁ B hml hP s₁ (by rw [B.state]; rfl) (Stand.of_body B)
      exact ⟨t, o, a1, b1, b2, ⟨b3.1, b3.2⟩⟩)
end PT05c
section PT06
/-! ===== calls, and the whole ===== -/
def a_rm (d c s : Nat) : Room := { frames := d + 8, cells := c, slots := s, locals := 200 + 60 * d }
/-- a method's start and end on paper -/
def a_Pc (G : aG) (HA : Heap) (X : aX) (as : List Value) (h : aH) : Array Value → State → Prop := va_Pc (as.map (a_rn G)) (fun U => a_Kn G HA X U ∧ a_hr G HA h U.heap)
def a_Qc (G : aG) (HA : Heap) (v : Option Value) (h : aH) : Array Value → State → Outcome → State → Prop := fun _ st o t => o = .returned (v.map (a_rn G)) ∧ a_hr G HA h t.heap ∧ st.heap.size ≤ t.heap.size
theorem a_blind (G : aG) (HA : Heap) (X : aX) (as : List Value) (h : aH) : FrameBlind (a_Pc G HA X as h) := by
  intro a U g mk q
  obtain ⟨q1, q2, q3⟩ := q
  exact ⟨q1, a_Kn.warm (s := U) (U := U.calling g mk a) (State.WarmedH.refl U) q2, q3⟩
theorem a_goodOf {ws : List Cond} (h : ∀ w ∈ ws, w ∈ a_good) : GoodIn a_good ws := fun w hw => ⟨h w hw, good_of_word (List.mem_filter.mp (h w hw)).2⟩
theorem a_wsM_in {M : aM} (h : Cond.code M.1 M.2.1 M.2.2.1 M.2.2.2.1 ∈ a_good) : ∀ w ∈ a_wsM M, w ∈ a_good := by
  intro w hw
  rcases List.mem_cons.mp hw with e | hw
  · rw [e]; exact h
  · exact hw
section ACL
variable {p : Program} {l : Launch} {e : Env} {R : Room} {s : State} {m : MethodId} {args : Array Value} {below : List Frame} {meth : Method} {c : Code} {H : Heap} {locs : List Loc} {cells slots : Nat} {Q : State → Prop}
variable {Z : List aZ} {M M' : aM} {G : aG} {HA : Heap} {X : aX} {pc len : Nat} {i : Instr} {k : aK} {L : Array Slot} {h h' : aH} {st rest as : List Value} {Qc : Array Value → State → Outcome → State → Prop} {mc ms d : Nat}
theorem a_take {n : Nat} {v : Value} {r : List Value} (h : st.drop n = v :: r) : n < st.length ∧ st = st.take n ++ v :: r ∧ (st.take n).length = n := by
  have h1 : n < st.length := by
    rcases Nat.lt_or_ge n st.length with q | q
    · exact q
    · rw [List.drop_eq_nil_of_le q] at h; cases h
  exact ⟨h1, by rw [← h, List.take_append_drop], by rw [List.length_take]; omega⟩
theorem a_rev (G : aG) (q : List Value) : ((q.reverse).map (a_rn G)).reverse = q.map (a_rn G) := by rw [← List.map_reverse, List.reverse_reverse]
set_option maxHeartbeats 1000000 in
theorem a_sim_run (hZ : a_ZOK Z) (hF : a_Fr M p s m args meth c) (hK : a_Kn G HA X s) (hok : a_ok Z M pc i len k) (hr : a_hr G HA h H) (hsz : L.size = M.2.2.1) (ho : a_inv (Z.map Prod.fst) i k st h = some (M', as, rest)) (hk20 : k.1 ≠ 20) (hM : Met l M'.1 (a_wsM M') (a_rm d mc ms) (a_Pc G HA X as h) Qc mc ms (a_A G)) (hfr : d + 9 ≤ R.frames) (hlo : 200 + 60 * (d + 1) ≤ R.locals) (hc1 : cells + mc ≤ R.cells) (hs1 : slots + ms ≤ R.slots) :
    a_ln i len = 3 ∧ va_Run p l e R s m args below meth c H locs cells slots mc ms (F0 m pc L (st.map (a_rn G))) (rest.map (a_rn G)) (Qc (as.map (a_rn G)).toArray) (a_A G) := by
  obtain ⟨hx, hb, -, hml, hown, -, -, hts, -⟩ := hF
  obtain ⟨hd, hlen, hlk⟩ := hok
  rw [← hlen] at hd
  unfold a_inv at ho
  split at ho
  · cases ho
  · rename_i M0 hM0
    rw [List.getElem?_map] at hM0
    cases hq : Z[k.2.1]? with
    | none => rw [hq] at hM0; cases hM0
    | some q =>
    rw [hq] at hM0
    cases hM0
    obtain ⟨hL', hnm, hpl, hini, s0, s1', s2', -⟩ := a_mb_s (hZ q (List.mem_of_getElem? hq)).1
    have hR : (a_rm d mc ms).frames + 1 ≤ R.frames ∧ 8 + (q.1.2.2.1 + 11) + (a_rm d mc ms).locals ≤ R.locals := ⟨hfr, by show 8 + (q.1.2.2.1 + 11) + (200 + 60 * d) ≤ _; omega⟩
    split at ho
    · rename_i idx
      split at ho
      · rename_i hk
        split at ho
        · rename_i v r hdr
          split at ho
          · rename_i hcond
            cases ho
            refine ⟨rfl, ?_⟩
            obtain ⟨t1, t2, t3⟩ := a_take hdr
            obtain ⟨hs0, hl, ⟨T, N, hcl⟩, -⟩ := a_lk_virt hq hlk
            obtain ⟨hcode, hin, hsel⟩ := s0 hs0
            unfold a_recv at hcond
            obtain ⟨hrc, hw, -⟩ := hcond
            split at hrc
            · rename_i o
              split at hrc
              · rename_i ci fs hcell
                have hci : ci = k.2.2.1 := of_decide_eq_true hrc
                subst hci
                have hstack : (F0 m pc L (st.map (a_rn G))).stack = (((st.take q.1.2.2.2.2.1).reverse).map (a_rn G)).reverse ++ .ref (G.2.2.1 + o) :: rest.map (a_rn G) := by
                  show st.map (a_rn G) = _
                  rw [a_rev]
                  conv => lhs; rw [t2]
                  rw [List.map_append]
                  rfl
                have hrecv := va_recv hK.1 hr.2.2.2 hcl (a_ws_of hcell)
                have hpre : PreV s H q.1.1.cls (G.2.2.1 + o) (a_Pc G HA X (.ref (o + 2) :: (st.take q.1.2.2.2.2.1).reverse) h) (((st.take q.1.2.2.2.2.1).reverse).map (a_rn G)) :=
                  ⟨a_blind G HA X _ h, hrecv, fun U hU hW => ⟨rfl, hK.warm hW, by rw [hU]; exact hr⟩⟩
                have hlen' : (((st.take q.1.2.2.2.2.1).reverse).map (a_rn G)).length = q.1.2.2.2.2.1 := by rw [List.length_map, List.length_reverse, t3]
                have hroom : 2 * (F0 m pc L (st.map (a_rn G))).monitorRoom + ((rest.map (a_rn G)).map fun v => v.category).sum ≤ 8 := by
                  show 2 * 0 + _ ≤ 8
                  rw [a_wd_rn]; omega
                exact va_runV (Ts := a_good) (own := M.1.cls) (C := q.1.1.cls) ⟨hx, hb, hml, hown, hts⟩ hM (cwV q.1.2.2.2.2.1 hts (a_goodOf (by
                    intro w hw
                    simp only [wsV, List.mem_append, List.mem_cons, List.not_mem_nil, or_false] at hw
                    rcases hw with (rfl | rfl | rfl | rfl) | hw
                    · exact hl
                    · exact hin
                    · exact hsel
                    · exact hini
                    · exact a_wsM_in hcode w hw)) rfl rfl rfl ⟨rfl, hnm⟩ hR) hpre rfl hlen' hsz hstack hroom hd ⟨hc1, hs1⟩
              · cases hrc
            · cases hrc
          · cases ho
        · cases ho
      · cases ho
    · rename_i idx
      split at ho
      · rename_i hk
        split at ho
        · rename_i o r hdr
          split at ho
          · rename_i hcond
            cases ho
            refine ⟨rfl, ?_⟩
            obtain ⟨t1, t2, t3⟩ := a_take hdr
            obtain ⟨hs0, hl⟩ := a_lk_init hq hk hlk
            obtain ⟨hcode, hin, hinit, hret⟩ := s2' hs0
            have hG := a_goodOf (a_wsM_in hcode)
            have hstack : (F0 m pc L (st.map (a_rn G))).stack = (((st.take q.1.2.2.2.2.1).reverse).map (a_rn G)).reverse ++ .ref (a_ad G o) :: rest.map (a_rn G) := by
              show st.map (a_rn G) = _
              rw [a_rev]
              conv => lhs; rw [t2]
              rw [List.map_append]
              rfl
            have hpre : PreS s H (a_Pc G HA X (.ref o :: (st.take q.1.2.2.2.2.1).reverse) h) (.ref (a_ad G o) :: ((st.take q.1.2.2.2.2.1).reverse).map (a_rn G)) :=
              ⟨a_blind G HA X _ h, fun U hU hW => ⟨rfl, hK.warm hW, by rw [hU]; exact hr⟩⟩
            have hlen' : (((st.take q.1.2.2.2.2.1).reverse).map (a_rn G)).length = q.1.2.2.2.2.1 := by rw [List.length_map, List.length_reverse, t3]
            have hroom : 2 * (F0 m pc L (st.map (a_rn G))).monitorRoom + ((rest.map (a_rn G)).map fun v => v.category).sum ≤ 8 := by
              show 2 * 0 + _ ≤ 8
              rw [a_wd_rn]; have := hcond.1; omega
            have hw0 : a_wsM q.1 = Cond.code q.1.1 q.1.2.1 q.1.2.2.1 none :: a_good := by unfold a_wsM; rw [hret]
            exact va_runI (Ts := a_good) (own := M.1.cls) ⟨hx, hb, hml, hown, hts⟩ hM (cwI q.1.2.2.2.2.1 hts hG hw0 rfl rfl (hts _ hini) (hts _ hl) (hts _ hin) hinit hnm hR) hpre rfl hlen' hsz hstack hroom hd ⟨hc1, hs1⟩
          · cases ho
        · cases ho
      · cases ho
    · rename_i idx
      split at ho
      · rename_i hk
        split at ho
        · rename_i hcond
          cases ho
          refine ⟨rfl, ?_⟩
          obtain ⟨hs0, hl⟩ := a_lk_stat hq hk hlk
          rcases hs0 with ⟨hs0, -⟩ | ⟨-, e⟩
          · obtain ⟨hcode, hst⟩ := s1' hs0
            have t3 : (st.take q.1.2.2.2.2.1).length = q.1.2.2.2.2.1 := by rw [List.length_take]; have := hcond.1; omega
            have hstack : (F0 m pc L (st.map (a_rn G))).stack = (((st.take q.1.2.2.2.2.1).reverse).map (a_rn G)).reverse ++ (st.drop q.1.2.2.2.2.1).map (a_rn G) := by
              show st.map (a_rn G) = _
              rw [a_rev, ← List.map_append, List.take_append_drop]
            have hpre : PreS s H (a_Pc G HA X (st.take q.1.2.2.2.2.1).reverse h) (((st.take q.1.2.2.2.2.1).reverse).map (a_rn G)) :=
              ⟨a_blind G HA X _ h, fun U hU hW => ⟨rfl, hK.warm hW, by rw [hU]; exact hr⟩⟩
            have hlen' : (((st.take q.1.2.2.2.2.1).reverse).map (a_rn G)).length = q.1.2.2.2.2.1 := by rw [List.length_map, List.length_reverse, t3]
            have hroom : 2 * (F0 m pc L (st.map (a_rn G))).monitorRoom + (((st.drop q.1.2.2.2.2.1).map (a_rn G)).map fun v => v.category).sum ≤ 8 := by
              show 2 * 0 + _ ≤ 8
              rw [a_wd_rn]; have := hcond.2.1; omega
            exact va_runS (Ts := a_good) (own := M.1.cls) ⟨hx, hb, hml, hown, hts⟩ hM (va_cwS q.1.2.2.2.2.1 hts (a_goodOf (by
              intro w hw
              simp only [va_wsS, List.mem_append, List.mem_cons, List.not_mem_nil, or_false] at hw
              rcases hw with (rfl | rfl | rfl) | hw
              · exact hl
              · exact hst
              · exact hini
              · exact a_wsM_in hcode w hw)) rfl rfl rfl hnm hR) hpre rfl hlen' hsz hstack hroom hd ⟨hc1, hs1⟩
          · exact absurd e hk20
        · cases ho
      · cases ho
    · cases ho
/-- behind a call -/
theorem a_sim_back {v : Option Value} (hr : va_Run p l e R s m args below meth c H locs cells slots mc ms (F0 m pc L st) rest (a_Qc G HA v h' as.toArray) (a_A G)) (hH : a_H0 G HA s) (hS : va_S (a_A G) s.heap H locs) 
    (kk : ∀ (H' : Heap) (locs' : List Loc), a_hr G HA h' H' → va_S (a_A G) s.heap H' locs' → W p l e R s m args below meth c H' locs' (cells + mc) (slots + ms) Q (F0 m (pc + 3) L ((v.map (a_rn G)).toList ++ rest))) : W p l e R s m args below meth c H locs cells slots Q (F0 m pc L st) := by
  intro T hT Y
  obtain ⟨v', st₀, t, T', L', h0, Y', hL', e1, e2, ⟨hv, hq, hsz⟩, stp⟩ := hr T hT Y
  cases hv
  have hz : s.heap.size ≤ T'.heap.size := by
    rw [e1]
    rw [h0] at hsz
    exact Nat.le_trans hS.1 hsz
  obtain ⟨t2, a1, b1⟩ := kk T'.heap (locs ++ L') (by rw [e1]; exact hq) ⟨hz, fun q g1 g2 => by
      rcases Nat.lt_or_ge q G.2.2.1 with z | z
      · rw [e1, hq.2.2.1 q z, hH.2 q z]
      · exact absurd z g2, fun q hq => by
      rcases List.mem_append.mp hq with z | z
      · exact hS.2.2 q z
      · exact hL' q z⟩ T' rfl Y'
  exact ⟨t2, stp t2 a1, b1⟩
end ACL
def a_end (v : Option Value) (h : aH) : aH × Nat × Nat := match v with
  | some (.retAddr _) => (h ++ [.inr (a_exc, [])], 1, 6)
  | _ => (h, 0, 0)
theorem a_end_no {v : Option Value} (hno : ∀ n : Nat, v = some (.retAddr n) → False) (h : aH) : a_end v h = (h, 0, 0) := by
  unfold a_end
  split
  · exact absurd rfl (hno _)
  · rfl
theorem a_more_s {c s : Nat} {r : Option aQ} {v : Option Value} {h : aH} {c' s' : Nat} (e : a_more c s r = some (v, h, c', s')) : ∃ c2 s2, r = some (v, h, c2, s2) ∧ c' = c + c2 ∧ s' = s + s2 := by
  unfold a_more at e
  split at e
  · cases e; exact ⟨_, _, rfl, rfl, rfl⟩
  · cases e
/-- what a walk needs of its method's frame, besides the instruction -/
def a_Cx (G : aG) (HA : Heap) (X : aX) (M : aM) (p : Program) (s : State) (m : MethodId) (args : Array Value) (meth : Method) (c : Code) : Prop := a_Fr M p s m args meth c ∧ a_Kn G HA X s ∧ a_H0 G HA s
theorem a_toList (G : aG) (v : Option Value) (r : List Value) : (v.map (a_rn G)).toList ++ r.map (a_rn G) = (v.toList ++ r).map (a_rn G) := by cases v <;> simp
theorem a_inv_in {P : List aM} {i : Instr} {k : aK} {st : List Value} {h : aH} {q : aM × List Value × List Value} (ho : a_inv P i k st h = some q) : q.1 ∈ P ∧ (a_entry q.2.1).length ≤ q.1.2.2.1 := by
  unfold a_inv at ho
  split at ho
  · cases ho
  · rename_i M0 hM0
    have hin := List.mem_of_getElem? hM0
    split at ho
    · split at ho
      · split at ho
        · split at ho
          · rename_i hc
            cases ho
            exact ⟨hin, hc.2.2⟩
          · cases ho
        · cases ho
      · cases ho
    · split at ho
      · split at ho
        · split at ho
          · rename_i hc
            cases ho
            exact ⟨hin, hc.2⟩
          · cases ho
        · cases ho
      · cases ho
    · split at ho
      · split at ho
        · rename_i hc
          cases ho
          exact ⟨hin, hc.2.2⟩
        · cases ho
      · cases ho
    · cases ho
theorem a_sl_len (G : aG) (as : List Value) : (lg_sl (as.map (a_rn G))).length = (a_entry as).length := by
  induction as with
  | nil => rfl
  | cons v vs ih =>
    have e : lg_sl ((v :: vs).map (a_rn G)) = (if (a_rn G v).category = 2 then [.val (a_rn G v), .second] else [.val (a_rn G v)]) ++ lg_sl (vs.map (a_rn G)) := by simp [lg_sl]
    rw [e, List.length_append, ih, a_rn_cat]
    show _ = (if v.category = 2 then some v :: none :: a_entry vs else some v :: a_entry vs).length
    by_cases hc : v.category = 2
    · rw [if_pos hc, if_pos hc]; simp only [List.length_cons, List.length_nil]; omega
    · rw [if_neg hc, if_neg hc]; simp only [List.length_cons, List.length_nil]; omega
theorem a_ent_len {as : List Value} {n : Nat} (h : (a_entry as).length ≤ n) : (a_ent as n).length = n := by
  simp only [a_ent, List.length_append, List.length_replicate]
  omega
theorem a_entry_lv (G : aG) : ∀ (as : List Value) (o i : Nat) (v : Value), (a_entry as)[i]? = some (some v) → (o + i, a_rn G v) ∈ lv_args o (as.map (a_rn G)) := by
  intro as
  induction as with
  | nil => intro o i v h; simp [a_entry] at h
  | cons w ws ih =>
    intro o i v h
    unfold a_entry at h
    show _ ∈ (o, a_rn G w) :: lv_args (if (a_rn G w).category = 2 then o + 2 else o + 1) (ws.map (a_rn G))
    rw [a_rn_cat]
    split at h
    · rename_i hc
      rw [if_pos hc]
      match i, h with
      | 0, h => cases h; exact List.mem_cons_self
      | 1, h => cases h
      | i + 2, h =>
        have := ih (o + 2) i v h
        rw [show o + (i + 2) = o + 2 + i by omega]
        exact List.mem_cons_of_mem _ this
    · rename_i hc
      rw [if_neg hc]
      match i, h with
      | 0, h => cases h; exact List.mem_cons_self
      | i + 1, h =>
        have := ih (o + 1) i v h
        rw [show o + (i + 1) = o + 1 + i by omega]
        exact List.mem_cons_of_mem _ this
theorem a_ent_lv (G : aG) (as : List Value) (n : Nat) : ∀ q ∈ a_lv G (a_ent as n), q ∈ lv_args 0 (as.map (a_rn G)) := by
  intro q hq
  obtain ⟨i, w⟩ := q
  obtain ⟨v, hv, rfl⟩ := a_lv_in.mp hq
  unfold a_ent at hv
  rcases Nat.lt_or_ge i (a_entry as).length with hi | hi
  · rw [List.getElem?_append_left hi] at hv
    have := a_entry_lv G as 0 i v hv
    rw [Nat.zero_add] at this
    exact this
  · rw [List.getElem?_append_right hi, List.getElem?_replicate] at hv
    split at hv <;> cases hv
/-- a method's end -/
theorem a_sim_fin {p : Program} {l : Launch} {e : Env} {R : Room} {s : State} {m : MethodId} {args : Array Value} {below : List Frame} {meth : Method} {c : Code} {H : Heap} {locs : List Loc} {cells slots : Nat} {Z : List aZ} {M : aM} {G : aG} {HA : Heap} {pc len : Nat} {i : Instr} {k : aK} {L : Array Slot} {h : aH} {st : List Value} {v : Option Value}
    (hx : p.tables.exec = Jvm.exec) (hb : c.code = M.2.1) (hrt : meth.sig.returnType = M.2.2.2.1) (hlocks : meth.locks = false) (hok : a_ok Z M pc i len k) (hret : a_ret i k M.2.2.2.1 st = some v) (hno : ∀ n : Nat, v = some (.retAddr n) → False) (hr : a_hr G HA h H) (hS : va_S (a_A G) s.heap H locs) :
    W p l e R s m args below meth c H locs cells slots (MQ below (a_Qc G HA v h) args s cells slots (a_A G)) (F0 m pc L (st.map (a_rn G))) := by
  obtain ⟨hd, hlen, -⟩ := hok
  rw [← hlen] at hd
  have hq : ∀ t : State, t.heap = H → s.WarmedH t.vm → a_Qc G HA v h args s (.returned (v.map (a_rn G))) t := fun t ht _ => ⟨rfl, by rw [ht]; exact hr, by rw [ht]; exact hS.1⟩
  unfold a_ret at hret
  split at hret
  · split at hret
    · rename_i x e1
      cases hret
      exact W.iret hx hb (hrt.trans e1) hq hS.2.2 hd hlocks
    · rename_i x e1
      split at hret
      · rename_i hn
        cases hret
        exact W.zret hx hb (hrt.trans e1) hn hq hS.2.2 hd hlocks
      · cases hret
    · rename_i x e1
      split at hret
      · rename_i hn
        cases hret
        exact W.zret hx hb (hrt.trans e1) hn hq hS.2.2 hd hlocks
      · cases hret
    · cases hret
  · split at hret
    · rename_i x e1
      cases hret
      exact W.lret hx hb (hrt.trans e1) hq hS.2.2 hd hlocks
    · cases hret
  · split at hret
    · rename_i e1
      cases hret
      exact W.vret hx hb (hrt.trans e1) hq hS.2.2 hd hlocks
    · cases hret
  · split at hret
    · split at hret
      · cases hret
        exact absurd rfl (hno 0)
      · cases hret
    · cases hret
  · cases hret
/-- a throw, with the world behind it -/
def a_XC (G : aG) (HA : Heap) (h : aH) : String → State → State → Prop := fun E st t => E = a_excN ∧ a_hr G HA h t.heap ∧ st.heap.size ≤ t.heap.size
theorem a_thr_s {M : aM} {pc idx : Nat} {k : aK} (h : a_thr M pc idx k = true) : Cond.classLink M.1.cls idx a_excN ∈ a_good ∧ M.1.cls = "OddsInCourt" ∧ decode M.2.1 (pc + 3) = .ok (.dup, 1) ∧ (∃ q ∈ a_strs, decode M.2.1 (pc + 4) = .ok (.ldc_w q.1, 3)) ∧ decode M.2.1 (pc + 7) = .ok (.invokespecial a_ic, 3) ∧ decode M.2.1 (pc + 10) = .ok (.athrow, 1) := by
  simp only [a_thr, Bool.and_eq_true, decide_eq_true_eq, List.any_eq_true] at h
  obtain ⟨⟨⟨⟨⟨h1, h2⟩, h3⟩, h4⟩, h5⟩, h6⟩ := h
  exact ⟨a_has_in h1, h2, h3, h4, h5, h6⟩
theorem a_excI : Cond.initialized a_excN ∈ a_good := a_has_in (j := a_excP) (by decide +kernel)
set_option maxRecDepth 20000 in
theorem a_atS_g : ∀ w ∈ a_atX.filter goodWord, w ∈ lw_tbl := by decide +kernel
set_option maxRecDepth 20000 in
theorem a_atS_n : ∀ w ∈ a_nest, w.onTables = true := by decide +kernel
set_option maxRecDepth 20000 in
theorem a_atS_o : ∀ w ∈ a_atX, vx_ot w = true := by decide +kernel
theorem a_atS_at {args : Array Value} {s : State} (hts : ∀ w ∈ a_good, w.before args s = true) (hn : ∀ w ∈ a_nest, va_Nw w s) : ∀ w ∈ a_atX, w.before args s = true := by
  intro w hw
  cases hg : goodWord w with
  | true => exact hts w (List.mem_filter.mpr ⟨a_atS_g w (List.mem_filter.mpr ⟨hw, hg⟩), hg⟩)
  | false =>
    have hin : w ∈ a_nest := List.mem_cons_of_mem _ (List.mem_filter.mpr ⟨hw, by rw [hg]; rfl⟩)
    exact va_Nw.use (a_atS_n w hin) (hn w hin)
theorem a_excCl : vwCl[13]? = some (a_excN, a_T [], 0) := rfl
set_option maxHeartbeats 1000000 in
/-- the throw of a method that is known to throw -/
theorem a_sim_thr {p : Program} {l : Launch} {e : Env} {R : Room} {s : State} {m : MethodId} {args : Array Value} {below : List Frame} {meth : Method} {c : Code} {H : Heap} {locs : List Loc} {cells slots mc ms : Nat} {Z : List aZ} {M : aM} {G : aG} {HA : Heap} {X : aX} {pc len : Nat} {i : Instr} {k : aK} {L : Array Slot} {h : aH} {st : List Value} {n : Nat} {Qc : Array Value → State → Outcome → State → Prop}
    (hl : l.stackTraces = false) (hC : a_Cx G HA X M p s m args meth c) (hnt : ∀ x ∈ c.exceptionTable.toList, False) (hok : a_ok Z M pc i len k) (hret : a_ret i k M.2.2.2.1 st = some (some (.retAddr n))) (hr : a_hr G HA h H) (hS : va_S (a_A G) s.heap H locs) (hsz : L.size = M.2.2.1)
    (hfr : 8 ≤ R.frames) (hlo : 200 ≤ R.locals) (hc : cells + 1 ≤ R.cells) (hs : slots + 6 ≤ R.slots) (hmc : cells + 1 ≤ mc) (hms : slots + 6 ≤ ms) :
    W p l e R s m args below meth c H locs cells slots (vx_MQ below Qc (a_XC G HA (h ++ [.inr (a_exc, [])])) args s mc ms (a_A G)) (F0 m pc L (st.map (a_rn G))) := by
  obtain ⟨⟨hx, hb, hrt, hml, hown, hlocks, hname, hts, -⟩, hK, hH⟩ := hC
  obtain ⟨hd, hlen, hlk⟩ := hok
  rw [← hlen] at hd
  unfold a_ret at hret
  split at hret
  · split at hret
    · cases hret
    · split at hret <;> cases hret
    · split at hret <;> cases hret
    · cases hret
  · split at hret <;> cases hret
  · split at hret <;> cases hret
  · rename_i idx
    split at hret
    · rename_i hk17
      split at hret
      · simp only [a_lk, hk17, if_true] at hlk
        obtain ⟨h1, h2, h3, ⟨q, hq, h4⟩, h5, h6⟩ := a_thr_s hlk
        obtain ⟨sa, hsa⟩ := hK.2.2.2.2.2.2.2.2.2 q hq
        have hU : vx_Zq Bundle.tN "UNASSIGNED_STACK" Bundle.steD (a_A G) s s.heap := hK.2.2.2.2.2.2.2.1.kept (fun a ha _ => hH.2 a (by rw [← hr.2.1]; exact ha))
        have hN : vx_Zq Bundle.tN "SUPPRESSED_SENTINEL" Bundle.listD (a_A G) s s.heap := hK.2.2.2.2.2.2.2.2.1.kept (fun a ha _ => hH.2 a (by rw [← hr.2.1]; exact ha))
        rw [h2] at hown h1
        refine a_throwSW (own := "OddsInCourt") (cls := a_excN) (names := a_excs) (ik := idx) (is := q.1) (ic := a_ic) (text := q.2) (sa := sa) (ix := 13) (rx := prog_22_method_4_code) (A := a_A G) hx hb hl (by decide +kernel) (by decide +kernel) (by decide +kernel) (by decide +kernel) hown (by decide +kernel) (by decide +kernel) (hts _ h1) (hts _ a_excI) hsa (a_atS_at hts hK.2.1) ?_ hU hN hS (by rw [hml]; exact hsz) hd h3 h4 h5 h6 (fun x hx => (hnt x hx).elim) (by show 2 + 3 < _; omega) (by show 0 + (13 * (2 + 1) + 43) ≤ _; omega) hc hs hlocks ?_ (fun z hz => hS.2.2 z hz) hmc hms
        · intro w hw
          rcases List.mem_cons.mp hw with e | hw
          · subst e; exact Bool.or_eq_true_iff.mpr (Or.inr (List.mem_filter.mp h1).2)
          · rcases List.mem_cons.mp hw with e | hw
            · subst e; exact Bool.or_eq_true_iff.mpr (Or.inr (List.mem_filter.mp a_excI).2)
            · exact a_atS_o w hw
        · intro t ce hal hz hce hcv hcl hold
          refine ⟨rfl, a_pushed hr hz hold ⟨_, a_excCl, ?_⟩, by rw [hz]; exact Nat.le_succ_of_le hS.1⟩
          have hC13 := (hK.1.1 13 _ a_excCl).2.1
          rw [hr.1] at hce
          exact ⟨ce, hce, (Option.some.inj (hC13.symm.trans hcl)).symm, hcv, fun k hk => absurd hk (Nat.not_lt_zero k)⟩
      · cases hret
    · cases hret
  · cases hret
theorem a_cat_s {M : aM} {pc hp : Nat} (h : a_cat M pc hp = true) : ∃ a b t, a_hh M.1 = [(a, b, hp, t)] ∧ a ≤ pc ∧ pc < b ∧ t ≠ 0 ∧ M.2.2.2.1 = some .int ∧ ∃ n len, (decode M.2.1 hp = .ok (.astore n, len) ∧ len = 2 ∨ ∃ z : Fin 4, (z : Nat) = n ∧ decode M.2.1 hp = .ok (.astore_n z, len) ∧ len = 1) ∧ n < M.2.2.1 ∧ M.2.2.2.2.2.lookup (hp + len) = some (.iconst 1, 1, 0, 0, 0, 0) ∧ M.2.2.2.2.2.lookup (hp + len + 1) = some (.ireturn, 1, 0, 0, 0, 0) := by
  unfold a_cat at h
  split at h
  · rename_i a b hh t e
    simp only [Bool.and_eq_true, decide_eq_true_eq] at h
    obtain ⟨⟨⟨⟨⟨h1, h2⟩, h3⟩, h4⟩, h5⟩, h6⟩ := h
    subst h3
    refine ⟨a, b, t, e, h1, h2, h4, h5, ?_⟩
    split at h6
    · rename_i n hd
      simp only [Bool.and_eq_true, decide_eq_true_eq] at h6
      exact ⟨n, 2, Or.inl ⟨hd, rfl⟩, h6.1.1, h6.1.2, h6.2⟩
    · rename_i n hd
      simp only [Bool.and_eq_true, decide_eq_true_eq] at h6
      exact ⟨n, 1, Or.inr ⟨n, rfl, hd, rfl⟩, h6.1.1, h6.1.2, h6.2⟩
    · cases h6
  · cases h
theorem a_inv_code {Z : List aZ} (hZ : a_ZOK Z) {M M' : aM} {pc : Nat} {i : Instr} {k : aK} {st : List Value} {h : aH} {as rest : List Value} {q : aZ} (ho : a_inv (Z.map Prod.fst) i k st h = some (M', as, rest)) (hlk : a_lk Z M pc i k = true) (hq : Z[k.2.1]? = some q) (hk20 : k.1 ≠ 20) : Cond.code q.1.1 q.1.2.1 q.1.2.2.1 q.1.2.2.2.1 ∈ a_good := by
  obtain ⟨-, -, -, -, s0, s1, s2, -⟩ := a_mb_s (hZ q (List.mem_of_getElem? hq)).1
  unfold a_inv at ho
  split at ho
  · cases ho
  · split at ho
    · exact (s0 (a_lk_virt hq hlk).1).1
    · split at ho
      · rename_i hk
        exact (s2 (a_lk_init hq hk hlk).1).1
      · cases ho
    · split at ho
      · rename_i hk
        rcases (a_lk_stat hq hk hlk).1 with ⟨e, -⟩ | ⟨-, e⟩
        · exact (s1 e).1
        · exact absurd e hk20
      · cases ho
    · cases ho
set_option maxHeartbeats 1000000 in
/-- an instruction that is no call and no end -/
theorem a_sim_op {p : Program} {l : Launch} {e : Env} {R : Room} {s : State} {m : MethodId} {args : Array Value} {below : List Frame} {meth : Method} {c : Code} {H : Heap} {locs : List Loc} {cells slots : Nat} {Q : State → Prop} {Z : List aZ} {M : aM} {G : aG} {HA : Heap} {X : aX} {pc len pc' : Nat} {i : Instr} {k : aK} {L : Array Slot} {ls ls' : aL} {h h' : aH} {st st' : List Value} {c1 s1 : Nat}
    (hC : a_Cx G HA X M p s m args meth c) (hok : a_ok Z M pc i len k) (ho : a_op X i len k pc ls st h = some (pc', ls', st', h', c1, s1)) (hr : a_hr G HA h H) (hS : va_S (a_A G) s.heap H locs) (hl : lv_has L M.2.2.1 (a_lv G ls)) (hll : ls.length = M.2.2.1) (hfr : 1 ≤ R.frames) (hlo : 200 ≤ R.locals) (hc1 : cells + c1 ≤ R.cells) (hs1 : slots + s1 ≤ R.slots)
    (kk : ∀ (H' : Heap) (locs' : List Loc) (L' : Array Slot), a_hr G HA h' H' → va_S (a_A G) s.heap H' locs' → lv_has L' M.2.2.1 (a_lv G ls') → ls'.length = M.2.2.1 → W p l e R s m args below meth c H' locs' (cells + c1) (slots + s1) Q (F0 m pc' L' (st'.map (a_rn G)))) : W p l e R s m args below meth c H locs cells slots Q (F0 m pc L (st.map (a_rn G))) := by
  obtain ⟨hF, hK, hH⟩ := hC
  unfold a_op at ho
  split at ho
  · rename_i q hq
    cases ho
    exact a_sim_stk hF hok hq (kk H locs L hr hS hl hll)
  · split at ho
    · rename_i ls2 st2 hq
      cases ho
      exact a_sim_loc hF hok hq hl hll (fun L' h1 h2 => kk H locs L' hr hS h1 h2)
    · split at ho
      · rename_i pc2 st2 hq
        cases ho
        exact a_sim_br hF hok hq (kk H locs L hr hS hl hll)
      · split at ho
        · rename_i st2 h2 c2 s2 hq
          cases ho
          obtain ⟨hd, hlen, hlk⟩ := hok
          rw [← hlen] at hd kk
          have hsz : L.size = M.2.2.1 := hl.1
          have kk' : ∀ (H' : Heap) (locs' : List Loc), a_hr G HA h' H' → va_S (a_A G) s.heap H' locs' → W p l e R s m args below meth c H' locs' (cells + c1) (slots + s1) Q (F0 m (pc + a_ln i len) L (st'.map (a_rn G))) := fun H' locs' h1 h2 => kk H' locs' L h1 h2 hl hll
          clear kk
          have hq0 := hq
          unfold a_hp at hq
          split at hq
          · exact a_sim_get hF hK hd hlk hr hS hq kk'
          · exact a_sim_put hF hK hd hlk hr hS hq kk'
          · exact a_sim_ald hF hK (Or.inl rfl) hd hr hS hq0 kk'
          · exact a_sim_ald hF hK (Or.inr (Or.inl rfl)) hd hr hS hq0 kk'
          · exact a_sim_ald hF hK (Or.inr (Or.inr rfl)) hd hr hS hq0 kk'
          · exact a_sim_lald hF hK hH hd hr hS hq kk'
          · exact a_sim_aald hF hK hd hr hS hq kk'
          · exact a_sim_ast hF hK (Or.inl rfl) hd hr hS hq0 kk'
          · exact a_sim_ast hF hK (Or.inr (Or.inl rfl)) hd hr hS hq0 kk'
          · exact a_sim_ast hF hK (Or.inr (Or.inr rfl)) hd hr hS hq0 kk'
          · exact a_sim_last hF hK hd hr hS hq kk'
          · exact a_sim_aast hF hK hd hr hS hq kk'
          · exact a_sim_len hF hK hH hd hr hS hq kk'
          · exact a_sim_newa hF hK hd hlk hr hS hq hc1 hs1 kk'
          · split at hq
            · rename_i hk
              exact a_sim_newq hF hK hk hd hlk hr hS hq hc1 hs1 kk'
            · cases hq
          · split at hq
            · rename_i hk
              exact a_sim_newm hF hK hk hd hlk hr hS hq hc1 hs1 kk'
            · cases hq
          · split at hq
            · rename_i hk
              exact a_sim_new hF hK hk hd hlk hr hS hq hc1 hs1 kk'
            · cases hq
          · split at hq
            · rename_i hk
              cases hq
              exact a_sim_sta hF hK hH hk hd hlk hr hS (kk' H locs hr hS)
            · cases hq
          · split at hq
            · rename_i hk
              split at hq
              · split at hq
                · rename_i hw
                  cases hq
                  exact a_sim_obj hF hk hd hlk hw hfr hlo hsz (kk' H locs hr hS)
                · cases hq
              · cases hq
            · cases hq
          · split at hq
            · rename_i hk
              split at hq
              · rename_i hw
                exact a_sim_copy hF hK hk hd hlk hr hS hsz hfr hlo hw hq kk'
              · cases hq
            · cases hq
          · cases hq
        · split at ho
          · rename_i st2 hq
            cases ho
            have hd := hok.1
            rw [← hok.2.1] at hd kk
            exact a_sim_scr hF hK hH hd hr hS hq (kk H locs L hr hS hl hll)
          · cases ho
/-- a method that catches is known by its table of handlers -/
def a_x18 (M : aM) : Prop := (Cond.codeWith M.1 M.2.1 M.2.2.1 M.2.2.2.1 (a_hh M.1) ∈ a_good ∧ ∃ a b h t, a_hh M.1 = [(a, b, h, t)] ∧ Cond.classLink M.1.cls t a_excN ∈ a_good) ∨ ∀ e ∈ M.2.2.2.2.2, e.2.2.2.1 ≠ 18
def a_Z18 (Z : List aZ) : Prop := ∀ q ∈ Z, q.2.1 = 3 ∨ ∀ e ∈ q.1.2.2.2.2.2, e.2.2.2.1 ≠ 18
theorem a_x18_of {Z : List aZ} (hZ : a_ZOK Z) (h18 : a_Z18 Z) {q : aZ} (hq : q ∈ Z) : a_x18 q.1 := by
  rcases h18 q hq with e | e
  · obtain ⟨-, -, -, -, -, -, -, s3⟩ := a_mb_s (hZ q hq).1
    exact Or.inl ⟨(s3 e).1, (s3 e).2.2⟩
  · exact Or.inr e
/-- a method's table of instructions is right -/
def a_okM (Z : List aZ) (M : aM) : Prop := ∀ (pc : Nat) (i : Instr) (len : Nat) (k : aK), M.2.2.2.2.2.lookup pc = some (i, len, k) → a_ok Z M pc i len k
theorem a_lookup_in {l : List (Nat × aI)} {pc : Nat} {q : aI} (h : l.lookup pc = some q) : (pc, q) ∈ l := by
  induction l with
  | nil => cases h
  | cons e t ih =>
    obtain ⟨n, x⟩ := e
    rw [List.lookup_cons] at h
    split at h
    · rename_i e1
      cases h
      rw [beq_iff_eq] at e1
      subst e1
      exact List.mem_cons_self
    · exact List.mem_cons_of_mem _ (ih h)
theorem a_okM_of {Z : List aZ} {M : aM} (h : ∀ e ∈ M.2.2.2.2.2, a_okb Z M e = true) : a_okM Z M := by
  intro pc i len k hl
  have h1 := h _ (a_lookup_in hl)
  simp only [a_okb, Bool.and_eq_true, decide_eq_true_eq] at h1
  exact ⟨h1.1.1, h1.1.2, h1.2⟩
theorem a_inv_Z {Z : List aZ} {i : Instr} {k : aK} {st : List Value} {h : aH} {M' : aM} {as rest : List Value} (ho : a_inv (Z.map Prod.fst) i k st h = some (M', as, rest)) : ∃ q ∈ Z, q.1 = M' ∧ Z[k.2.1]? = some q := by
  unfold a_inv at ho
  split at ho
  · cases ho
  · rename_i M0 hM0
    rw [List.getElem?_map] at hM0
    cases hq : Z[k.2.1]? with
    | none => rw [hq] at hM0; cases hM0
    | some q =>
      rw [hq] at hM0
      cases hM0
      refine ⟨q, List.mem_of_getElem? hq, ?_, rfl⟩
      split at ho
      · split at ho
        · split at ho
          · split at ho
            · cases ho; rfl
            · cases ho
          · cases ho
        · cases ho
      · split at ho
        · split at ho
          · split at ho
            · cases ho; rfl
            · cases ho
          · cases ho
        · cases ho
      · split at ho
        · split at ho
          · cases ho; rfl
          · cases ho
        · cases ho
      · cases ho
def a_wsW (M : aM) : List Cond := Cond.codeWith M.1 M.2.1 M.2.2.1 M.2.2.2.1 (a_hh M.1) :: a_good
set_option maxHeartbeats 1000000 in
/-- a call of a method with a table of handlers -/
theorem a_sim_run20 {p : Program} {l : Launch} {e : Env} {R : Room} {s : State} {m : MethodId} {args : Array Value} {below : List Frame} {meth : Method} {c : Code} {H : Heap} {locs : List Loc} {cells slots : Nat} {Z : List aZ} {M : aM} {G : aG} {HA : Heap} {X : aX} {pc len : Nat} {i : Instr} {k : aK} {L : Array Slot} {h : aH} {st rest as : List Value} {Qc : Array Value → State → Outcome → State → Prop} {mc ms d : Nat} {q : aZ}
    (hZ : a_ZOK Z) (hF : a_Fr M p s m args meth c) (hK : a_Kn G HA X s) (hok : a_ok Z M pc i len k) (hr : a_hr G HA h H) (hsz : L.size = M.2.2.1) (ho : a_inv (Z.map Prod.fst) i k st h = some (q.1, as, rest)) (hq : Z[k.2.1]? = some q) (hk20 : k.1 = 20) (hM : Met l q.1.1 (a_wsW q.1) (a_rm d mc ms) (a_Pc G HA X as h) Qc mc ms (a_A G)) (hfr : d + 9 ≤ R.frames) (hlo : 200 + 60 * (d + 1) ≤ R.locals) (hc1 : cells + mc ≤ R.cells) (hs1 : slots + ms ≤ R.slots) :
    a_ln i len = 3 ∧ va_Run p l e R s m args below meth c H locs cells slots mc ms (F0 m pc L (st.map (a_rn G))) (rest.map (a_rn G)) (Qc (as.map (a_rn G)).toArray) (a_A G) := by
  obtain ⟨hx, hb, -, hml, hown, -, -, hts, -⟩ := hF
  obtain ⟨hd, hlen, hlk⟩ := hok
  rw [← hlen] at hd
  unfold a_inv at ho
  split at ho
  · cases ho
  · rename_i M0 hM0
    rw [List.getElem?_map, hq] at hM0
    cases hM0
    obtain ⟨hL', hnm, hpl, hini, -, -, -, s3⟩ := a_mb_s (hZ q (List.mem_of_getElem? hq)).1
    have hR : (a_rm d mc ms).frames + 1 ≤ R.frames ∧ 8 + (q.1.2.2.1 + 11) + (a_rm d mc ms).locals ≤ R.locals := ⟨hfr, by show 8 + (q.1.2.2.1 + 11) + (200 + 60 * d) ≤ _; omega⟩
    split at ho
    · split at ho
      · rename_i hk
        rw [hk20] at hk
        rcases hk with e | e <;> cases e
      · cases ho
    · split at ho
      · rename_i hk
        rw [hk20] at hk
        cases hk
      · cases ho
    · rename_i idx
      split at ho
      · rename_i hk
        split at ho
        · rename_i hcond
          cases ho
          refine ⟨rfl, ?_⟩
          obtain ⟨hs0, hl⟩ := a_lk_stat hq hk hlk
          rcases hs0 with ⟨-, e⟩ | ⟨hs0, -⟩
          · rw [hk20] at e
            cases e
          · obtain ⟨hcode, hst, -⟩ := s3 hs0
            have t3 : (st.take q.1.2.2.2.2.1).length = q.1.2.2.2.2.1 := by rw [List.length_take]; have := hcond.1; omega
            have hstack : (F0 m pc L (st.map (a_rn G))).stack = (((st.take q.1.2.2.2.2.1).reverse).map (a_rn G)).reverse ++ (st.drop q.1.2.2.2.2.1).map (a_rn G) := by
              show st.map (a_rn G) = _
              rw [a_rev, ← List.map_append, List.take_append_drop]
            have hpre : PreS s H (a_Pc G HA X (st.take q.1.2.2.2.2.1).reverse h) (((st.take q.1.2.2.2.2.1).reverse).map (a_rn G)) :=
              ⟨a_blind G HA X _ h, fun U hU hW => ⟨rfl, hK.warm hW, by rw [hU]; exact hr⟩⟩
            have hlen' : (((st.take q.1.2.2.2.2.1).reverse).map (a_rn G)).length = q.1.2.2.2.2.1 := by rw [List.length_map, List.length_reverse, t3]
            have hroom : 2 * (F0 m pc L (st.map (a_rn G))).monitorRoom + (((st.drop q.1.2.2.2.2.1).map (a_rn G)).map fun v => v.category).sum ≤ 8 := by
              show 2 * 0 + _ ≤ 8
              rw [a_wd_rn]; have := hcond.2.1; omega
            exact vx_runSW (Ts := a_good) (own := M.1.cls) ⟨hx, hb, hml, hown, hts⟩ hM (vx_cwSW q.1.2.2.2.2.1 hts (a_goodOf (by
              intro w hw
              simp only [va_wsS, List.mem_append, List.mem_cons, List.not_mem_nil, or_false] at hw
              rcases hw with (rfl | rfl | rfl) | hw
              · exact hl
              · exact hst
              · exact hini
              · rcases List.mem_cons.mp hw with e | hw
                · rw [e]; exact hcode
                · exact hw)) rfl rfl rfl hnm hR) hpre rfl hlen' hsz hstack hroom hd ⟨hc1, hs1⟩
        · cases ho
      · cases ho
    · cases ho
set_option maxHeartbeats 2000000 in
/-- a call that throws, caught by its caller, which answers 1 -/
theorem a_sim_catch {l : Launch} (hlt : l.stackTraces = false) {Z : List aZ} (hZ : a_ZOK Z) {G : aG} {HA : Heap} {X : aX} {p : Program} {e : Env} {R : Room} {s : State} {m : MethodId} {args : Array Value} {below : List Frame} {meth : Method} {c : Code} {H : Heap} {locs : List Loc} {cells slots : Nat} {Q : State → Prop} {L : Array Slot} {M : aM} {pc len d' : Nat} {i : Instr} {k : aK} {ls : aL} {st as rest : List Value} {h h' : aH} {c' s' : Nat} {q : aZ}
    (hC : a_Cx G HA X M p s m args meth c) (hMP : a_okM Z M) (hx8 : a_x18 M) (hlook : M.2.2.2.2.2.lookup pc = some (i, len, k)) (hk18 : k.1 = 18) (hr : a_hr G HA h H) (hS : va_S (a_A G) s.heap H locs) (hl : lv_has L M.2.2.1 (a_lv G ls)) (hfr : d' + 1 + 8 ≤ R.frames) (hlo : 200 + 60 * (d' + 1) ≤ R.locals) (hcc : cells + c' ≤ R.cells) (hss : slots + s' ≤ R.slots)
    (hinv : a_inv (Z.map Prod.fst) i k st h = some (q.1, as, rest)) (hq : Z[k.2.1]? = some q)
    (hbody : ∀ p2 e2 s2 m2 args2 below2 meth2 cd2 s₁, BodyLoose p2 l q.1.1 (headSpec (a_wsM q.1) (a_rm d' c' s')) q.1.2.1 q.1.2.2.1 q.1.2.2.2.1 e2 s2 m2 args2 below2 meth2 cd2 s₁ → cd2.maxLocals = q.1.2.2.1 → (∀ x ∈ cd2.exceptionTable.toList, False) → a_Pc G HA X as h args2 s2 →
      W p2 l e2 (headSpec (a_wsM q.1) (a_rm d' c' s')).room s2 m2 args2 below2 meth2 cd2 s2.heap [] 0 0 (vx_MQ below2 (fun _ _ _ _ => False) (a_XC G HA h') args2 s2 c' s' (a_A G)) (entryFrame m2 args2 q.1.2.2.1))
    (fin : ∀ (pc1 : Nat) (i : Instr) (len : Nat) (k : aK) (st1 : List Value) (h1 : aH) (c1 s1 : Nat) (H1 : Heap) (locs1 : List Loc) (L1 : Array Slot), a_ok Z M pc1 i len k → a_ret i k M.2.2.2.1 st1 = some (some (.int 1)) → a_hr G HA h1 H1 → va_S (a_A G) s.heap H1 locs1 → L1.size = M.2.2.1 → h' = (a_end (some (.int 1)) h1).1 → c' = c1 + (a_end (some (.int 1)) h1).2.1 → s' = s1 + (a_end (some (.int 1)) h1).2.2 →
      W p l e R s m args below meth c H1 locs1 (cells + c1) (slots + s1) Q (F0 m pc1 L1 (st1.map (a_rn G)))) :
    W p l e R s m args below meth c H locs cells slots Q (F0 m pc L (st.map (a_rn G))) := by
  have hok := hMP pc i len k hlook
  obtain ⟨⟨hx, hb, hrt, hml, hown, hlocks, hname, hts, htab⟩, hK, hH⟩ := id hC
  obtain ⟨hd, hlen, hlk⟩ := hok
  rw [← hlen] at hd
  have hx8' : Cond.codeWith M.1 M.2.1 M.2.2.1 M.2.2.2.1 (a_hh M.1) ∈ a_good ∧ ∃ a b h t, a_hh M.1 = [(a, b, h, t)] ∧ Cond.classLink M.1.cls t a_excN ∈ a_good := by
    rcases hx8 with e | e
    · exact e
    · exact absurd hk18 (e _ (a_lookup_in hlook))
  obtain ⟨hcw, a0, b0, h0, t0, ehh, hlinkT⟩ := hx8'
  unfold a_inv at hinv
  split at hinv
  · cases hinv
  · rename_i M0 hM0
    rw [List.getElem?_map, hq] at hM0
    cases hM0
    split at hinv
    · rename_i idx
      split at hinv
      · split at hinv
        · rename_i v r hdr
          split at hinv
          · rename_i hcond
            cases hinv
            obtain ⟨t1, t2, t3⟩ := a_take hdr
            obtain ⟨hs0, hlk1, ⟨T, N, hcl⟩, hcat⟩ := a_lk_virt hq hlk
            obtain ⟨hL', hnm, hpl, hini, s0, -⟩ := a_mb_s (hZ q (List.mem_of_getElem? hq)).1
            obtain ⟨hcode, hin, hsel⟩ := s0 hs0
            obtain ⟨a1, b1, tt, ehh2, hle1, hlt1, ht0, hrint, n0, ln0, hdec, hn0, hlk2, hlk3⟩ := a_cat_s (hcat hk18)
            have hMx : vx_Met l q.1.1 (a_wsM q.1) (a_rm d' c' s') (a_Pc G HA X (v :: (st.take q.1.2.2.2.2.1).reverse) h) (fun _ _ _ _ => False) (a_XC G HA h') c' s' (a_A G) := vx_ofW hpl rfl hbody
            unfold a_recv at hcond
            obtain ⟨hrc, hw, -⟩ := hcond
            split at hrc
            · rename_i o
              split at hrc
              · rename_i ci fs hcell
                have hci : ci = k.2.2.1 := of_decide_eq_true hrc
                subst hci
                have hstack : (F0 m pc L (st.map (a_rn G))).stack = (((st.take q.1.2.2.2.2.1).reverse).map (a_rn G)).reverse ++ .ref (G.2.2.1 + o) :: rest.map (a_rn G) := by
                  show st.map (a_rn G) = _
                  rw [a_rev]
                  conv => lhs; rw [t2]
                  rw [List.map_append]
                  rfl
                have hrecv := va_recv hK.1 hr.2.2.2 hcl (a_ws_of hcell)
                have hpre : PreV s H q.1.1.cls (G.2.2.1 + o) (a_Pc G HA X (.ref (o + 2) :: (st.take q.1.2.2.2.2.1).reverse) h) (((st.take q.1.2.2.2.2.1).reverse).map (a_rn G)) :=
                  ⟨a_blind G HA X _ h, hrecv, fun U hU hW => ⟨rfl, hK.warm hW, by rw [hU]; exact hr⟩⟩
                have hlen' : (((st.take q.1.2.2.2.2.1).reverse).map (a_rn G)).length = q.1.2.2.2.2.1 := by rw [List.length_map, List.length_reverse, t3]
                have hroom : 2 * (F0 m pc L (st.map (a_rn G))).monitorRoom + ((rest.map (a_rn G)).map fun v => v.category).sum ≤ 8 := by
                  show 2 * 0 + _ ≤ 8
                  rw [a_wd_rn]; omega
                have hR : (a_rm d' c' s').frames + 1 ≤ R.frames ∧ 8 + (q.1.2.2.1 + 11) + (a_rm d' c' s').locals ≤ R.locals := ⟨by show d' + 8 + 1 ≤ _; omega, by show 8 + (q.1.2.2.1 + 11) + (200 + 60 * d') ≤ _; omega⟩
                have hrun := vx_runV (e := e) (below := below) (meth := meth) (locs := locs) (cells := cells) (slots := slots) (Ts := a_good) (own := M.1.cls) (C := q.1.1.cls) ⟨hx, hb, hml, hown, hts⟩ hMx (cwV q.1.2.2.2.2.1 hts (a_goodOf (by
                    intro w hw
                    simp only [wsV, List.mem_append, List.mem_cons, List.not_mem_nil, or_false] at hw
                    rcases hw with (rfl | rfl | rfl | rfl) | hw
                    · exact hlk1
                    · exact hin
                    · exact hsel
                    · exact hini
                    · exact a_wsM_in hcode w hw)) rfl rfl rfl ⟨rfl, hnm⟩ hR) hpre rfl hlen' hl.1 hstack hroom hd ⟨hcc, hss⟩
                intro T0 hT0 Y
                rcases hrun T0 hT0 Y with ⟨v', st₀, t, T', L', -, -, -, -, -, hf, -⟩ | ⟨qx, st₀, t, T', L', E, ce, hh0, Y', hL', e1, e2, ⟨hE, hq1, hq2⟩, hce, hcv, hclE, stp⟩
                · exact hf.elim
                · subst hE
                  rw [ehh] at ehh2
                  cases ehh2
                  have hS' : va_S (a_A G) s.heap T'.heap (locs ++ L') := by
                    rw [hh0] at hq2
                    refine ⟨by rw [e1]; exact Nat.le_trans hS.1 hq2, fun z g1 g2 => ?_, fun z hz => ?_⟩
                    · rcases Nat.lt_or_ge z G.2.2.1 with y | y
                      · rw [e1, hq1.2.2.1 z y, hH.2 z y]
                      · exact absurd y g2
                    · rcases List.mem_append.mp hz with y | y
                      · exact hS.2.2 z y
                      · exact hL' z y
                  have hr' : a_hr G HA h' T'.heap := by rw [e1]; exact hq1
                  have hend : ∀ L1 : Array Slot, L1.size = M.2.2.1 → W p l e R s m args below meth c T'.heap (locs ++ L') (cells + c') (slots + s') Q (F0 m (k.2.2.2.toNat / 100000 + ln0) L1 []) := by
                    intro L1 hL1
                    have hoki := hMP _ _ _ _ hlk2
                    have hokr := hMP _ _ _ _ hlk3
                    refine lv_iconst (v := 1) hx hb hoki.1 (by decide) ?_
                    exact fin _ _ _ _ [.int 1] h' c' s' T'.heap (locs ++ L') L1 hokr (by rw [hrint]; rfl) hr' hS' hL1 rfl rfl rfl
                  have hcatch : vx_W p l e R s m args below meth c T'.heap (locs ++ L') (cells + c') (slots + s') Q (F0 m pc L (rest.map (a_rn G))) qx := by
                    refine vx_catch (own := M.1.cls) (name := a_excN) (E := a_excN) (ce := ce) hown [] ⟨a0, b0, k.2.2.2.toNat / 100000, t0⟩ [] (by rw [htab _ hcw, ehh]; rfl) (fun z hz => by cases hz) (by simp only [covers, Bool.and_eq_true, decide_eq_true_eq]; exact ⟨hle1, hlt1⟩) ht0 (hts _ hlinkT) (va_Nw.use rfl (hK.2.1 _ List.mem_cons_self)) (by rw [e1]; exact hce) hcv hclE ?_
                    rcases hdec with ⟨hd1, e9⟩ | ⟨z, hz, hd1, e9⟩
                    · subst e9
                      exact lv_astore hx hb hd1 hl (by omega) rfl (fun L1 h1 => hend L1 h1.1)
                    · subst e9
                      exact lv_astore_n hx hb hd1 hz hl (by omega) rfl (fun L1 h1 => hend L1 h1.1)
                  obtain ⟨t9, a9, b9⟩ := hcatch T' rfl Y'
                  exact ⟨t9, stp.trans a9, b9⟩
              · cases hrc
            · cases hrc
          · cases hinv
        · cases hinv
      · cases hinv
    · split at hinv
      · rename_i hk
        rw [hk18] at hk
        cases hk
      · cases hinv
    · split at hinv
      · rename_i hk
        rw [hk18] at hk
        rcases hk with e | e <;> cases e
      · cases hinv
    · cases hinv
set_option maxHeartbeats 1000000 in
/-- THE WALK OF A METHOD'S BODY, out of its run on paper -/
theorem a_sim {l : Launch} (hlt : l.stackTraces = false) {Z : List aZ} (hZ : a_ZOK Z) (h18 : a_Z18 Z) {G : aG} {HA : Heap} {X : aX} : ∀ (f d : Nat) (M : aM) (pc : Nat) (ls : aL) (st : List Value) (h : aH) (v : Option Value) (h' : aH) (c' s' : Nat), a_okM Z M → a_x18 M → aexec (Z.map Prod.fst) X f d M pc ls st h = some (v, h', c', s') →
    ∀ {p : Program} {e : Env} {R : Room} {s : State} {m : MethodId} {args : Array Value} {below : List Frame} {meth : Method} {c : Code} {H : Heap} {locs : List Loc} {cells slots : Nat} {Q : State → Prop} {L : Array Slot},
    a_Cx G HA X M p s m args meth c → a_hr G HA h H → va_S (a_A G) s.heap H locs → lv_has L M.2.2.1 (a_lv G ls) → ls.length = M.2.2.1 → d + 8 ≤ R.frames → 200 + 60 * d ≤ R.locals → cells + c' ≤ R.cells → slots + s' ≤ R.slots →
    (∀ (pc1 : Nat) (i : Instr) (len : Nat) (k : aK) (st1 : List Value) (h1 : aH) (c1 s1 : Nat) (H1 : Heap) (locs1 : List Loc) (L1 : Array Slot), a_ok Z M pc1 i len k → a_ret i k M.2.2.2.1 st1 = some v → a_hr G HA h1 H1 → va_S (a_A G) s.heap H1 locs1 → L1.size = M.2.2.1 → h' = (a_end v h1).1 → c' = c1 + (a_end v h1).2.1 → s' = s1 + (a_end v h1).2.2 →
      W p l e R s m args below meth c H1 locs1 (cells + c1) (slots + s1) Q (F0 m pc1 L1 (st1.map (a_rn G)))) →
    W p l e R s m args below meth c H locs cells slots Q (F0 m pc L (st.map (a_rn G))) := by
  intro f
  induction f with
  | zero => intro d M pc ls st h v h' c' s' _ _ he; cases he
  | succ f ih =>
    intro d M pc ls st h v h' c' s' hMP hx8 he p e R s m args below meth c H locs cells slots Q L hC hr hS hl hll hfr hlo hcc hss fin
    unfold aexec at he
    split at he
    · cases he
    · rename_i i len k hlook
      have hok : a_ok Z M pc i len k := hMP pc i len k hlook
      split at he
      · rename_i pc2 ls2 st2 h2 c2 s2 hop
        obtain ⟨c3, s3, he2, rfl, rfl⟩ := a_more_s he
        refine a_sim_op hC hok hop hr hS hl hll (by omega) (by omega) (by omega) (by omega) (fun H' locs' L' g1 g2 g3 g4 => ?_)
        refine ih d M pc2 ls2 st2 h2 v h' c3 s3 hMP hx8 he2 hC g1 g2 g3 g4 hfr hlo (by omega) (by omega) (fun pc1 i1 len1 k1 st1 h1 c1 s1 H1 locs1 L1 q1 q2 q3 q4 q5 q6 q7 q8 => ?_)
        have := fin pc1 i1 len1 k1 st1 h1 (c2 + c1) (s2 + s1) H1 locs1 L1 q1 q2 q3 q4 q5 q6 (by omega) (by omega)
        rw [Nat.add_assoc, Nat.add_assoc]
        exact this
      · split at he
        · rename_i v1 hret
          split at he
          · cases he
            exact fin pc i len k st h 0 0 H locs L hok hret hr hS hl.1 rfl rfl rfl
          · rename_i hno
            cases he
            have hE := a_end_no hno h
            exact fin pc i len k st h 0 0 H locs L hok hret hr hS hl.1 (by rw [hE]) (by rw [hE]; rfl) (by rw [hE]; rfl)
        · split at he
          · cases he
          · rename_i M' as rest hinv
            split at he
            · cases he
            · rename_i d'
              split at he
              · cases he
              · rename_i v1 h1 c1 s1 hcall
                split at he
                · rename_i n
                  split at he
                  · rename_i hk18
                    cases he
                    obtain ⟨q, hqZ, rfl, hq⟩ := a_inv_Z hinv
                    exact a_sim_catch hlt hZ hC hMP hx8 hlook hk18 hr hS hl hfr hlo hcc hss hinv hq (fun p2 e2 s2 m2 args2 below2 meth2 cd2 s₁ B hml hnt hv => by
                      obtain ⟨hL', hnm, hpl, -⟩ := a_mb_s (hZ q hqZ).1
                      obtain ⟨rfl, hK2, hr2⟩ := hv
                      have hts := atoms_spec (ws := a_wsM q.1) B.pre
                      have hsz : (lg_sl (as.map (a_rn G))).length ≤ q.1.2.2.1 := by rw [a_sl_len]; exact (a_inv_in hinv).2
                      have hl2 := lv_entry (as.map (a_rn G)) hsz
                      rw [lg_entry_eq]
                      generalize (lg_sl (as.map (a_rn G)) ++ List.replicate (q.1.2.2.1 - (lg_sl (as.map (a_rn G))).length) Slot.unset).toArray = L2 at hl2 ⊢
                      have hH2 : a_H0 G HA s2 := ⟨by rw [hr2.1]; exact Nat.le_add_right _ _, hr2.2.2.1⟩
                      have hC2 : a_Cx G HA X q.1 p2 s2 m2 (as.map (a_rn G)).toArray meth2 cd2 := ⟨⟨B.exec, B.bytes, B.returns, hml, findClass_of_methodNamed B.named, B.notSynchronized, (name_of_methodNamed B.named B.method).1, fun w hw => hts w (List.mem_cons_of_mem _ hw), fun hh hw => vx_table (x := q.1.1) B (hts _ (List.mem_cons_of_mem _ hw))⟩, hK2, hH2⟩
                      refine ih d' q.1 0 (a_ent as q.1.2.2.1) [] h _ h' c' s' (a_okM_of (hZ q hqZ).2) (a_x18_of hZ h18 hqZ) hcall (R := (headSpec (a_wsM q.1) (a_rm d' c' s')).room) (locs := []) (cells := 0) (slots := 0) hC2 hr2 va_S.rf (a_lv_has hl2 (a_ent_lv G as q.1.2.2.1)) (a_ent_len (a_inv_in hinv).2) (Nat.le_refl _) (Nat.le_refl _) (by show 0 + c' ≤ c'; omega) (by show 0 + s' ≤ s'; omega) ?_
                      intro pc1 i1 len1 k1 st1 h2 c2 s2' H1 locs1 L1 q1 q2 q3 q4 q5 q6 q7 q8
                      subst q6
                      have q7' : c' = c2 + 1 := q7
                      have q8' : s' = s2' + 6 := q8
                      subst q7'; subst q8'
                      rw [Nat.zero_add, Nat.zero_add]
                      exact a_sim_thr hlt hC2 hnt q1 q2 q3 q4 q5 (by show 8 ≤ d' + 8; omega) (by show 200 ≤ 200 + 60 * d'; omega) (Nat.le_refl _) (Nat.le_refl _) (Nat.le_refl _) (Nat.le_refl _)) fin
                  · cases he
                · rename_i hno
                  obtain ⟨c3, s3, he2, rfl, rfl⟩ := a_more_s he
                  obtain ⟨q, hqZ, rfl, hq⟩ := a_inv_Z hinv
                  have hMP' : a_okM Z q.1 := a_okM_of (hZ q hqZ).2
                  by_cases hk20 : k.1 = 20
                  · have hM : Met l q.1.1 (a_wsW q.1) (a_rm d' c1 s1) (a_Pc G HA X as h) (a_Qc G HA v1 h1) c1 s1 (a_A G) := by
                      obtain ⟨hL', hnm, hpl, -⟩ := a_mb_s (hZ q hqZ).1
                      refine a_MetWT (hh := a_hh q.1.1) (cc := q.1.2.1) (maxL := q.1.2.2.1) (ret := q.1.2.2.2.1) hpl rfl ?_
                      intro p2 e2 s2 m2 args2 below2 meth2 cd2 s₁ B hml hv
                      obtain ⟨rfl, hK2, hr2⟩ := hv
                      have hts := atoms_spec (ws := a_wsW q.1) B.pre
                      have hsz : (lg_sl (as.map (a_rn G))).length ≤ q.1.2.2.1 := by rw [a_sl_len]; exact (a_inv_in hinv).2
                      have hl2 := lv_entry (as.map (a_rn G)) hsz
                      rw [lg_entry_eq]
                      generalize (lg_sl (as.map (a_rn G)) ++ List.replicate (q.1.2.2.1 - (lg_sl (as.map (a_rn G))).length) Slot.unset).toArray = L2 at hl2 ⊢
                      have hH2 : a_H0 G HA s2 := ⟨by rw [hr2.1]; exact Nat.le_add_right _ _, hr2.2.2.1⟩
                      refine ih d' q.1 0 (a_ent as q.1.2.2.1) [] h v1 h1 c1 s1 hMP' (a_x18_of hZ h18 hqZ) hcall (R := (headSpec (a_wsW q.1) (a_rm d' c1 s1)).room) (locs := []) (cells := 0) (slots := 0) ⟨⟨B.exec, B.bytes, B.returns, hml, findClass_of_methodNamed B.named, B.notSynchronized, (name_of_methodNamed B.named B.method).1, fun w hw => hts w (List.mem_cons_of_mem _ hw), fun hh hw => vx_table (x := q.1.1) B (hts _ (List.mem_cons_of_mem _ hw))⟩, hK2, hH2⟩ hr2 va_S.rf (a_lv_has hl2 (a_ent_lv G as q.1.2.2.1)) (a_ent_len ((a_inv_in hinv).2)) (Nat.le_refl _) (Nat.le_refl _) (by show 0 + c1 ≤ c1; omega) (by show 0 + s1 ≤ s1; omega) ?_
                      intro pc1 i1 len1 k1 st1 h2 c2 s2' H1 locs1 L1 q1 q2 q3 q4 q5 q6 q7 q8
                      have hE := a_end_no hno h2
                      rw [hE] at q6 q7 q8
                      subst q6
                      have q7' : c1 = c2 := q7
                      have q8' : s1 = s2' := q8
                      subst q7'; subst q8'
                      rw [Nat.zero_add, Nat.zero_add]
                      exact a_sim_fin B.exec B.bytes B.returns B.notSynchronized q1 q2 hno q3 q4
                    obtain ⟨hl3, hrun⟩ := a_sim_run20 hZ (cells := cells) (slots := slots) (below := below) (locs := locs) (R := R) (e := e) hC.1 hC.2.1 hok hr hl.1 hinv hq hk20 hM (by omega) (by omega) (by omega) (by omega)
                    refine a_sim_back hrun hC.2.2 hS (fun H' locs' g1 g2 => ?_)
                    have h3 : len = 3 := by rw [← hok.2.1]; exact hl3
                    subst h3
                    rw [a_toList]
                    refine ih (d' + 1) M (pc + 3) ls (v1.toList ++ rest) h1 v h' c3 s3 hMP hx8 he2 hC g1 g2 hl hll hfr hlo (by omega) (by omega) (fun pc1 i1 len1 k1 st1 h2 c2 s2 H1 locs1 L1 q1 q2 q3 q4 q5 q6 q7 q8 => ?_)
                    have := fin pc1 i1 len1 k1 st1 h2 (c1 + c2) (s1 + s2) H1 locs1 L1 q1 q2 q3 q4 q5 q6 (by omega) (by omega)
                    rw [Nat.add_assoc, Nat.add_assoc]
                    exact this
                  · have hcode : Cond.code q.1.1 q.1.2.1 q.1.2.2.1 q.1.2.2.2.1 ∈ a_good := a_inv_code hZ hinv hok.2.2 hq hk20
                    have hM : Met l q.1.1 (a_wsM q.1) (a_rm d' c1 s1) (a_Pc G HA X as h) (a_Qc G HA v1 h1) c1 s1 (a_A G) := by
                      obtain ⟨hL', hnm, hpl, -⟩ := a_mb_s (hZ q hqZ).1
                      refine a_MetofW (cc := q.1.2.1) (maxL := q.1.2.2.1) (ret := q.1.2.2.2.1) hpl rfl ?_
                      intro p2 e2 s2 m2 args2 below2 meth2 cd2 s₁ B hml hv
                      obtain ⟨rfl, hK2, hr2⟩ := hv
                      have hts := atoms_spec (ws := a_wsM q.1) B.pre
                      have hsz : (lg_sl (as.map (a_rn G))).length ≤ q.1.2.2.1 := by rw [a_sl_len]; exact (a_inv_in hinv).2
                      have hl2 := lv_entry (as.map (a_rn G)) hsz
                      rw [lg_entry_eq]
                      generalize (lg_sl (as.map (a_rn G)) ++ List.replicate (q.1.2.2.1 - (lg_sl (as.map (a_rn G))).length) Slot.unset).toArray = L2 at hl2 ⊢
                      have hH2 : a_H0 G HA s2 := ⟨by rw [hr2.1]; exact Nat.le_add_right _ _, hr2.2.2.1⟩
                      refine ih d' q.1 0 (a_ent as q.1.2.2.1) [] h v1 h1 c1 s1 hMP' (a_x18_of hZ h18 hqZ) hcall (R := (headSpec (a_wsM q.1) (a_rm d' c1 s1)).room) (locs := []) (cells := 0) (slots := 0) ⟨⟨B.exec, B.bytes, B.returns, hml, findClass_of_methodNamed B.named, B.notSynchronized, (name_of_methodNamed B.named B.method).1, fun w hw => hts w (List.mem_cons_of_mem _ hw), fun hh hw => vx_table (x := q.1.1) B (hts _ (List.mem_cons_of_mem _ hw))⟩, hK2, hH2⟩ hr2 va_S.rf (a_lv_has hl2 (a_ent_lv G as q.1.2.2.1)) (a_ent_len ((a_inv_in hinv).2)) (Nat.le_refl _) (Nat.le_refl _) (by show 0 + c1 ≤ c1; omega) (by show 0 + s1 ≤ s1; omega) ?_
                      intro pc1 i1 len1 k1 st1 h2 c2 s2' H1 locs1 L1 q1 q2 q3 q4 q5 q6 q7 q8
                      have hE := a_end_no hno h2
                      rw [hE] at q6 q7 q8
                      subst q6
                      have q7' : c1 = c2 := q7
                      have q8' : s1 = s2' := q8
                      subst q7'; subst q8'
                      rw [Nat.zero_add, Nat.zero_add]
                      exact a_sim_fin B.exec B.bytes B.returns B.notSynchronized q1 q2 hno q3 q4
                    obtain ⟨hl3, hrun⟩ := a_sim_run hZ (cells := cells) (slots := slots) (below := below) (locs := locs) (R := R) (e := e) hC.1 hC.2.1 hok hr hl.1 hinv hk20 hM (by omega) (by omega) (by omega) (by omega)
                    refine a_sim_back hrun hC.2.2 hS (fun H' locs' g1 g2 => ?_)
                    have h3 : len = 3 := by rw [← hok.2.1]; exact hl3
                    subst h3
                    rw [a_toList]
                    refine ih (d' + 1) M (pc + 3) ls (v1.toList ++ rest) h1 v h' c3 s3 hMP hx8 he2 hC g1 g2 hl hll hfr hlo (by omega) (by omega) (fun pc1 i1 len1 k1 st1 h2 c2 s2 H1 locs1 L1 q1 q2 q3 q4 q5 q6 q7 q8 => ?_)
                    have := fin pc1 i1 len1 k1 st1 h2 (c1 + c2) (s1 + s2) H1 locs1 L1 q1 q2 q3 q4 q5 q6 (by omega) (by omega)
                    rw [Nat.add_assoc, Nat.add_assoc]
                    exact this
end PT06
