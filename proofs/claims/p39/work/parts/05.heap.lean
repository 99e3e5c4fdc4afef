/-! ===== instructions on the heap ===== -/
theorem a_fit_s {ty : FieldType} {v : Value} (h : a_fit ty v = true) (G : aG) : narrow ty (a_rn G v) = a_rn G v ∧ fits ty (a_rn G v) = true := by
  unfold a_fit at h
  split at h
  · exact ⟨rfl, rfl⟩
  · exact ⟨rfl, rfl⟩
  · simp only [Bool.and_eq_true, decide_eq_true_eq] at h; exact h
  · simp only [Bool.and_eq_true, decide_eq_true_eq] at h; exact h
  · exact ⟨rfl, rfl⟩
  · exact ⟨rfl, rfl⟩
  · cases h
theorem a_rn_map_at {G : aG} {fs : List Value} {n : Nat} {v : Value} (h : fs[n]? = some v) : (fs.map (a_rn G))[n]? = some (a_rn G v) := by rw [List.getElem?_map, h]; rfl
theorem a_rv_rn (G : aG) (x : Option Nat) : va_rf (x.map (a_ad G)) = a_rn G (a_rv x) := by cases x <;> rfl
theorem a_upd (l : List Int32) {j : Nat} (x : Int32) (hj : j < l.length) : upd (fun n => l.getD n 0) j x = fun n => (l.set j x).getD n 0 := by
  funext n
  simp only [upd, List.getD_eq_getElem?_getD, List.getElem?_set]
  by_cases h : n = j
  · subst h; simp [hj]
  · rw [if_neg h, if_neg (Ne.symm h)]
theorem a_updL (l : List Int64) {j : Nat} (x : Int64) (hj : j < l.length) : vp_updL (fun n => l.getD n 0) j x = fun n => (l.set j x).getD n 0 := by
  funext n
  simp only [vp_updL, List.getD_eq_getElem?_getD, List.getElem?_set]
  by_cases h : n = j
  · subst h; simp [hj]
  · rw [if_neg h, if_neg (Ne.symm h)]
theorem a_updQ (G : aG) (l : List (Option Nat)) {j : Nat} (x : Nat) (hj : j < l.length) : va_up (fun n => (l.getD n none).map (a_ad G)) j (some (a_ad G x)) = fun n => ((l.set j (some x)).getD n none).map (a_ad G) := by
  funext n
  simp only [va_up, List.getD_eq_getElem?_getD, List.getElem?_set]
  by_cases h : n = j
  · subst h; simp [hj]
  · rw [if_neg h, if_neg (Ne.symm h)]
/-- what a method's start says of the heap -/
def a_H0 (G : aG) (HA : Heap) (s : State) : Prop := G.2.2.1 ≤ s.heap.size ∧ ∀ q : Nat, q < G.2.2.1 → s.heap[q]? = HA[q]?
/-- the heap behind a store -/
theorem a_stored {G : aG} {HA : Heap} {h : aH} {H H1 : Heap} {o : Nat} {c0 c1 : aE} (hr : a_hr G HA h H) (e : h[o]? = some c0) (z : H1.size = H.size) (oq : ∀ q : Nat, q ≠ G.2.2.1 + o → H1[q]? = H[q]?) (hat : va_at G.2.2.2.1 vwCl (G.2.2.1 + o, a_cc G c1) H1) : a_hr G HA (h.set o c1) H1 := by
  refine ⟨by rw [z, List.length_set]; exact hr.1, hr.2.1, fun x hx => ?_, ?_⟩
  · rw [oq x (by omega)]
    exact hr.2.2.1 x hx
  · rw [← a_ws_set]
    exact hr.2.2.2.set (a_D G h) (a_ws_of e) hat oq
theorem a_S_put {G : aG} {H0 H H1 : Heap} {locs : List Loc} {o j : Nat} (hS : va_S (a_A G) H0 H locs) (z : H1.size = H.size) (oq : ∀ q : Nat, q ≠ G.2.2.1 + o → H1[q]? = H[q]?) : va_S (a_A G) H0 H1 (locs ++ [⟨G.2.2.1 + o, j⟩]) := hS.put z oq (Nat.le_add_right _ _)
/-- the heap behind a new cell -/
theorem a_pushed {G : aG} {HA : Heap} {h : aH} {H H1 : Heap} {c1 : aE} (hr : a_hr G HA h H) (z : H1.size = H.size + 1) (oq : ∀ q : Nat, q < H.size → H1[q]? = H[q]?) (hat : va_at G.2.2.2.1 vwCl (G.2.2.1 + h.length, a_cc G c1) H1) : a_hr G HA (h ++ [c1]) H1 := by
  refine ⟨by rw [z, List.length_append, hr.1]; rfl, hr.2.1, fun x hx => ?_, ?_⟩
  · rw [oq x (by rw [hr.1]; omega)]
    exact hr.2.2.1 x hx
  · rw [a_ws_app]
    refine (hr.2.2.2.kept (fun k q hk => oq q.1 ((hr.2.2.2 k q hk).lt))).app (fun k q hk => ?_)
    have hz : k < 1 := (List.getElem?_eq_some_iff.mp hk).1
    rw [show k = 0 by omega] at hk
    cases hk
    exact hat
theorem a_S_push {G : aG} {H0 H H1 : Heap} {locs : List Loc} (hS : va_S (a_A G) H0 H locs) (z : H1.size = H.size + 1) (oq : ∀ q : Nat, q < H.size → H1[q]? = H[q]?) : va_S (a_A G) H0 H1 locs :=
  ⟨by rw [z]; exact Nat.le_succ_of_le hS.1, fun q h1 h2 => (oq q (Nat.lt_of_lt_of_le h1 hS.1)).trans (hS.2.1 q h1 h2), hS.2.2⟩
section AHP
variable {p : Program} {l : Launch} {e : Env} {R : Room} {s : State} {m : MethodId} {args : Array Value} {below : List Frame} {meth : Method} {c : Code} {H : Heap} {locs : List Loc} {cells slots : Nat} {Q : State → Prop}
variable {Z : List aZ} {M : aM} {G : aG} {HA : Heap} {X : aX} {pc idx : Nat} {k : aK} {L : Array Slot} {h h' : aH} {st st' : List Value} {c1 s1 : Nat}
theorem a_sim_get (hF : a_Fr M p s m args meth c) (hK : a_Kn G HA X s) (hd : decode M.2.1 pc = .ok (.getfield idx, 3)) (hlk : a_lk Z M pc (.getfield idx) k = true) (hr : a_hr G HA h H) (hS : va_S (a_A G) s.heap H locs) (ho : a_get k st h = some (st', h', c1, s1))
    (kk : ∀ (H' : Heap) (locs' : List Loc), a_hr G HA h' H' → va_S (a_A G) s.heap H' locs' → W p l e R s m args below meth c H' locs' (cells + c1) (slots + s1) Q (F0 m (pc + 3) L (st'.map (a_rn G)))) : W p l e R s m args below meth c H locs cells slots Q (F0 m pc L (st.map (a_rn G))) := by
  obtain ⟨hx, hb, -, -, hown, -, -, hts, -⟩ := hF
  unfold a_get at ho
  split at ho
  · rename_i o r
    split at ho
    · rename_i ci fs hc
      split at ho
      · rename_i hci
        split at ho
        · rename_i v hv
          cases ho
          skip
          subst hci
          obtain ⟨C, T, N, hcl, hn, hl⟩ := a_lk_get hlk
          exact va_get (ci := k.2.1) (fs := fs.map (a_rn G)) hx hb hts (a_inC hcl) hown hK.1 hr.2.2.2 o (a_ws_of hc) hcl k.2.2.1 hn (hts _ hl) (fun _ h => h) (a_rn_map_at hv) hd (kk H locs hr hS)
        · cases ho
      · cases ho
    · cases ho
  · cases ho
theorem a_sim_put (hF : a_Fr M p s m args meth c) (hK : a_Kn G HA X s) (hd : decode M.2.1 pc = .ok (.putfield idx, 3)) (hlk : a_lk Z M pc (.putfield idx) k = true) (hr : a_hr G HA h H) (hS : va_S (a_A G) s.heap H locs) (ho : a_put k st h = some (st', h', c1, s1))
    (kk : ∀ (H' : Heap) (locs' : List Loc), a_hr G HA h' H' → va_S (a_A G) s.heap H' locs' → W p l e R s m args below meth c H' locs' (cells + c1) (slots + s1) Q (F0 m (pc + 3) L (st'.map (a_rn G)))) : W p l e R s m args below meth c H locs cells slots Q (F0 m pc L (st.map (a_rn G))) := by
  obtain ⟨hx, hb, -, -, hown, -, hname, hts, -⟩ := hF
  unfold a_put at ho
  split at ho
  · rename_i v o r
    split at ho
    · rename_i ci fs hc
      split at ho
      · rename_i hci
        split at ho
        · rename_i hkl
          split at ho
          · rename_i hfit
            cases ho
            skip
            subst hci
            obtain ⟨C, T, N, hcl, hn, hl⟩ := a_lk_put hlk
            obtain ⟨hn1, hf1⟩ := a_fit_s hfit G
            have hin := a_inC hcl
            have hty := a_ftyOK hcl
            have hap := va_apart (args := args) (own := C) hts hin _ hty (a_nm hcl) hK.1 hcl
            obtain ⟨r', h1, cell, q1, q2, q3, q4⟩ := hr.2.2.2 o _ (a_ws_of hc)
            have e' : r' = (C, T, N) := Option.some.inj (h1.symm.trans hcl)
            subst e'
            obtain ⟨hSl, hfc, kC, hkC, hkind⟩ := hK.1.1 k.2.1 _ hcl
            obtain ⟨cf, kf, fi, f, hi, hsl⟩ := hSl k.2.2.1 hn
            have hlay := hts _ (hin _ (u_in_lay hn))
            have hst := (u_facts hfc hkC (u_lays hts hin hn) hi).1
            have hat : ∀ H1 : Heap, H1[G.2.2.1 + o]? = some (cell.setSlot f.slot (a_rn G v)) → va_at G.2.2.2.1 vwCl (G.2.2.1 + o, a_cc G (.inr (k.2.1, fs.set k.2.2.1 v))) H1 := by
              intro H1 e1
              rw [hsl] at e1
              refine ⟨_, hcl, ?_⟩
              show t_OB (G.2.2.1 + o) _ _ _ H1 (vp_V ((fs.set k.2.2.1 v).map (a_rn G)))
              rw [List.map_set]
              exact t_OB.to (V := updV (vp_V (fs.map (a_rn G))) k.2.2.1 (a_rn G v)) ⟨_, e1, q2, q3, t_set q4 hap hn _⟩ (fun j _ => vp_updV_set (by rw [List.length_map]; exact hkl) _ j)
            rcases hl with ⟨hl, hfin⟩ | ⟨hl, hfin, hi0, ho0⟩
            · unfold u_lay at hlay
              rw [if_neg (by rw [hfin]; decide)] at hlay
              have h6 := u_store hfc hkC hkind hlay hi (hty _ hn) hn1 hf1
              exact W.putK hx hb (f := f) ⟨hown, hts _ hl, ⟨_, _, _, hi⟩, hst⟩ (by rw [q2]; exact h6) q1 q3 (by rw [hsl]; exact k2_hasslot (q4 _ hn)) rfl rfl hd fun H' e1 e2 e3 => kk H' _ (a_stored hr hc e2 e3 (hat H' e1)) (a_S_put hS e2 e3)
            · unfold u_lay at hlay
              rw [if_pos hfin] at hlay
              have hcf : m.cls = cf := by
                obtain ⟨_, _, c', _, _, _, -, -, hf', -, -, -, hown2, -⟩ := Cond.laysFinal_spec hlay
                have e1 : c' = cf := by have := hi.symm.trans hf'; simp at this; exact this.1.symm
                rw [ho0] at hown2
                rw [← e1]; exact Option.some.inj (hown.symm.trans hown2)
              have h6 := u_fits hfc hkC hkind (Or.inr hlay) hi (hty _ hn) hn1 hf1
              exact W.putFinK hx hb hown (hts _ hl) hi hst hcf (hname.trans hi0) (by rw [q2]; exact h6) q1 q3 (by rw [hsl]; exact k2_hasslot (q4 _ hn)) rfl rfl hd fun H' e1 e2 e3 => kk H' _ (a_stored hr hc e2 e3 (hat H' e1)) (a_S_put hS e2 e3)
          · cases ho
        · cases ho
      · cases ho
    · cases ho
  · cases ho
theorem a_ald_s {t : Nat} (ho : a_ald t st h = some (st', h', c1, s1)) : ∃ (j : Int32) (o : Nat) (v : List Int32) (r : List Value), st = .int j :: .ref (o + 2) :: r ∧ h[o]? = some (.inl (t, .inl v)) ∧ vp_in j v.length ∧ st' = .int (v.getD j.toNatClampNeg 0) :: r ∧ h' = h ∧ c1 = 0 ∧ s1 = 0 := by
  unfold a_ald at ho
  split at ho
  · split at ho
    · rename_i hc
      split at ho
      · rename_i ht
        split at ho
        · cases ho
        · rename_i hj
          cases ho
          subst ht
          exact ⟨_, _, _, _, rfl, hc, hj, rfl, rfl, rfl, rfl⟩
      · cases ho
    · cases ho
  · cases ho
theorem a_ast_s {t : Nat} (ho : a_ast t st h = some (st', h', c1, s1)) : ∃ (x j : Int32) (o : Nat) (v : List Int32) (r : List Value), st = .int x :: .int j :: .ref (o + 2) :: r ∧ h[o]? = some (.inl (t, .inl v)) ∧ vp_in j v.length ∧ st' = r ∧ h' = h.set o (.inl (t, .inl (v.set j.toNatClampNeg (a_nar t x)))) ∧ c1 = 0 ∧ s1 = 0 := by
  unfold a_ast at ho
  split at ho
  · split at ho
    · rename_i hc
      split at ho
      · rename_i ht
        split at ho
        · cases ho
        · rename_i hj
          cases ho
          subst ht
          exact ⟨_, _, _, _, _, rfl, hc, hj, rfl, rfl, rfl, rfl⟩
      · cases ho
    · cases ho
  · cases ho
theorem vp_in_lt {j : Int32} {n : Nat} (h : vp_in j n) : j.toNatClampNeg < n := Nat.not_le.mp fun q => h (Or.inr q)
theorem a_cell_i (cA : ClassId) (v : List Int32) {j : Nat} (x : Int32) (hj : j < v.length) : (vp_cell cA (v.length, .inl (fun n => v.getD n 0))).setSlot j (.int x) = vp_cell cA ((v.set j x).length, .inl (fun n => (v.set j x).getD n 0)) := by
  rw [vp_cell_i, vp_cell_i, arrV_store, List.length_set]
  refine congrArg (arrV cA v.length) (funext fun n => ?_)
  have e := congrFun (a_upd v x hj) n
  simp only [upd] at e
  by_cases q : n = j
  · rw [if_pos q] at e
    simp only [updV, if_pos q]
    rw [← e]
  · rw [if_neg q] at e
    simp only [updV, if_neg q]
    rw [← e]
theorem a_cell_l (cA : ClassId) (v : List Int64) {j : Nat} (x : Int64) (hj : j < v.length) : (vp_cell cA (v.length, .inr (.inl (fun n => v.getD n 0)))).setSlot j (.long x) = vp_cell cA ((v.set j x).length, .inr (.inl (fun n => (v.set j x).getD n 0))) := by
  rw [vp_cell_l, vp_cell_l, arrV_store, List.length_set]
  refine congrArg (arrV cA v.length) (funext fun n => ?_)
  have e := congrFun (a_updL v x hj) n
  simp only [vp_updL] at e
  by_cases q : n = j
  · rw [if_pos q] at e
    simp only [updV, if_pos q]
    rw [← e]
  · rw [if_neg q] at e
    simp only [updV, if_neg q]
    rw [← e]
theorem a_cell_q (G : aG) (cA : ClassId) (v : List (Option Nat)) {j : Nat} (x : Nat) (hj : j < v.length) : (vp_cell cA (v.length, .inr (.inr (.inr (.inr (fun n => (v.getD n none).map (a_ad G))))))).setSlot j (.ref (a_ad G x)) = vp_cell cA ((v.set j (some x)).length, .inr (.inr (.inr (.inr (fun n => ((v.set j (some x)).getD n none).map (a_ad G)))))) := by
  rw [vp_cell_q, vp_cell_q, arrV_store, List.length_set]
  refine congrArg (arrV cA v.length) (funext fun n => ?_)
  have e := congrFun (a_updQ G v x hj) n
  simp only [va_up] at e
  by_cases q : n = j
  · rw [if_pos q] at e
    simp only [updV, if_pos q]
    rw [← e]
    rfl
  · rw [if_neg q] at e
    simp only [updV, if_neg q]
    rw [← e]
theorem a_nar_2 (x : Int32) : narrow .boolean (.int x) = .int (a_nar 2 x) := rfl
theorem a_nar_3 (x : Int32) : narrow .char (.int x) = .int (a_nar 3 x) := rfl
theorem a_sim_ald (hF : a_Fr M p s m args meth c) (hK : a_Kn G HA X s) {i : Instr} (hi : i = .iaload ∨ i = .baload ∨ i = .caload) (hd : decode M.2.1 pc = .ok (i, 1)) (hr : a_hr G HA h H) (hS : va_S (a_A G) s.heap H locs) (ho : a_hp i k st h = some (st', h', c1, s1))
    (kk : ∀ (H' : Heap) (locs' : List Loc), a_hr G HA h' H' → va_S (a_A G) s.heap H' locs' → W p l e R s m args below meth c H' locs' (cells + c1) (slots + s1) Q (F0 m (pc + 1) L (st'.map (a_rn G)))) : W p l e R s m args below meth c H locs cells slots Q (F0 m pc L (st.map (a_rn G))) := by
  obtain ⟨hx, hb, -⟩ := hF
  rcases hi with rfl | rfl | rfl
  · obtain ⟨j, o, v, r, rfl, hc, hj, rfl, rfl, rfl, rfl⟩ := a_ald_s (t := 0) ho
    exact (va_iald hx hb hK.1 hr.2.2.2 o 0 (a_ws_of hc) (a_tyl_at a_ty0) hj hd (kk H locs hr hS))
  · obtain ⟨j, o, v, r, rfl, hc, hj, rfl, rfl, rfl, rfl⟩ := a_ald_s (t := 2) ho
    exact (va_zald hx hb hK.1 hr.2.2.2 o 2 (a_ws_of hc) (a_tyl_at a_ty2) hj hd (kk H locs hr hS))
  · obtain ⟨j, o, v, r, rfl, hc, hj, rfl, rfl, rfl, rfl⟩ := a_ald_s (t := 3) ho
    exact (va_cald hx hb hK.1 hr.2.2.2 o 3 (a_ws_of hc) (a_tyl_at a_ty3) hj hd (kk H locs hr hS))
theorem a_sim_ast (hF : a_Fr M p s m args meth c) (hK : a_Kn G HA X s) {i : Instr} (hi : i = .iastore ∨ i = .bastore ∨ i = .castore) (hd : decode M.2.1 pc = .ok (i, 1)) (hr : a_hr G HA h H) (hS : va_S (a_A G) s.heap H locs) (ho : a_hp i k st h = some (st', h', c1, s1))
    (kk : ∀ (H' : Heap) (locs' : List Loc), a_hr G HA h' H' → va_S (a_A G) s.heap H' locs' → W p l e R s m args below meth c H' locs' (cells + c1) (slots + s1) Q (F0 m (pc + 1) L (st'.map (a_rn G)))) : W p l e R s m args below meth c H locs cells slots Q (F0 m pc L (st.map (a_rn G))) := by
  obtain ⟨hx, hb, -⟩ := hF
  rcases hi with rfl | rfl | rfl
  · obtain ⟨x, j, o, v, r, rfl, hc, hj, rfl, rfl, rfl, rfl⟩ := a_ast_s (t := 0) ho
    refine W.iast hx hb (hr.2.2.2 o _ (a_ws_of hc)) ((hK.1.2 0 _ (a_tyl_at a_ty0)).1 v.length (fun n => .int (v.getD n 0))) (fun q => by cases q) (by show ¬ (_ ∨ (arrV _ _ _).slots.size ≤ _); rw [arrV_size]; exact hj) rfl rfl hd fun H' e1 z oq => kk H' _ (a_stored hr hc z oq ?_) (a_S_put hS z oq)
    show H'[_]? = some _
    rw [e1]
    exact congrArg some (a_cell_i _ v x (vp_in_lt hj))
  · obtain ⟨x, j, o, v, r, rfl, hc, hj, rfl, rfl, rfl, rfl⟩ := a_ast_s (t := 2) ho
    refine W.zast hx hb (hr.2.2.2 o _ (a_ws_of hc)) ((hK.1.2 2 _ (a_tyl_at a_ty2)).1 v.length (fun n => .int (v.getD n 0))) (fun q => by cases q) (by show ¬ (_ ∨ (arrV _ _ _).slots.size ≤ _); rw [arrV_size]; exact hj) rfl rfl hd fun H' e1 z oq => kk H' _ (a_stored hr hc z oq ?_) (a_S_put hS z oq)
    show H'[_]? = some _
    rw [e1]
    exact congrArg some (a_cell_i _ v (a_nar 2 x) (vp_in_lt hj))
  · obtain ⟨x, j, o, v, r, rfl, hc, hj, rfl, rfl, rfl, rfl⟩ := a_ast_s (t := 3) ho
    refine W.cast hx hb (hr.2.2.2 o _ (a_ws_of hc)) ((hK.1.2 3 _ (a_tyl_at a_ty3)).1 v.length (fun n => .int (v.getD n 0))) (fun q => by cases q) (by show ¬ (_ ∨ (arrV _ _ _).slots.size ≤ _); rw [arrV_size]; exact hj) rfl rfl hd fun H' e1 z oq => kk H' _ (a_stored hr hc z oq ?_) (a_S_put hS z oq)
    show H'[_]? = some _
    rw [e1]
    exact congrArg some (a_cell_i _ v (a_nar 3 x) (vp_in_lt hj))
theorem a_sim_lald (hF : a_Fr M p s m args meth c) (hK : a_Kn G HA X s) (hH : a_H0 G HA s) (hd : decode M.2.1 pc = .ok (.laload, 1)) (hr : a_hr G HA h H) (hS : va_S (a_A G) s.heap H locs) (ho : a_lald st h = some (st', h', c1, s1))
    (kk : ∀ (H' : Heap) (locs' : List Loc), a_hr G HA h' H' → va_S (a_A G) s.heap H' locs' → W p l e R s m args below meth c H' locs' (cells + c1) (slots + s1) Q (F0 m (pc + 1) L (st'.map (a_rn G)))) : W p l e R s m args below meth c H locs cells slots Q (F0 m pc L (st.map (a_rn G))) := by
  obtain ⟨hx, hb, -⟩ := hF
  unfold a_lald at ho
  split at ho
  · rename_i j o r
    split at ho
    · rename_i hc
      split at ho
      · rename_i ht
        split at ho
        · cases ho
        · rename_i hj
          cases ho
          subst ht
          exact (va_lald hx hb hK.1 hr.2.2.2 o 1 (a_ws_of hc) (a_tyl_at a_ty1) hj hd (kk H locs hr hS))
      · cases ho
    · cases ho
  · rename_i j r
    split at ho
    · cases ho
    · rename_i hj
      cases ho
      have hT : va_T .long G.2.1 a_so.length (fun j => .long (a_so.getD j 0)) (a_A G) s s.heap := hK.2.2.2.2.2.1.kept (fun a ha _ => hH.2 a (by rw [← hr.2.1]; exact ha))
      exact (va_tl hx hb hT hS hj rfl hd (kk H locs hr hS))
  · cases ho
theorem a_sim_last (hF : a_Fr M p s m args meth c) (hK : a_Kn G HA X s) (hd : decode M.2.1 pc = .ok (.lastore, 1)) (hr : a_hr G HA h H) (hS : va_S (a_A G) s.heap H locs) (ho : a_last st h = some (st', h', c1, s1))
    (kk : ∀ (H' : Heap) (locs' : List Loc), a_hr G HA h' H' → va_S (a_A G) s.heap H' locs' → W p l e R s m args below meth c H' locs' (cells + c1) (slots + s1) Q (F0 m (pc + 1) L (st'.map (a_rn G)))) : W p l e R s m args below meth c H locs cells slots Q (F0 m pc L (st.map (a_rn G))) := by
  obtain ⟨hx, hb, -⟩ := hF
  unfold a_last at ho
  split at ho
  · rename_i x j o r
    split at ho
    · rename_i t v hc
      split at ho
      · rename_i ht
        split at ho
        · cases ho
        · rename_i hj
          cases ho
          subst ht
          refine W.last hx hb (hr.2.2.2 o _ (a_ws_of hc)) ((hK.1.2 1 _ (a_tyl_at a_ty1)).1 v.length (fun n => .long (v.getD n 0))) (fun q => by cases q) (by show ¬ (_ ∨ (arrV _ _ _).slots.size ≤ _); rw [arrV_size]; exact hj) rfl rfl hd fun H' e1 z oq => kk H' _ (a_stored hr hc z oq ?_) (a_S_put hS z oq)
          show H'[_]? = some _
          rw [e1]
          exact congrArg some (a_cell_l _ v x (vp_in_lt hj))
      · cases ho
    · cases ho
  · cases ho
theorem a_sim_aald (hF : a_Fr M p s m args meth c) (hK : a_Kn G HA X s) (hd : decode M.2.1 pc = .ok (.aaload, 1)) (hr : a_hr G HA h H) (hS : va_S (a_A G) s.heap H locs) (ho : a_aald st h = some (st', h', c1, s1))
    (kk : ∀ (H' : Heap) (locs' : List Loc), a_hr G HA h' H' → va_S (a_A G) s.heap H' locs' → W p l e R s m args below meth c H' locs' (cells + c1) (slots + s1) Q (F0 m (pc + 1) L (st'.map (a_rn G)))) : W p l e R s m args below meth c H locs cells slots Q (F0 m pc L (st.map (a_rn G))) := by
  obtain ⟨hx, hb, -⟩ := hF
  unfold a_aald at ho
  split at ho
  · rename_i j o r
    split at ho
    · rename_i t v hc
      split at ho
      · rename_i ht
        split at ho
        · cases ho
        · rename_i hj
          cases ho
          skip
          obtain ⟨ty, hty, hrf⟩ := a_tyR ht.1 ht.2
          refine W.aald (v := a_rn G (a_rv (v.getD j.toNatClampNeg none))) (ty := ty) hx hb (hr.2.2.2 o _ (a_ws_of hc)) ((hK.1.2 t _ (a_tyl_at hty)).1 v.length (fun n => va_rf ((v.getD n none).map (a_ad G)))) hrf (fun q => by cases q) (by show ¬ (_ ∨ (arrV _ _ _).slots.size ≤ _); rw [arrV_size]; exact hj) ?_ rfl rfl hd (kk H locs hr hS)
          show (arrV _ _ _).slots[_]? = _
          rw [arrV_read _ _ (vp_in_lt hj), a_rv_rn]
      · cases ho
    · cases ho
  · cases ho
theorem a_sim_aast (hF : a_Fr M p s m args meth c) (hK : a_Kn G HA X s) (hd : decode M.2.1 pc = .ok (.aastore, 1)) (hr : a_hr G HA h H) (hS : va_S (a_A G) s.heap H locs) (ho : a_aast st h = some (st', h', c1, s1))
    (kk : ∀ (H' : Heap) (locs' : List Loc), a_hr G HA h' H' → va_S (a_A G) s.heap H' locs' → W p l e R s m args below meth c H' locs' (cells + c1) (slots + s1) Q (F0 m (pc + 1) L (st'.map (a_rn G)))) : W p l e R s m args below meth c H locs cells slots Q (F0 m pc L (st.map (a_rn G))) := by
  obtain ⟨hx, hb, -⟩ := hF
  unfold a_aast at ho
  split at ho
  · rename_i w j o r
    split at ho
    · rename_i t v ci vs hc hw
      split at ho
      · rename_i ht
        split at ho
        · cases ho
        · rename_i hj
          cases ho
          skip
          obtain ⟨C, T, N, hcl, hty⟩ := a_kindOK ht.2
          obtain ⟨r', hr', cellV, g1, g2, g3, -⟩ := hr.2.2.2 w _ (a_ws_of hw)
          have hcls := (hK.1.1 ci _ hcl).2
          obtain ⟨kA, comp, k1, k2, k3, -⟩ := (hK.1.2 t _ (a_tyl_at hty)).2
          have hcomp : comp = G.2.2.2.1.1 ci := Option.some.inj (k3.symm.trans hcls.1)
          subst hcomp
          obtain ⟨kC, hkC, -⟩ := hcls.2
          refine W.aast hx hb (v := G.2.2.1 + w) (hr.2.2.2 o _ (a_ws_of hc)) (fun q h => by cases h) (fun h => by cases h) k1 k2 rfl hkC ⟨fun q => hj (Or.inl q), by show _ < (arrV _ _ _).slots.size; rw [arrV_size]; exact vp_in_lt hj⟩ g1 (fun q h => by rw [g3] at h; cases h) (by rw [g2]; exact hkC) (by rw [g2]; exact va_assign hcls) rfl rfl hd fun H' e1 z oq => kk H' _ (a_stored hr hc z oq ?_) (a_S_put hS z oq)
          show H'[_]? = some _
          rw [e1]
          exact congrArg some (a_cell_q G _ v (w + 2) (vp_in_lt hj))
      · cases ho
    · cases ho
  · cases ho
theorem a_sim_len (hF : a_Fr M p s m args meth c) (hK : a_Kn G HA X s) (hH : a_H0 G HA s) (hd : decode M.2.1 pc = .ok (.arraylength, 1)) (hr : a_hr G HA h H) (hS : va_S (a_A G) s.heap H locs) (ho : a_len st h = some (st', h', c1, s1))
    (kk : ∀ (H' : Heap) (locs' : List Loc), a_hr G HA h' H' → va_S (a_A G) s.heap H' locs' → W p l e R s m args below meth c H' locs' (cells + c1) (slots + s1) Q (F0 m (pc + 1) L (st'.map (a_rn G)))) : W p l e R s m args below meth c H locs cells slots Q (F0 m pc L (st.map (a_rn G))) := by
  obtain ⟨hx, hb, -⟩ := hF
  unfold a_len at ho
  split at ho
  · rename_i o r
    split at ho
    · rename_i t v hc
      split at ho
      · rename_i ht
        cases ho
        exact (va_alen hx hb hK.1 hr.2.2.2 o t (a_ws_of hc) (a_tyl_at (List.getElem?_eq_getElem ht)) rfl hd (kk H locs hr hS))
      · cases ho
    · rename_i t v hc
      split at ho
      · rename_i ht
        cases ho
        exact (va_alen hx hb hK.1 hr.2.2.2 o t (a_ws_of hc) (a_tyl_at (List.getElem?_eq_getElem ht)) rfl hd (kk H locs hr hS))
      · cases ho
    · rename_i t v hc
      split at ho
      · rename_i ht
        cases ho
        exact (va_alen hx hb hK.1 hr.2.2.2 o t (a_ws_of hc) (a_tyl_at (List.getElem?_eq_getElem ht)) rfl hd (kk H locs hr hS))
      · cases ho
    · cases ho
  · cases ho
    have hT : va_T .long G.2.1 a_so.length (fun j => .long (a_so.getD j 0)) (a_A G) s s.heap := hK.2.2.2.2.2.1.kept (fun a ha _ => hH.2 a (by rw [← hr.2.1]; exact ha))
    exact (va_tlen hx hb hT hS rfl hd (kk H locs hr hS))
  · cases ho
theorem a_cl_le {n : Int32} {N : Nat} (h : n.toNatClampNeg ≤ N) (ty : FieldType) (hb : componentBytes ty ≤ 8) (hN : N ≤ 65536) : n.toNatClampNeg * componentBytes ty ≤ 536870912 := by
  have : n.toNatClampNeg * componentBytes ty ≤ 65536 * 8 := Nat.mul_le_mul (by omega) hb
  omega
theorem a_rep_i (n : Nat) : (fun j : Nat => Value.int ((List.replicate n (0 : Int32)).getD j 0)) = fun _ => .int 0 := by
  funext j
  simp only [List.getD_eq_getElem?_getD, List.getElem?_replicate]
  split <;> rfl
theorem a_rep_l (n : Nat) : (fun j : Nat => Value.long ((List.replicate n (0 : Int64)).getD j 0)) = fun _ => .long 0 := by
  funext j
  simp only [List.getD_eq_getElem?_getD, List.getElem?_replicate]
  split <;> rfl
theorem a_rep_q (G : aG) (n : Nat) : (fun j : Nat => va_rf (((List.replicate n (none : Option Nat)).getD j none).map (a_ad G))) = fun _ => .null := by
  funext j
  simp only [List.getD_eq_getElem?_getD, List.getElem?_replicate]
  split <;> rfl
theorem a_at_i {H1 : Heap} {a n : Nat} {cA : ClassId} (h : H1[a]? = some (arrV cA n (fun _ => .int 0))) : H1[a]? = some (vp_cell cA ((List.replicate n (0 : Int32)).length, .inl (fun j => (List.replicate n (0 : Int32)).getD j 0))) := by rw [vp_cell_i, List.length_replicate, a_rep_i]; exact h
theorem a_at_l {H1 : Heap} {a n : Nat} {cA : ClassId} (h : H1[a]? = some (arrV cA n (fun _ => .long 0))) : H1[a]? = some (vp_cell cA ((List.replicate n (0 : Int64)).length, .inr (.inl (fun j => (List.replicate n (0 : Int64)).getD j 0)))) := by rw [vp_cell_l, List.length_replicate, a_rep_l]; exact h
theorem a_at_q {G : aG} {H1 : Heap} {a n : Nat} {cA : ClassId} (h : H1[a]? = some (arrV cA n (fun _ => .null))) : H1[a]? = some (vp_cell cA ((List.replicate n (none : Option Nat)).length, .inr (.inr (.inr (.inr (fun j => ((List.replicate n (none : Option Nat)).getD j none).map (a_ad G))))))) := by rw [vp_cell_q, List.length_replicate, a_rep_q]; exact h
/-- a new row of numbers: its class is the one that is known -/
theorem a_arr_cls {U : State} {t : Nat} {ty : FieldType} {cA : ClassId} (hK : va_K G.2.2.2.1 vwCl (a_tyl G) U) (ht : a_tys[t]? = some ty) (hp : ty = .int ∨ ty = .long ∨ ty = .boolean ∨ ty = .char) (hc : U.vm.findClass ("[" ++ ty.toString) = some cA) : cA = G.2.2.2.2 t := by
  have h2 := (hK.2 t _ (a_tyl_at ht)).2
  rcases hp with rfl | rfl | rfl | rfl <;> exact Option.some.inj (hc.symm.trans h2)
theorem a_newa_s {ty : ArrayType} (ho : a_newa ty st h = some (st', h', c1, s1)) : ∃ (n : Int32) (r : List Value) (t : Nat) (q : aA), st = .int n :: r ∧ ¬ n < 0 ∧ n.toNatClampNeg ≤ 65536 ∧ st' = .ref (h.length + 2) :: r ∧ h' = h ++ [.inl (t, q)] ∧ c1 = 1 ∧ s1 = n.toNatClampNeg ∧
    a_tys[t]? = some (newarray.typeOf ty) ∧ (newarray.typeOf ty = .int ∨ newarray.typeOf ty = .long ∨ newarray.typeOf ty = .boolean ∨ newarray.typeOf ty = .char) ∧ componentBytes (newarray.typeOf ty) ≤ 8 ∧
    ∀ (G : aG) (cA : ClassId), cA = G.2.2.2.2 t → (a_cc G (.inl (t, q)) = .inl (cA, n.toNatClampNeg, match q with
      | .inl l => .inl (fun j => l.getD j 0)
      | .inr (.inl l) => .inr (.inl (fun j => l.getD j 0))
      | .inr (.inr l) => .inr (.inr (.inr (.inr (fun j => (l.getD j none).map (a_ad G)))))) ∧ ∀ H1 : Heap, H1[G.2.2.1 + h.length]? = some (arrV cA n.toNatClampNeg (fun _ => defaultValue (newarray.typeOf ty))) → va_at G.2.2.2.1 vwCl (G.2.2.1 + h.length, a_cc G (.inl (t, q))) H1) := by
  unfold a_newa at ho
  split at ho
  · rename_i n r
    split at ho
    · cases ho
    · rename_i hn
      have hn1 : ¬ n < 0 := fun q => hn (Or.inl q)
      have hn2 : n.toNatClampNeg ≤ 65536 := Nat.not_lt.mp fun q => hn (Or.inr q)
      split at ho
      · cases ho
        refine ⟨n, r, 0, _, rfl, hn1, hn2, rfl, rfl, rfl, rfl, a_ty0, Or.inl rfl, by decide, fun G cA e => ⟨by subst e; simp [a_cc], fun H1 e1 => ?_⟩⟩
        subst e
        exact a_at_i e1
      · cases ho
        refine ⟨n, r, 1, _, rfl, hn1, hn2, rfl, rfl, rfl, rfl, a_ty1, Or.inr (Or.inl rfl), by decide, fun G cA e => ⟨by subst e; simp [a_cc], fun H1 e1 => ?_⟩⟩
        subst e
        exact a_at_l e1
      · cases ho
        refine ⟨n, r, 2, _, rfl, hn1, hn2, rfl, rfl, rfl, rfl, a_ty2, Or.inr (Or.inr (Or.inl rfl)), by decide, fun G cA e => ⟨by subst e; simp [a_cc], fun H1 e1 => ?_⟩⟩
        subst e
        exact a_at_i e1
      · cases ho
        refine ⟨n, r, 3, _, rfl, hn1, hn2, rfl, rfl, rfl, rfl, a_ty3, Or.inr (Or.inr (Or.inr rfl)), by decide, fun G cA e => ⟨by subst e; simp [a_cc], fun H1 e1 => ?_⟩⟩
        subst e
        exact a_at_i e1
      · cases ho
  · cases ho
theorem a_sim_newa {ty : ArrayType} (hF : a_Fr M p s m args meth c) (hK : a_Kn G HA X s) (hd : decode M.2.1 pc = .ok (.newarray ty, 2)) (hlk : a_lk Z M pc (.newarray ty) k = true) (hr : a_hr G HA h H) (hS : va_S (a_A G) s.heap H locs) (ho : a_newa ty st h = some (st', h', c1, s1)) (hc1 : cells + c1 ≤ R.cells) (hs1 : slots + s1 ≤ R.slots)
    (kk : ∀ (H' : Heap) (locs' : List Loc), a_hr G HA h' H' → va_S (a_A G) s.heap H' locs' → W p l e R s m args below meth c H' locs' (cells + c1) (slots + s1) Q (F0 m (pc + 2) L (st'.map (a_rn G)))) : W p l e R s m args below meth c H locs cells slots Q (F0 m pc L (st.map (a_rn G))) := by
  obtain ⟨hx, hb, -, -, hown, -, -, hts, -⟩ := hF
  obtain ⟨n, r, t, q, rfl, hn, hn2, rfl, rfl, rfl, rfl, hty, hp, hcb, hcell⟩ := a_newa_s ho
  refine va_newaK hx hb (hts _ (a_has_in hlk)) rfl hd rfl hn rfl (a_cl_le hn2 _ hcb (Nat.le_refl _)) hc1 hs1 hr.1 fun H' cA e1 z1 o1 hAr hNm => ?_
  have hcA := a_arr_cls hK.1 hty hp hNm
  have z1' : H'.size = H.size + 1 := by rw [z1, hr.1]
  have o1' : ∀ q : Nat, q < H.size → H'[q]? = H[q]? := fun q hq => o1 q (by rw [← hr.1]; exact hq)
  exact kk H' locs (a_pushed hr z1' o1' ((hcell G cA hcA).2 H' e1)) (a_S_push hS z1' o1')
theorem a_sim_newq (hF : a_Fr M p s m args meth c) (hK : a_Kn G HA X s) (hk : k.1 = 12) (hd : decode M.2.1 pc = .ok (.anewarray idx, 3)) (hlk : a_lk Z M pc (.anewarray idx) k = true) (hr : a_hr G HA h H) (hS : va_S (a_A G) s.heap H locs) (ho : a_newq k st h = some (st', h', c1, s1)) (hc1 : cells + c1 ≤ R.cells) (hs1 : slots + s1 ≤ R.slots)
    (kk : ∀ (H' : Heap) (locs' : List Loc), a_hr G HA h' H' → va_S (a_A G) s.heap H' locs' → W p l e R s m args below meth c H' locs' (cells + c1) (slots + s1) Q (F0 m (pc + 3) L (st'.map (a_rn G)))) : W p l e R s m args below meth c H locs cells slots Q (F0 m pc L (st.map (a_rn G))) := by
  obtain ⟨hx, hb, -, -, hown, -, -, hts, -⟩ := hF
  unfold a_newq at ho
  split at ho
  · rename_i n r
    split at ho
    · cases ho
    · rename_i hn
      cases ho
      have hn1 : ¬ n < 0 := fun q => hn (Or.inl q)
      have hn2 : n.toNatClampNeg ≤ 65536 := Nat.not_lt.mp fun q => hn (Or.inr q)
      obtain ⟨C, hty, hl, hov⟩ := a_lk_newq hk hlk
      refine W.anew hx hb hown (hts _ hl) (va_AO.use (hK.2.2.1 C hov)) rfl hd rfl hn1 (by omega) hc1 hs1 fun cA kA comp f1 f2 f3 f4 => ?_
      have hcA : cA = G.2.2.2.2 k.2.1 := by
        obtain ⟨kA', comp', -, -, -, g4⟩ := (hK.1.2 k.2.1 _ (a_tyl_at hty)).2
        exact Option.some.inj (f1.symm.trans g4)
      generalize hH1 : H.push ({ cls := cA, slots := Array.replicate n.toNatClampNeg .null, vm := .none } : Cell) = H1
      have z1 : H1.size = H.size + 1 := by rw [← hH1, Array.size_push]
      have o1 : ∀ q : Nat, q < H.size → H1[q]? = H[q]? := fun q hq => by rw [← hH1, Array.getElem?_push, if_neg (Nat.ne_of_lt hq)]
      have e1 : H1[H.size]? = some (arrV cA n.toNatClampNeg (fun _ => .null)) := by rw [← hH1, Array.getElem?_push_size, ← arrV_new]
      have hz := hr.1
      rw [hz] at e1
      have := kk H1 locs (a_pushed hr z1 o1 (by
        subst hcA
        exact a_at_q e1)) (a_S_push hS z1 o1)
      rw [hz]
      exact this
  · cases ho
theorem a_sim_new (hF : a_Fr M p s m args meth c) (hK : a_Kn G HA X s) (hk : k.1 = 11) (hd : decode M.2.1 pc = .ok (.new idx, 3)) (hlk : a_lk Z M pc (.new idx) k = true) (hr : a_hr G HA h H) (hS : va_S (a_A G) s.heap H locs) (ho : a_new k st h = some (st', h', c1, s1)) (hc1 : cells + c1 ≤ R.cells) (hs1 : slots + s1 ≤ R.slots)
    (kk : ∀ (H' : Heap) (locs' : List Loc), a_hr G HA h' H' → va_S (a_A G) s.heap H' locs' → W p l e R s m args below meth c H' locs' (cells + c1) (slots + s1) Q (F0 m (pc + 3) L (st'.map (a_rn G)))) : W p l e R s m args below meth c H locs cells slots Q (F0 m pc L (st.map (a_rn G))) := by
  obtain ⟨hx, hb, -, -, hown, -, -, hts, -⟩ := hF
  obtain ⟨C, T, N, hcl, hN, hl, hins, hini⟩ := a_lk_new hk hlk
  unfold a_new at ho
  cases ho
  have hKn := hK.1.1 k.2.1 _ hcl
  rw [hN] at hs1 kk
  refine W.newcK hx hb hown (hts _ hl) (hts _ hins) (hts _ hini) rfl hd hc1 hs1 hKn.2.1 hr.1 fun H1 kC hkC e1 z1 o1 => ?_
  have z1' : H1.size = H.size + 1 := by rw [z1, hr.1]
  have o1' : ∀ q : Nat, q < H.size → H1[q]? = H[q]? := fun q hq => o1 q (by rw [← hr.1]; exact hq)
  refine kk H1 locs (a_pushed hr z1' o1' ⟨_, hcl, ?_⟩) (a_S_push hS z1' o1')
  refine (u_born (a_fty k.2.1) hts (a_inC hcl) hKn hkC e1 (a_ftyOK hcl)).to (fun j hj => ?_)
  show defaultValue (a_fty k.2.1 j) = vp_V (((List.range N).map (fun j => defaultValue (a_fty k.2.1 j))).map (a_rn G)) j
  have hj' : j < N := hj
  simp only [vp_V, List.getD_eq_getElem?_getD, List.getElem?_map, List.getElem?_range hj', Option.map_some, Option.getD_some]
  cases a_fty k.2.1 j <;> rfl
theorem a_sim_sta (hF : a_Fr M p s m args meth c) (hK : a_Kn G HA X s) (hH : a_H0 G HA s) (hk : k.1 = 14) (hd : decode M.2.1 pc = .ok (.getstatic idx, 3)) (hlk : a_lk Z M pc (.getstatic idx) k = true) (hr : a_hr G HA h H) (hS : va_S (a_A G) s.heap H locs)
    (kk : W p l e R s m args below meth c H locs cells slots Q (F0 m (pc + 3) L ((Value.ref 1 :: st).map (a_rn G)))) : W p l e R s m args below meth c H locs cells slots Q (F0 m pc L (st.map (a_rn G))) := by
  obtain ⟨hx, hb, -, -, hown, -, -, hts, -⟩ := hF
  have hZ : va_Z a_soC a_soN "[J" (.ref G.2.1) (a_A G) s s.heap := hK.2.2.2.2.1.kept (fun a ha _ => hH.2 a (by rw [← hr.2.1]; exact ha))
  exact va_gets hx hb hZ hS hown (hts _ (a_lk_sta hk hlk)) (fun _ h => h) hd kk
theorem a_sim_obj (hF : a_Fr M p s m args meth c) (hk : k.1 = 9) (hd : decode M.2.1 pc = .ok (.invokespecial idx, 3)) (hlk : a_lk Z M pc (.invokespecial idx) k = true) {o : Nat} {r : List Value} (hw : a_wd r ≤ 8) (hfr : 1 ≤ R.frames) (hlo : 200 ≤ R.locals) (hsz : L.size = M.2.2.1)
    (kk : W p l e R s m args below meth c H locs cells slots Q (F0 m (pc + 3) L (r.map (a_rn G)))) : W p l e R s m args below meth c H locs cells slots Q (F0 m pc L ((Value.ref o :: r).map (a_rn G))) := by
  obtain ⟨hx, hb, -, hml, hown, -, -, hts, -⟩ := hF
  obtain ⟨h1, h2, h3⟩ := a_lk_obj hk hlk
  refine W.objInit hx hb hown (hts _ h1) (hts _ h2) (hts _ h3) rfl (by rw [hml]; exact hsz) rfl hd hfr ?_ kk
  show 2 * 0 + ((r.map (a_rn G)).map fun v => v.category).sum + 12 ≤ _
  rw [a_wd_rn]
  omega
theorem a_cpy_len (f g : List Int32) (sp dp n : Nat) : (a_cpy f g sp dp n).length = g.length := by simp [a_cpy]
theorem a_cpy_fn (f g : List Int32) {sp dp n : Nat} (h : dp + n ≤ g.length) : va_cpy (fun j => f.getD j 0) (fun j => g.getD j 0) sp dp n = fun j => (a_cpy f g sp dp n).getD j 0 := by
  funext j
  simp only [va_cpy, a_cpy, List.getD_eq_getElem?_getD, List.getElem?_map]
  by_cases hj : j < g.length
  · rw [List.getElem?_range hj]
    simp only [Option.map_some, Option.getD_some]
  · rw [List.getElem?_eq_none (l := List.range g.length) (by rw [List.length_range]; omega), if_neg (by omega), List.getElem?_eq_none (l := g) (by omega)]
    rfl
theorem a_copy_s (ho : a_copy st h = some (st', h', c1, s1)) : ∃ (n dp sp : Int32) (d o t : Nat) (f g : List Int32) (r : List Value), st = .int n :: .int dp :: .ref (d + 2) :: .int sp :: .ref (o + 2) :: r ∧ h[o]? = some (.inl (t, .inl f)) ∧ h[d]? = some (.inl (t, .inl g)) ∧ (t = 0 ∨ t = 3) ∧ ¬ sp < 0 ∧ ¬ dp < 0 ∧ ¬ n < 0 ∧ sp.toNatClampNeg + n.toNatClampNeg ≤ f.length ∧ dp.toNatClampNeg + n.toNatClampNeg ≤ g.length ∧
    (t = 0 ∨ ∀ i, i < n.toNatClampNeg → fits .char (.int (f.getD (sp.toNatClampNeg + i) 0)) = true) ∧ st' = r ∧ h' = h.set d (.inl (t, .inl (a_cpy f g sp.toNatClampNeg dp.toNatClampNeg n.toNatClampNeg))) ∧ c1 = 0 ∧ s1 = 0 := by
  unfold a_copy at ho
  split at ho
  · split at ho
    · rename_i hc hd
      split at ho
      · rename_i ht
        split at ho
        · cases ho
        · rename_i hb
          split at ho
          · rename_i hfit
            cases ho
            obtain ⟨e, ht⟩ := ht
            subst e
            refine ⟨_, _, _, _, _, _, _, _, _, rfl, hc, hd, ht, fun q => hb (Or.inl q), fun q => hb (Or.inr (Or.inl q)), fun q => hb (Or.inr (Or.inr (Or.inl q))), Nat.not_lt.mp fun q => hb (Or.inr (Or.inr (Or.inr (Or.inl q)))), Nat.not_lt.mp fun q => hb (Or.inr (Or.inr (Or.inr (Or.inr q)))), ?_, rfl, rfl, rfl, rfl⟩
            rcases hfit with q | q
            · exact Or.inl q
            · exact Or.inr fun i hi => (List.all_eq_true.mp q) i (List.mem_range.mpr hi)
          · cases ho
      · cases ho
    · cases ho
  · cases ho
set_option maxHeartbeats 1000000 in
theorem a_sim_copy (hF : a_Fr M p s m args meth c) (hK : a_Kn G HA X s) (hk : k.1 = 10) (hd : decode M.2.1 pc = .ok (.invokestatic idx, 3)) (hlk : a_lk Z M pc (.invokestatic idx) k = true) (hr : a_hr G HA h H) (hS : va_S (a_A G) s.heap H locs) (hsz : L.size = M.2.2.1) (hfr : 1 ≤ R.frames) (hlo : 200 ≤ R.locals) (hw : a_wd (st.drop 5) ≤ 8) (ho : a_copy st h = some (st', h', c1, s1))
    (kk : ∀ (H' : Heap) (locs' : List Loc), a_hr G HA h' H' → va_S (a_A G) s.heap H' locs' → W p l e R s m args below meth c H' locs' (cells + c1) (slots + s1) Q (F0 m (pc + 3) L (st'.map (a_rn G)))) : W p l e R s m args below meth c H locs cells slots Q (F0 m pc L (st.map (a_rn G))) := by
  obtain ⟨hx, hb, -, hml, hown, -, -, hts, -⟩ := hF
  obtain ⟨l1, l2, l3, l4⟩ := a_lk_copy hk hlk
  obtain ⟨n, dp, sp, d, o, t, f, g, r, rfl, hc0, hc1, ht, h1, h2, h3, h4, h5, hfit, e1, rfl, rfl, rfl⟩ := a_copy_s ho
  subst e1
  skip
  obtain ⟨ty, hty, hprim, hfit'⟩ : ∃ ty, a_tys[t]? = some ty ∧ refKind ty = false ∧ ∀ i, i < n.toNatClampNeg → fits ty (.int (f.getD (sp.toNatClampNeg + i) 0)) = true := by
    rcases ht with rfl | rfl
    · exact ⟨_, a_ty0, rfl, fun _ _ => rfl⟩
    · refine ⟨_, a_ty3, rfl, ?_⟩
      rcases hfit with q | q
      · cases q
      · exact q
  have nn : ∀ z : Int32, ¬ z < 0 → z.toInt = (z.toNatClampNeg : Int) := by
    intro z hz
    have hz0 : (0 : Int) ≤ z.toInt := by
      have := Int32.not_lt.mp hz
      simpa using Int32.le_iff_toInt_le.mp this
    show z.toInt = ((z.toInt.toNat : Nat) : Int)
    omega
  intro T hT Y
  have hC0 : H[G.2.2.1 + o]? = some (vp_cell (G.2.2.2.2 t) (f.length, .inl (fun j => f.getD j 0))) := hr.2.2.2 o _ (a_ws_of hc0)
  have hC1 : H[G.2.2.1 + d]? = some (vp_cell (G.2.2.2.2 t) (g.length, .inl (fun j => g.getD j 0))) := hr.2.2.2 d _ (a_ws_of hc1)
  obtain ⟨-, k0, hk0, cm0, hkk0⟩ := (hK.1.2 t _ (a_tyl_at hty)).1 f.length (fun j => .int (f.getD j 0))
  obtain ⟨-, k1, hk1, cm1, hkk1⟩ := (hK.1.2 t _ (a_tyl_at hty)).1 g.length (fun j => .int (g.getD j 0))
  obtain ⟨vm', X', step⟩ := Y.arraycopy hx hown (hts _ l1) (hts _ l2) (hts _ l3) (hts _ l4) (src := G.2.2.1 + o) (dst := G.2.2.1 + d) (cs := vp_cell (G.2.2.2.2 t) (f.length, .inl (fun j => f.getD j 0))) (cd := vp_cell (G.2.2.2.2 t) (g.length, .inl (fun j => g.getD j 0))) (srcPos := sp) (destPos := dp) (n := n) (by rw [hT]; exact hC0) (by rw [hT]; exact hC1)
    (fun _ h => by cases h) (fun _ h => by cases h) (fun h => by cases h) (fun h => by cases h) hk0 hk1 hkk0 hkk1 (by simp [hprim]) h1 h2 h3
    (by rw [nn sp h1, nn n h3]; show ¬ _ > ((arrV _ f.length (fun j => .int (f.getD j 0))).slots.size : Int); rw [arrV_size]; omega)
    (by rw [nn dp h2, nn n h3]; show ¬ _ > ((arrV _ g.length (fun j => .int (g.getD j 0))).slots.size : Int); rw [arrV_size]; omega)
    (fun vm₁ _ i hi => by
      have e : (vp_cell (G.2.2.2.2 t) (f.length, .inl (fun j => f.getD j 0))).slots.getD (sp.toNatClampNeg + i) .null = .int (f.getD (sp.toNatClampNeg + i) 0) := by
        show (arrV _ f.length (fun j => .int (f.getD j 0))).slots.getD _ _ = _
        rw [Array.getD_eq_getD_getElem?, arrV_read _ _ (by omega)]
        rfl
      refine ⟨?_, ?_⟩
      · rw [e]
        exact hfit' i hi
      · rw [e]
        exact trivial)
    (g := F0 m pc L ((Value.int n :: .int dp :: .ref (d + 2) :: .int sp :: .ref (o + 2) :: st').map (a_rn G))) rfl (by rw [hml]; exact hsz) (rest := st'.map (a_rn G)) rfl (by rw [hb]; exact hd) hfr (by
      show 2 * 0 + ((st'.map (a_rn G)).map fun v => v.category).sum + _ ≤ _
      rw [a_wd_rn]
      have hw' : a_wd st' ≤ 8 := hw
      have hnf : nativeFrameWords "java/lang/System" "arraycopy" 5 + 11 ≤ 50 := by decide +kernel
      omega)
  have e1 : copied (vp_cell (G.2.2.2.2 t) (f.length, .inl (fun j => f.getD j 0))) (vp_cell (G.2.2.2.2 t) (g.length, .inl (fun j => g.getD j 0))) sp dp n = vp_cell (G.2.2.2.2 t) (g.length, .inl (va_cpy (fun j => f.getD j 0) (fun j => g.getD j 0) sp.toNatClampNeg dp.toNatClampNeg n.toNatClampNeg)) := va_copied (fun z => .int z) (G.2.2.2.2 t) (G.2.2.2.2 t) (n1 := g.length) (dp := dp.toNatClampNeg) (fun j => f.getD j 0) (fun j => g.getD j 0) h4
  rw [e1, a_cpy_fn f g h5] at X' step
  have hlt : G.2.2.1 + d < H.size := (Array.getElem?_eq_some_iff.mp hC1).1
  generalize hcw : vp_cell (G.2.2.2.2 t) (g.length, .inl (fun j => (a_cpy f g sp.toNatClampNeg dp.toNatClampNeg n.toNatClampNeg).getD j 0)) = cw at X' step
  have hheap : ((T.setVm vm').setCell (G.2.2.1 + d) cw).heap = H.setIfInBounds (G.2.2.1 + d) cw := by rw [← hT]; rfl
  have oq : ∀ q : Nat, q ≠ G.2.2.1 + d → (H.setIfInBounds (G.2.2.1 + d) cw)[q]? = H[q]? := fun q hq => by simp [Array.getElem?_setIfInBounds, Ne.symm hq]
  have z1 : (H.setIfInBounds (G.2.2.1 + d) cw).size = H.size := by simp
  obtain ⟨t', a1, b1⟩ := kk _ _ (a_stored hr hc1 z1 oq (by
      show (H.setIfInBounds _ _)[_]? = some (vp_cell _ (_, _))
      rw [a_cpy_len, hcw]
      simp [Array.getElem?_setIfInBounds, hlt])) ⟨by rw [z1]; exact hS.1, fun q g1 g2 => by
      rw [oq q (fun e => g2 (by rw [e]; exact Nat.le_add_right _ _))]
      exact hS.2.1 q g1 g2, fun q hq => by
      rcases List.mem_append.mp hq with h | h
      · exact hS.2.2 q h
      · obtain ⟨z, -, hz⟩ := List.mem_map.mp h
        rw [← hz]
        exact Nat.le_add_right _ _⟩ _ hheap X'
  exact ⟨t', step t' a1, b1⟩
theorem a_sim_scr (hF : a_Fr M p s m args meth c) (hK : a_Kn G HA X s) (hH : a_H0 G HA s) {i : Instr} {len : Nat} (hd : decode M.2.1 pc = .ok (i, a_ln i len)) (hr : a_hr G HA h H) (hS : va_S (a_A G) s.heap H locs) (ho : a_scr X i st = some st')
    (kk : W p l e R s m args below meth c H locs cells slots Q (F0 m (pc + a_ln i len) L (st'.map (a_rn G)))) : W p l e R s m args below meth c H locs cells slots Q (F0 m pc L (st.map (a_rn G))) := by
  obtain ⟨hx, hb, -⟩ := hF
  unfold a_scr at ho
  split at ho
  · rename_i Ln xs j r
    split at ho
    · cases ho
    · rename_i hj
      cases ho
      obtain ⟨hX, hbl⟩ := hK.2.2.2.2.2.2.1 Ln xs rfl
      have hbl' : G.1 < G.2.2.1 := by rw [← hr.2.1]; exact hbl
      exact va_sld hx hb (hX.kept (hH.2 _ hbl')) (Nat.lt_of_lt_of_le hbl' hH.1) (Nat.not_le.mpr hbl') hS hj hd kk
  · rename_i Ln xs r
    cases ho
    obtain ⟨hX, hbl⟩ := hK.2.2.2.2.2.2.1 Ln xs rfl
    have hbl' : G.1 < G.2.2.1 := by rw [← hr.2.1]; exact hbl
    exact va_slen hx hb (hX.kept (hH.2 _ hbl')) (Nat.lt_of_lt_of_le hbl' hH.1) (Nat.not_le.mpr hbl') hS hd kk
  · cases ho
theorem a_lk_newm {dims : Nat} (hk : k.1 = 13) (h : a_lk Z M pc (.multianewarray idx dims) k = true) : Cond.classLink M.1.cls idx "[[J" ∈ a_good ∧ k.2.1 = 6 ∧ dims = 2 := by
  simp only [a_lk, hk, if_true, Bool.and_eq_true, decide_eq_true_eq] at h
  exact ⟨a_has_in h.1.1, h.1.2, h.2⟩
theorem a_arrL : Cond.arrayClass .long ∈ a_good := a_has_in (j := a_plL) (by decide +kernel)
theorem a_outer (G : aG) (n c : Nat) (cA : ClassId) : vp_cell cA (n, .inr (.inr (.inr (.inr (fun i => if i < n then some (G.2.2.1 + c + 1 + i) else none))))) = vp_cell cA (((List.range n).map (fun j => some (c + 3 + j))).length, .inr (.inr (.inr (.inr (fun j => (((List.range n).map (fun j => some (c + 3 + j))).getD j none).map (a_ad G)))))) := by
  rw [List.length_map, List.length_range, vp_cell_q, vp_cell_q]
  refine congrArg (arrV cA n) (funext fun j => congrArg va_rf ?_)
  simp only [List.getD_eq_getElem?_getD, List.getElem?_map]
  by_cases hj : j < n
  · rw [if_pos hj, List.getElem?_range hj]
    simp only [Option.map_some, Option.getD_some]
    rw [show c + 3 + j = (c + 1 + j) + 2 by omega]
    show some _ = some (G.2.2.1 + (c + 1 + j))
    congr 1
    omega
  · rw [if_neg hj, List.getElem?_eq_none (l := List.range n) (by rw [List.length_range]; omega)]
    rfl
set_option maxHeartbeats 1000000 in
theorem a_sim_newm {dims : Nat} (hF : a_Fr M p s m args meth c) (hK : a_Kn G HA X s) (hk : k.1 = 13) (hd : decode M.2.1 pc = .ok (.multianewarray idx dims, 4)) (hlk : a_lk Z M pc (.multianewarray idx dims) k = true) (hr : a_hr G HA h H) (hS : va_S (a_A G) s.heap H locs) (ho : a_newm k st h = some (st', h', c1, s1)) (hc1 : cells + c1 ≤ R.cells) (hs1 : slots + s1 ≤ R.slots)
    (kk : ∀ (H' : Heap) (locs' : List Loc), a_hr G HA h' H' → va_S (a_A G) s.heap H' locs' → W p l e R s m args below meth c H' locs' (cells + c1) (slots + s1) Q (F0 m (pc + 4) L (st'.map (a_rn G)))) : W p l e R s m args below meth c H locs cells slots Q (F0 m pc L (st.map (a_rn G))) := by
  obtain ⟨hx, hb, -, -, hown, -, -, hts, -⟩ := hF
  obtain ⟨hcl, h6, rfl⟩ := a_lk_newm hk hlk
  unfold a_newm at ho
  split at ho
  · rename_i n2 n1 r
    split at ho
    · rename_i hn
      obtain ⟨rfl, rfl⟩ := hn
      cases ho
      intro T hT Xs
      obtain ⟨vm₁, cA, comp, -, fA, fC, -, -, X', step⟩ := Xs.multianewarray2F hx hown (ty := .long) (hts _ hcl) hK.2.2.2.1 (hts _ a_arrL) (g := F0 m pc L ((Value.int 16 :: .int 16 :: r).map (a_rn G))) rfl (by rw [hb]; exact hd) (n := 16) (k := 16) (rest := r.map (a_rn G)) rfl (by decide) (by decide) (by decide) (by decide) (by decide) rfl rfl hc1 hs1
      have hN : (16 : Int32).toNatClampNeg = 16 := by decide
      rw [hN] at X' step
      have hcA : cA = G.2.2.2.2 6 := Option.some.inj (fA.symm.trans (hK.1.2 6 _ (a_tyl_at a_ty6)).2)
      have hcC : comp = G.2.2.2.2 1 := Option.some.inj (fC.symm.trans (hK.1.2 1 _ (a_tyl_at a_ty1)).2)
      subst hcA; subst hcC
      generalize hFl : Jvm.Free.Multi.fill (T.setVm vm₁) (G.2.2.2.2 6) (G.2.2.2.2 1) 16 16 (defaultValue .long) 16 = F at X' step
      have hTh : (T.setVm vm₁).heap = H := hT
      obtain ⟨f1, f2, -, -⟩ := Jvm.Free.Multi.fill_facts (T.setVm vm₁) (G.2.2.2.2 6) (G.2.2.2.2 1) 16 16 (defaultValue .long) 16
      rw [hFl, hTh] at f1 f2
      have hold : ∀ x : Nat, x < H.size → F.heap[x]? = H[x]? := fun x hx => by
        have := Jvm.Free.Multi.fill_old (T.setVm vm₁) (G.2.2.2.2 6) (G.2.2.2.2 1) 16 16 (defaultValue .long) (a := x) (by rw [hTh]; exact hx) 16
        rw [hFl, hTh] at this
        exact this
      have hrow : ∀ j : Nat, j < 16 → F.heap[H.size + 1 + j]? = some (Jvm.Free.Multi.innerC (G.2.2.2.2 1) 16 (defaultValue .long)) := fun j hj => by
        have := Jvm.Free.Multi.fill_inner (T.setVm vm₁) (G.2.2.2.2 6) (G.2.2.2.2 1) 16 16 (defaultValue .long) 16 j hj
        rw [hFl, hTh] at this
        exact this
      have hout : Jvm.Free.Multi.outerC (G.2.2.2.2 6) 16 H.size 16 = vp_cell (G.2.2.2.2 6) (16, .inr (.inr (.inr (.inr (fun i => if i < 16 then some (G.2.2.1 + h.length + 1 + i) else none))))) := by
        rw [vp_cell_q, ← hr.1]
        exact vr_outer (G.2.2.2.2 6) 16 H.size 16
      rw [hout, a_outer] at f2
      have hz := hr.1
      have hnew : a_hr G HA (h ++ .inl (k.2.1, .inr (.inr ((List.range 16).map (fun j => some (h.length + 3 + j))))) :: List.replicate 16 (.inl (1, .inr (.inl (List.replicate 16 0))))) F.heap := by
        refine ⟨?_, hr.2.1, fun x hx => (hold x (by omega)).trans (hr.2.2.1 x hx), ?_⟩
        · rw [f1, hz]
          simp only [List.length_append, List.length_cons, List.length_replicate]
          omega
        · intro j q hq
          rw [a_ws_at] at hq
          rcases Nat.lt_trichotomy j h.length with hj | hj | hj
          · rw [List.getElem?_append_left hj, ← a_ws_at] at hq
            exact (hr.2.2.2 j q hq).kept (hold q.1 ((hr.2.2.2 j q hq).lt))
          · subst hj
            rw [List.getElem?_append_right (Nat.le_refl _), Nat.sub_self] at hq
            cases hq
            rw [h6]
            show F.heap[_]? = some (vp_cell _ _)
            rw [← hz]
            exact f2
          · rw [List.getElem?_append_right (by omega), show j - h.length = (j - h.length - 1) + 1 by omega, List.getElem?_cons_succ, List.getElem?_replicate] at hq
            split at hq
            · rename_i hj2
              cases hq
              show F.heap[_]? = some (vp_cell _ _)
              have := hrow (j - h.length - 1) hj2
              rw [hz, show G.2.2.1 + h.length + 1 + (j - h.length - 1) = G.2.2.1 + j by omega] at this
              rw [this, vp_cell_l, List.length_replicate, a_rep_l]
              show some (Cell.mk _ _ _ _ _) = _
              rw [← arrV_new]
              rfl
            · cases hq
      have hstk : (Value.ref T.heap.size :: r.map (a_rn G)) = (Value.ref (h.length + 2) :: r).map (a_rn G) := by
        rw [hT, hz]; rfl
      obtain ⟨t, a1, b1⟩ := kk F.heap locs hnew ⟨by rw [f1]; have := hS.1; omega, fun x g1 g2 => (hold x (Nat.lt_of_lt_of_le g1 hS.1)).trans (hS.2.1 x g1 g2), hS.2.2⟩ F rfl X'
      rw [hstk] at step
      exact ⟨t, step t a1, b1⟩
    · cases ho
  · cases ho
end AHP
