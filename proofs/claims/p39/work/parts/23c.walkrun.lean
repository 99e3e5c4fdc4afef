/-! ===== v3: a walk's run ===== -/
section WRUN
variable {D : Nat → Option zC} {P : List aM} {X : aX} {h : aH} {C S : Nat} {K0 : Option Value → aH → Nat → Nat → Prop}
theorem w_inv_ok {H : aH} (hr : w_hr D H) {i : Instr} {k : aK} {st : List Value} {q : aM × List Value × List Value} (e : w_inv D P i k st = some q) : a_inv P i k st H = some q ∧ k.1 ≠ 18 ∧ k.1 ≠ 10 := by
  unfold w_inv at e
  split at e
  · cases e
  · rename_i M hM
    split at e
    · split at e
      · rename_i hk
        refine ⟨?_, by omega, by omega⟩
        split at e
        · rename_i o r hd
          split at e
          · rename_i c ks hD
            split at e
            · rename_i hc
              cases e
              unfold a_inv
              rw [hM]
              dsimp only
              rw [if_pos (Or.inl hk), hd]
              dsimp only
              have hrec : a_recv H (.ref (o + 2)) k.2.2.1 = true := by
                obtain ⟨ee, h1, h2⟩ := hr.1 o _ hD
                obtain ⟨vs, e1, -⟩ := h2
                show (match H[o]? with
                  | some (.inr (c, _)) => decide (c = k.2.2.1)
                  | _ => false) = true
                rw [h1, e1]
                exact decide_eq_true hc.1
              rw [if_pos ⟨hrec, hc.2⟩]
            · cases e
          · cases e
        · cases e
      · cases e
    · split at e
      · rename_i hk
        refine ⟨?_, by omega, by omega⟩
        split at e
        · rename_i hc
          cases e
          unfold a_inv
          rw [hM]
          dsimp only
          rw [if_pos (Or.inl hk), if_pos hc]
        · cases e
      · cases e
    · cases e
/-- a call, told or walked -/
theorem w_call_ok {H : aH} {d : Nat} {M M' : aM} {pc len : Nat} {i : Instr} {k : aK} {ls : aL} {st as rest : List Value} {fs : List wFr} (hl : M.2.2.2.2.2.lookup pc = some (i, len, k)) (ho : a_op X i len k pc ls st H = none) (hr : a_ret i k M.2.2.2.1 st = none) (hi : a_inv P i k st H = some (M', as, rest)) (hc : aOK P X d M' 0 (a_ent as M'.2.2.1) [] H C S (w_KF P X K0 d ((M, pc + len, ls, rest) :: fs))) : aOK P X (d + 1) M pc ls st H C S (w_KF P X K0 (d + 1) fs) := aOK_call hl ho hr hi (aOK_imp (fun v h1 C1 S1 q => Or.inr q) hc)
theorem w_rt_ok {H : aH} {rec : Nat → aM → Nat → aL → List Value → List wFr → wF → wA → Prop} (hrec : ∀ d M pc ls st fs hf ha, rec d M pc ls st fs hf ha → w_at D P X h C S K0 d M pc ls st fs hf ha) {d : Nat} {fs : List wFr} {hf : wF} {ha : wA} {v : Option Value} (hv : ∀ n, v ≠ some (.retAddr n)) (hrel : w_rel D h hf ha H) (hb : w_rt D h C S K0 rec d fs hf ha v) : w_KF P X K0 d fs v H C S := by
  unfold w_rt at hb
  split at hb
  · exact hb H hrel
  · split at hb
    · exact ⟨hv, hrec _ _ _ _ _ _ _ _ hb H hrel⟩
    · exact ⟨hv, hrec _ _ _ _ _ _ _ _ hb H hrel⟩
theorem w_nar01 {x : Int32} (h1 : 0 ≤ x.toInt) (h2 : x.toInt ≤ 1) : narrow .boolean (.int x) = .int x ∧ a_nar 2 x = x := by
  rcases z_nar2 h1 h2 with rfl | rfl <;> exact ⟨by decide, by decide⟩
theorem w_find_ok : ∀ {l : List (Nat × aI)} {pc : Nat} {a : aI} {nx : Nat}, w_find l pc = some (a, nx) → l.lookup pc = some a
  | [], _, _, _, h => by cases h
  | (p, b) :: r, pc, a, nx, h => by
    unfold w_find at h
    rw [List.lookup_cons]
    cases hb : Nat.beq p pc with
    | true =>
      rw [hb] at h
      cases h
      have : p = pc := Nat.eq_of_beq_eq_true hb
      rw [this, beq_self_eq_true]
    | false =>
      rw [hb] at h
      have : ¬ pc = p := fun e => Nat.ne_of_beq_eq_false hb e.symm
      rw [beq_eq_false_iff_ne.mpr this]
      exact w_find_ok h
theorem w_norm_eq : ∀ {l : aL} {g : aL → Prop}, w_norm l g → g l
  | [], _, h => h
  | a :: r, g, h => w_norm_eq (l := r) (g := fun r' => g (a :: r')) h
theorem w_j_ok {rec : Nat → aM → Nat → aL → List Value → List wFr → wF → wA → Prop} {p nx d : Nat} {M : aM} {ls : aL} {st : List Value} {fs : List wFr} {hf : wF} {ha : wA} (h : w_j rec p nx d M ls st fs hf ha) : rec d M p ls st fs hf ha := by
  unfold w_j at h
  cases hb : Nat.beq p nx with
  | true =>
    rw [hb] at h
    rw [Nat.eq_of_beq_eq_true hb]
    exact h
  | false =>
    rw [hb] at h
    exact h.elim
theorem w_body_ok (hlen : ∀ o ci ks, D o = some (.inr (.inl (ci, ks))) → ks.length ≤ 128) {tl : List Nat} {rec : Nat → aM → Nat → aL → List Value → List wFr → wF → wA → Prop} (hrec : ∀ d M pc ls st fs hf ha, rec d M pc ls st fs hf ha → w_at D P X h C S K0 d M pc ls st fs hf ha) {d : Nat} {M : aM} {pc : Nat} {ls : aL} {st : List Value} {fs : List wFr} {hf : wF} {ha : wA} (hb : w_body D P X h C S K0 tl rec d M pc ls st fs hf ha) : w_at D P X h C S K0 d M pc ls st fs hf ha := by
  intro H hrel
  unfold w_body at hb
  split at hb
  · exact hb.elim
  · rename_i i len k nx hl0
    have hl := w_find_ok hl0
    split at hb
    · -- ifCond
      rename_i c off
      split at hb
      · rename_i x r
        refine aOK_op0 (pc' := if a_cnd c x 0 then k.2.1 else pc + 3) (ls' := ls) (st' := r) hl rfl ?_
        cases hc : a_cnd c x 0 with
        | true => exact hrec _ _ _ _ _ _ _ _ (hb.1 hc) H hrel
        | false => exact hrec _ _ _ _ _ _ _ _ (w_j_ok (hb.2 hc)) H hrel
      · exact hb.elim
    · rename_i c off
      split at hb
      · rename_i y x r
        refine aOK_op0 (pc' := if a_cnd c x y then k.2.1 else pc + 3) (ls' := ls) (st' := r) hl rfl ?_
        cases hc : a_cnd c x y with
        | true => exact hrec _ _ _ _ _ _ _ _ (hb.1 hc) H hrel
        | false => exact hrec _ _ _ _ _ _ _ _ (w_j_ok (hb.2 hc)) H hrel
      · exact hb.elim
    · exact aOK_op0 hl rfl (hrec _ _ _ _ _ _ _ _ hb H hrel)
    · split at hb
      · rename_i y x r
        refine aOK_op0 (pc' := pc + len) (ls' := ls) (st' := .int (x / y) :: r) hl ?_ (hrec _ _ _ _ _ _ _ _ (w_j_ok hb.2) H hrel)
        simp only [a_op, a_stk, a_iin, if_neg hb.1]
      · exact hb.elim
    · split at hb
      · rename_i y x r
        refine aOK_op0 (pc' := pc + len) (ls' := ls) (st' := .int (x - x / y * y) :: r) hl ?_ (hrec _ _ _ _ _ _ _ _ (w_j_ok hb.2) H hrel)
        simp only [a_op, a_stk, a_iin, if_neg hb.1]
      · exact hb.elim
    · split at hb
      · rename_i y x r
        exact aOK_op0 (pc' := pc + len) (ls' := ls) (st' := .long (x / y) :: r) hl (s_ldiv hb.1) (hrec _ _ _ _ _ _ _ _ (w_j_ok hb.2) H hrel)
      · exact hb.elim
    · split at hb
      · rename_i y x r
        exact aOK_op0 (pc' := pc + len) (ls' := ls) (st' := .long (x - x / y * y) :: r) hl (s_lrem hb.1) (hrec _ _ _ _ _ _ _ _ (w_j_ok hb.2) H hrel)
      · exact hb.elim
    · -- getfield
      rename_i q
      split at hb
      · rename_i o r
        split at hb
        · rename_i ci ks hD
          split at hb
          · rename_i hc
            split at hb
            · rename_i dd hdd
              obtain ⟨vs, v, hf', g1, g2, g3, g4⟩ := w_get_ok hlen hrel hD hdd hb
              refine aOK_op0 (pc' := pc + len) (ls' := ls) (st' := v :: r) hl ?_ (hrec _ _ _ _ _ _ _ _ (w_j_ok g4) H g3)
              show z_wrap X (.getfield q) len pc ls (.ref (o + 2) :: r) H (match H[o]? with
                | some (.inr (ci, fs)) => if ci = k.2.1 then match fs[k.2.2.1]? with
                  | some v => some (v :: r, H, 0, 0)
                  | none => none
                  else none
                | _ => none) = _
              rw [g1]
              dsimp only
              rw [if_pos hc, g2]
              rfl
            · exact hb.elim
          · exact hb.elim
        · exact hb.elim
      · exact hb.elim
    · -- putfield
      rename_i q
      split at hb
      · rename_i v o r
        split at hb
        · rename_i ci ks hD
          split at hb
          · rename_i hc
            split at hb
            · rename_i a hdd
              obtain ⟨hfit, hin, hgo⟩ := hb
              obtain ⟨vs, w, g1, g2, g3, -⟩ := w_get1 hrel.1 hD hdd
              refine aOK_op (pc' := pc + len) (ls' := ls) (st' := r) (c := 0) (s := 0) hl ?_ (hrec _ _ _ _ _ _ _ _ (w_j_ok hgo) _ (w_rel_put hlen hrel hD hdd g1 hin))
              show z_wrap X (.putfield q) len pc ls (v :: .ref (o + 2) :: r) H (match H[o]? with
                | some (.inr (ci, fs)) => if ci = k.2.1 then (if k.2.2.1 < fs.length then (if a_fit (a_fty k.2.1 k.2.2.1) v then some (r, H.set o (.inr (ci, fs.set k.2.2.1 v)), 0, 0) else none) else none) else none
                | _ => none) = _
              rw [g1]
              dsimp only
              rw [if_pos hc, if_pos (by rw [g2]; exact (List.getElem?_eq_some_iff.mp hdd).1), if_pos hfit]
              rfl
            · exact hb.elim
          · exact hb.elim
        · exact hb.elim
      · exact hb.elim
    · -- iaload
      split at hb
      · rename_i j o r
        split at hb
        · rename_i t n lo hi hD
          split at hb
          · rename_i ht
            subst ht
            obtain ⟨hj, hgo⟩ := hb
            obtain ⟨l, ha', g1, g2, g3, g4, g5⟩ := w_ai_ok hrel (by decide) hD hgo
            refine aOK_op0 (pc' := pc + len) (ls' := ls) (st' := .int (l.getD j.toNatClampNeg 0) :: r) hl ?_ (hrec _ _ _ _ _ _ _ _ (w_j_ok g5) H g4)
            show z_wrap X .iaload len pc ls (.int j :: .ref (o + 2) :: r) H (match H[o]? with
              | some (.inl (t', .inl l)) => if t' = 0 then (if j < 0 ∨ l.length ≤ j.toNatClampNeg then none else some (.int (l.getD j.toNatClampNeg 0) :: r, H, 0, 0)) else none
              | _ => none) = _
            rw [g1]
            dsimp only
            rw [if_pos rfl, if_neg (by rw [g2]; exact (w_ix hj.1 hj.2).1)]
            rfl
          · exact hb.elim
        · exact hb.elim
      · exact hb.elim
    · -- baload
      split at hb
      · rename_i j o r
        split at hb
        · rename_i t n lo hi hD
          split at hb
          · rename_i ht
            subst ht
            obtain ⟨hj, hgo⟩ := hb
            obtain ⟨l, ha', g1, g2, g3, g4, g5⟩ := w_ai_ok hrel (by decide) hD hgo
            refine aOK_op0 (pc' := pc + len) (ls' := ls) (st' := .int (l.getD j.toNatClampNeg 0) :: r) hl ?_ (hrec _ _ _ _ _ _ _ _ (w_j_ok g5) H g4)
            show z_wrap X .baload len pc ls (.int j :: .ref (o + 2) :: r) H (match H[o]? with
              | some (.inl (t', .inl l)) => if t' = 2 then (if j < 0 ∨ l.length ≤ j.toNatClampNeg then none else some (.int (l.getD j.toNatClampNeg 0) :: r, H, 0, 0)) else none
              | _ => none) = _
            rw [g1]
            dsimp only
            rw [if_pos rfl, if_neg (by rw [g2]; exact (w_ix hj.1 hj.2).1)]
            rfl
          · exact hb.elim
        · exact hb.elim
      · exact hb.elim
    · -- laload
      split at hb
      · rename_i j o r
        split at hb
        · rename_i t n lo hi hD
          split at hb
          · rename_i ht
            subst ht
            obtain ⟨hj, hgo⟩ := hb
            obtain ⟨l, ha', g1, g2, g3, g4, g5⟩ := w_al_ok hrel hD hgo
            refine aOK_op0 (pc' := pc + len) (ls' := ls) (st' := .long (l.getD j.toNatClampNeg 0) :: r) hl ?_ (hrec _ _ _ _ _ _ _ _ (w_j_ok g5) H g4)
            show z_wrap X .laload len pc ls (.int j :: .ref (o + 2) :: r) H (match H[o]? with
              | some (.inl (t', .inr (.inl l))) => if t' = 1 then (if j < 0 ∨ l.length ≤ j.toNatClampNeg then none else some (.long (l.getD j.toNatClampNeg 0) :: r, H, 0, 0)) else none
              | _ => none) = _
            rw [g1]
            dsimp only
            rw [if_pos rfl, if_neg (by rw [g2]; exact (w_ix hj.1 hj.2).1)]
            rfl
          · exact hb.elim
        · exact hb.elim
      · exact hb.elim
    · -- iastore
      split at hb
      · rename_i x j o r
        split at hb
        · rename_i t n lo hi hD
          split at hb
          · rename_i ht
            subst ht
            obtain ⟨hj, hx, hgo⟩ := hb
            obtain ⟨l, ha', g1, g2, g3, g4, g5⟩ := w_ai_ok hrel (by decide) hD hgo
            refine aOK_op (pc' := pc + len) (ls' := ls) (st' := r) (c := 0) (s := 0) hl ?_ (hrec _ _ _ _ _ _ _ _ (w_j_ok g5) _ (w_rel_arr g4 hD g1 ?_))
            · show z_wrap X .iastore len pc ls (.int x :: .int j :: .ref (o + 2) :: r) H (match H[o]? with
                | some (.inl (t', .inl l)) => if t' = 0 then (if j < 0 ∨ l.length ≤ j.toNatClampNeg then none else some (r, H.set o (.inl (t', .inl (l.set j.toNatClampNeg (a_nar 0 x)))), 0, 0)) else none
                | _ => none) = _
              rw [g1]
              dsimp only
              rw [if_pos rfl, if_neg (by rw [g2]; exact (w_ix hj.1 hj.2).1)]
              rfl
            · unfold z_cell
              dsimp only
              rw [if_neg (by decide)]
              refine ⟨by decide, _, rfl, by rw [List.length_set]; exact g2, fun y hy => ?_⟩
              rcases z_mem_set hy with q | rfl
              · exact g3 y q
              · exact hx
          · exact hb.elim
        · exact hb.elim
      · exact hb.elim
    · -- bastore
      split at hb
      · rename_i x j o r
        split at hb
        · rename_i t n lo hi hD
          split at hb
          · rename_i ht
            subst ht
            obtain ⟨hj, hx, hgo⟩ := hb
            obtain ⟨l, ha', g1, g2, g3, g4, g5⟩ := w_ai_ok hrel (by decide) hD hgo
            refine aOK_op (pc' := pc + len) (ls' := ls) (st' := r) (c := 0) (s := 0) hl ?_ (hrec _ _ _ _ _ _ _ _ (w_j_ok g5) _ (w_rel_arr g4 hD g1 ?_))
            · show z_wrap X .bastore len pc ls (.int x :: .int j :: .ref (o + 2) :: r) H (match H[o]? with
                | some (.inl (t', .inl l)) => if t' = 2 then (if j < 0 ∨ l.length ≤ j.toNatClampNeg then none else some (r, H.set o (.inl (t', .inl (l.set j.toNatClampNeg (a_nar 2 x)))), 0, 0)) else none
                | _ => none) = _
              rw [g1]
              dsimp only
              rw [if_pos rfl, if_neg (by rw [g2]; exact (w_ix hj.1 hj.2).1), (w_nar01 hx.2.2.1 hx.2.2.2).2]
              rfl
            · unfold z_cell
              dsimp only
              rw [if_neg (by decide)]
              refine ⟨by decide, _, rfl, by rw [List.length_set]; exact g2, fun y hy => ?_⟩
              rcases z_mem_set hy with q | rfl
              · exact g3 y q
              · exact ⟨hx.1, hx.2.1⟩
          · exact hb.elim
        · exact hb.elim
      · exact hb.elim
    · -- lastore
      split at hb
      · rename_i x j o r
        split at hb
        · rename_i t n lo hi hD
          split at hb
          · rename_i ht
            subst ht
            obtain ⟨hj, hx, hgo⟩ := hb
            obtain ⟨l, ha', g1, g2, g3, g4, g5⟩ := w_al_ok hrel hD hgo
            refine aOK_op (pc' := pc + len) (ls' := ls) (st' := r) (c := 0) (s := 0) hl ?_ (hrec _ _ _ _ _ _ _ _ (w_j_ok g5) _ (w_rel_arr g4 hD g1 ?_))
            · show z_wrap X .lastore len pc ls (.long x :: .int j :: .ref (o + 2) :: r) H (match H[o]? with
                | some (.inl (t', .inr (.inl l))) => if t' = 1 then (if j < 0 ∨ l.length ≤ j.toNatClampNeg then none else some (r, H.set o (.inl (t', .inr (.inl (l.set j.toNatClampNeg x)))), 0, 0)) else none
                | _ => none) = _
              rw [g1]
              dsimp only
              rw [if_pos rfl, if_neg (by rw [g2]; exact (w_ix hj.1 hj.2).1)]
              rfl
            · unfold z_cell
              dsimp only
              rw [if_pos rfl]
              refine ⟨_, rfl, by rw [List.length_set]; exact g2, fun y hy => ?_⟩
              rcases z_mem_set hy with q | rfl
              · exact g3 y q
              · exact hx
          · exact hb.elim
        · exact hb.elim
      · exact hb.elim
    · -- ireturn
      split at hb
      · rename_i l0 x hret
        refine aOK_ret hl s_ireturn (v := some (.int x)) ?_ (fun n e => by cases e) (w_rt_ok hrec (fun n e => by cases e) hrel hb)
        rw [hret]; rfl
      · rename_i l0 x hret
        refine aOK_ret hl s_ireturn (v := some (.int x)) ?_ (fun n e => by cases e) (w_rt_ok hrec (fun n e => by cases e) hrel hb.2)
        rw [hret]
        show (if narrow .boolean (.int x) = .int x then some (some (Value.int x)) else none) = _
        rw [if_pos (w_nar01 hb.1.1 hb.1.2).1]
      · exact hb.elim
    · -- lreturn
      split at hb
      · rename_i l0 x hret
        refine aOK_ret hl s_lreturn (v := some (.long x)) ?_ (fun n e => by cases e) (w_rt_ok hrec (fun n e => by cases e) hrel hb)
        rw [hret]; rfl
      · exact hb.elim
    · -- return
      split at hb
      · rename_i l0 hret
        refine aOK_ret hl (by cases X <;> rfl) (v := none) ?_ (fun n e => by cases e) (w_rt_ok hrec (fun n e => by cases e) hrel hb)
        rw [hret]; rfl
      · exact hb.elim
    · -- invokevirtual
      rename_i q
      split at hb
      · rename_i M' as rest hq
        obtain ⟨hi, hk, -⟩ := w_inv_ok hrel.1 hq
        split at hb
        · exact hb.elim
        · rename_i d'
          cases hbq : Nat.beq (pc + len) nx with
          | false =>
            rw [hbq] at hb
            exact hb.elim
          | true =>
            rw [hbq] at hb
            have hb2 := w_norm_eq hb
            have en : nx = pc + len := (Nat.eq_of_beq_eq_true hbq).symm
            subst en
            cases htl : tl.elem k.2.1 with
            | true =>
              rw [htl] at hb2
              exact w_call_ok hl (by cases X <;> rfl) rfl hi (hb2 H hrel)
            | false =>
              rw [htl] at hb2
              exact w_call_ok hl (by cases X <;> rfl) rfl hi (hrec _ _ _ _ _ _ _ _ hb2 H hrel)
      · exact hb.elim
    · -- invokestatic
      rename_i q
      split at hb
      · rename_i M' as rest hq
        obtain ⟨hi, hk, hk2⟩ := w_inv_ok hrel.1 hq
        have hop : a_op X (.invokestatic q) len k pc ls st H = none := by
          unfold a_op
          simp only [a_stk, a_loc, a_br, a_hp, if_neg hk2]
          cases X <;> rfl
        split at hb
        · exact hb.elim
        · rename_i d'
          cases hbq : Nat.beq (pc + len) nx with
          | false =>
            rw [hbq] at hb
            exact hb.elim
          | true =>
            rw [hbq] at hb
            have hb2 := w_norm_eq hb
            have en : nx = pc + len := (Nat.eq_of_beq_eq_true hbq).symm
            subst en
            cases htl : tl.elem k.2.1 with
            | true =>
              rw [htl] at hb2
              exact w_call_ok hl hop rfl hi (hb2 H hrel)
            | false =>
              rw [htl] at hb2
              exact w_call_ok hl hop rfl hi (hrec _ _ _ _ _ _ _ _ hb2 H hrel)
      · exact hb.elim
    · -- all else
      split at hb
      · rename_i st' hst
        refine aOK_op0 hl ?_ (hrec _ _ _ _ _ _ _ _ (w_j_ok hb) H hrel)
        unfold a_op
        rw [hst]
      · rename_i hst
        split at hb
        · rename_i ls' st' hls
          refine aOK_op0 hl ?_ (hrec _ _ _ _ _ _ _ _ (w_j_ok (w_norm_eq hb)) H hrel)
          unfold a_op
          rw [hst]
          dsimp only
          rw [hls]
        · exact hb.elim
theorem w_p_ok (hlen : ∀ o ci ks, D o = some (.inr (.inl (ci, ks))) → ks.length ≤ 128) {sp tl : List Nat} : ∀ (n : Nat) (d : Nat) (M : aM) (pc : Nat) (ls : aL) (st : List Value) (fs : List wFr) (hf : wF) (ha : wA), w_p D P X h C S K0 sp tl n d M pc ls st fs hf ha → w_at D P X h C S K0 d M pc ls st fs hf ha
  | 0, _, _, _, _, _, _, _, _, hb => hb
  | n + 1, d, M, pc, ls, st, fs, hf, ha, hb => by
    unfold w_p at hb
    split at hb
    · exact hb
    · exact w_body_ok hlen (w_p_ok hlen n) hb
theorem w_rel0 (hr : w_hr D h) : w_rel D h [] [] h := ⟨hr, fun _ _ q => (by cases q), fun _ _ q => (by cases q), fun _ _ => rfl, fun _ _ => rfl⟩
/-- a walk from a place of a method -/
theorem w_go (hlen : ∀ o ci ks, D o = some (.inr (.inl (ci, ks))) → ks.length ≤ 128) (sp tl : List Nat) (n : Nat) {d : Nat} {M : aM} {pc : Nat} {ls : aL} {st : List Value} (hr : w_hr D h) (hb : w_body D P X h C S K0 tl (w_p D P X h C S K0 sp tl n) d M pc ls st [] [] []) : aOK P X d M pc ls st h C S K0 := w_body_ok hlen (w_p_ok hlen n) hb h (w_rel0 hr)
end WRUN
