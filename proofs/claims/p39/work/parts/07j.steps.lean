/-! ===== a run over all ways, and what it is worth ===== -/
/-- back to the frame that waits; the last answer must be 1, within the law's room -/
def s_back (d : Nat) (fs : List sFr) (v : Option sV) (h : sH) (fa : sFa) (C S : Nat) : Option (List sC) := match fs with
  | [] => if v = some [.inl (.int 1)] ∧ C ≤ 600002 ∧ S ≤ 7302232 then some [] else none
  | (M, pc, ls, rest, _) :: fs' => some [(d + 1, M, pc, ls, v.toList ++ rest, fs', h, fa, C, S)]
def s_thrown (d : Nat) (i : Instr) (k : aK) (st : List sV) (fs : List sFr) (h : sH) (fa : sFa) (C S : Nat) : Option (List sC) := match i, st, fs with
  | .new _, [], (_, _, _, _, kd) :: fs' => if k.1 = 17 ∧ kd = 18 then s_back (d + 1) fs' (some [.inl (.int 1)]) (s_happ h (.inr (a_exc, []))) fa (C + 1) (S + 6) else none
  | _, _, _ => none
def s_step (P : List aM) (sm : sFa → Nat → List sV → Option sV) (c : sC) : Option (List sC) := match c with
  | (d, M, pc, ls, st, fs, h, fa, C, S) => match M.2.2.2.2.2.lookup pc with
    | none => none
    | some (i, len, k) => match s_one fa i len k pc ls st h with
      | some (pc', ls', st', h') => some [(d, M, pc', ls', st', fs, h', fa, C, S)]
      | none => match s_tst i st with
        | some (cd, a, b, r) => some ((s_ways fa cd a b k.2.1 (pc + 3)).map (fun q => (d, M, q.1, ls, r, fs, h, q.2, C, S)))
        | none => match s_ret fa i M.2.2.2.1 st with
          | some v => s_back d fs v h fa C S
          | none => match s_inv P i k st h with
            | some (M', as, rest) => match d with
              | 0 => none
              | d' + 1 => match sm fa k.2.1 as with
                | some e => some [(d' + 1, M, pc + len, ls, e :: rest, fs, h, fa, C, S)]
                | none => some [(d', M', 0, s_ent as M'.2.2.1, [], (M, pc + len, ls, rest, k.1) :: fs, h, fa, C, S)]
            | none => s_thrown d i k st fs h fa C S
def s_run (P : List aM) (sm : sFa → Nat → List sV → Option sV) : Nat → sC → Bool
  | 0, _ => false
  | n + 1, c => match s_step P sm c with
    | none => false
    | some [] => true
    | some [c'] => s_run P sm n c'
    | some [c1, c2] => s_run P sm n c1 && s_run P sm n c2
    | some _ => false
section SSN
variable {E : Nat → Int32} {F : sF} {P : List aM} {sm : sFa → Nat → List sV → Option sV}
def s_fin (v : Option Value) (_ : aH) (C S : Nat) : Prop := v = some (.int 1) ∧ C ≤ 600002 ∧ S ≤ 7302232
def s_K (P : List aM) (E : Nat → Int32) (F : sF) : Nat → List sFr → Option Value → aH → Nat → Nat → Prop
  | _, [] => s_fin
  | d, (M, pc, ls, rest, kd) :: fs => fun v h C S => ((∃ n, v = some (.retAddr n)) ∧ kd = 18 ∧ s_K P E F (d + 1) fs (some (.int 1)) h C S) ∨
      ((∀ n, v ≠ some (.retAddr n)) ∧ aOK P (some (6, E)) (d + 1) M pc (s_els E F ls) (v.toList ++ s_est E F rest) h C S (s_K P E F (d + 1) fs))
def s_mean (P : List aM) (E : Nat → Int32) (F : sF) (c : sC) : Prop := match c with
  | (d, M, pc, ls, st, fs, h, fa, C, S) => s_sat E F fa → aOK P (some (6, E)) d M pc (s_els E F ls) (s_est E F st) (s_eH E F h) C S (s_K P E F d fs)
/-- what a summary of a method is worth -/
def s_smok (P : List aM) (E : Nat → Int32) (F : sF) (sm : sFa → Nat → List sV → Option sV) : Prop := ∀ fa j as e M, sm fa j as = some e → P[j]? = some M → s_sat E F fa → ∀ (d : Nat) (h : sH) (C S : Nat) (K : Option Value → aH → Nat → Nat → Prop),
  K (some (s_ev E F e)) (s_eH E F h) C S → aOK P (some (6, E)) d M 0 (a_ent (s_est E F as) M.2.2.1) [] (s_eH E F h) C S K
def s_smty (sm : sFa → Nat → List sV → Option sV) (F : sF) (E : Nat → Int32) : Prop := ∀ fa j as e, sm fa j as = some e → ∀ n, s_ev E F e ≠ .retAddr n
theorem s_back_ok {d : Nat} {fs : List sFr} {v : Option sV} {h : sH} {fa : sFa} {C S : Nat} {l : List sC} (hs : s_sat E F fa) (hv : ∀ n, v.map (s_ev E F) ≠ some (.retAddr n)) (q : s_back d fs v h fa C S = some l) (hl : ∀ c ∈ l, s_mean P E F c) : s_K P E F d fs (v.map (s_ev E F)) (s_eH E F h) C S := by
  unfold s_back at q
  split at q
  · split at q
    · rename_i hc
      obtain ⟨rfl, h2, h3⟩ := hc
      exact ⟨rfl, h2, h3⟩
    · cases q
  · rename_i M pc ls rest kd fs'
    cases q
    refine Or.inr ⟨hv, ?_⟩
    have := hl _ List.mem_cons_self hs
    have e : (v.map (s_ev E F)).toList ++ s_est E F rest = s_est E F (v.toList ++ rest) := by
      cases v <;> simp [s_est]
    rw [e]
    exact this
theorem s_step_ok (hF : s_Fok F) (hsm : s_smok P E F sm) (hst : s_smty sm F E) {c : sC} {l : List sC} (q : s_step P sm c = some l) (hl : ∀ c ∈ l, s_mean P E F c) : s_mean P E F c := by
  obtain ⟨d, M, pc, ls, st, fs, h, fa, C, S⟩ := c
  intro hs
  unfold s_step at q
  dsimp only at q
  split at q
  · cases q
  · rename_i i len k hlk
    split at q
    · rename_i pc' ls' st' h' h1
      cases q
      exact aOK_op hlk (s_one_ok hF hs h1) (hl _ List.mem_cons_self hs)
    · split at q
      · rename_i cd a b r h1
        cases q
        obtain ⟨x, y, hx, hy, hop⟩ := s_tst_ok (E := E) (X := some (6, E)) (len := len) (k := k) (pc := pc) (ls := s_els E F ls) (h := s_eH E F h) hF h1
        obtain ⟨w, hw, e1, e2⟩ := s_ways_ok (c := cd) (yes := k.2.1) (no := pc + 3) hs hx hy
        refine aOK_op hlk hop ?_
        rw [← e1]
        exact hl _ (List.mem_map.mpr ⟨w, hw, rfl⟩) e2
      · split at q
        · rename_i v h1
          obtain ⟨e1, e2, e3⟩ := s_ret_ok (X := some (6, E)) (len := len) (k := k) (pc := pc) (ls := s_els E F ls) (h := s_eH E F h) hF hs h1
          exact aOK_ret hlk e1 e2 e3 (s_back_ok hs e3 q hl)
        · split at q
          · rename_i M' as rest h1
            obtain ⟨e1, e2, e3, e4, e5⟩ := s_inv_ok (E := E) (X := some (6, E)) (len := len) (pc := pc) (ls := s_els E F ls) (ret := M.2.2.2.1) hF h1
            split at q
            · cases q
            · rename_i d'
              split at q
              · rename_i e he
                cases q
                refine aOK_call hlk e1 e2 e3 (hsm _ _ _ _ _ he e5 hs _ _ _ _ _ (Or.inr ⟨fun n w => hst _ _ _ _ he n (Option.some.inj w), ?_⟩))
                exact hl _ List.mem_cons_self hs
              · cases q
                refine aOK_call hlk e1 e2 e3 ?_
                have := hl _ List.mem_cons_self hs
                rw [s_ent_ok hF e4]
                exact this
          · unfold s_thrown at q
            split at q
            · rename_i idx M2 pc2 ls2 rest2 kd fs'
              split at q
              · rename_i hc
                refine aOK_thr (n := 0) hlk (by simp [a_op, a_stk, a_loc, a_br, a_hp, a_scr, hc.1]) (by show (if k.1 = 17 then _ else _) = _; rw [if_pos hc.1]) ?_
                refine Or.inl ⟨⟨0, rfl⟩, hc.2, ?_⟩
                have := s_back_ok (v := some [.inl (.int 1)]) hs (fun n w => by cases w) q hl
                have e : s_eH E F (s_happ h (.inr (a_exc, []))) = s_eH E F h ++ [.inr (a_exc, [])] := by
                  unfold s_eH s_happ
                  dsimp only
                  rw [List.range_succ, List.map_append, List.map_singleton, s_hg_set, if_pos rfl]
                  congr 1
                  refine List.map_congr_left (fun i hi => ?_)
                  rw [s_hg_set, if_neg (Nat.ne_of_lt (List.mem_range.mp hi))]
                rw [e] at this
                exact this
              · cases q
            · cases q
theorem s_run_ok (hF : s_Fok F) (hsm : s_smok P E F sm) (hst : s_smty sm F E) : ∀ (n : Nat) (c : sC), s_run P sm n c = true → s_mean P E F c
  | 0, _, h => by cases h
  | n + 1, c, h => by
    unfold s_run at h
    split at h
    · cases h
    · rename_i e
      exact s_step_ok hF hsm hst e (fun c hc => absurd hc List.not_mem_nil)
    · rename_i c' e
      refine s_step_ok hF hsm hst e (fun c hc => ?_)
      rw [List.mem_singleton.mp hc]
      exact s_run_ok hF hsm hst n c' h
    · rename_i c1 c2 e
      simp only [Bool.and_eq_true] at h
      refine s_step_ok hF hsm hst e (fun c hc => ?_)
      rcases List.mem_cons.mp hc with rfl | hc
      · exact s_run_ok hF hsm hst n _ h.1
      · rw [List.mem_singleton.mp hc]
        exact s_run_ok hF hsm hst n _ h.2
    · cases h
end SSN
