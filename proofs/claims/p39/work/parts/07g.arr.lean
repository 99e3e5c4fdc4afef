/-! ===== arrays on such values ===== -/
section SAR
variable {E : Nat → Int32} {F : sF}
theorem s_eA_int {a : sA} (h1 : a.1 ≠ 1) (h2 : ¬ 4 ≤ a.1) : s_eA E F a = .inl ((List.range a.2.1).map (fun j => s_toI (s_ev E F (s_at a j)))) := by
  unfold s_eA; rw [if_neg h1, if_neg h2]
theorem s_eA_long {a : sA} (h1 : a.1 = 1) : s_eA E F a = .inr (.inl ((List.range a.2.1).map (fun j => s_toL (s_ev E F (s_at a j))))) := by
  unfold s_eA; rw [if_pos h1]
theorem s_eA_ref {a : sA} (h2 : 4 ≤ a.1) : s_eA E F a = .inr (.inr ((List.range a.2.1).map (fun j => s_toR (s_ev E F (s_at a j))))) := by
  unfold s_eA; rw [if_neg (by omega), if_pos h2]
theorem s_ixs_s {fa : sFa} {t : Nat} {st r : List sV} {h : sH} {v : sV} (q : s_ixs fa t st h = some (v, r)) : ∃ (e : sV) (o : Nat) (a : sA), st = e :: [.inl (.ref (o + 2))] :: r ∧ s_hget h o = some (.inl a) ∧ a.1 = t ∧ s_ty e = 1 ∧ 0 ≤ (s_itv fa e).1 ∧ (s_itv fa e).2 < (a.2.1 : Int) ∧ a.2.2.2 = [] ∧ v = a.2.2.1 := by
  unfold s_ixs at q
  split at q
  · split at q
    · split at q
      · rename_i hc
        cases q
        exact ⟨_, _, _, rfl, by assumption, hc.1, hc.2.1, hc.2.2.1, hc.2.2.2.1, hc.2.2.2.2, rfl⟩
      · cases q
    · cases q
  · cases q
theorem s_ald_s (hF : s_Fok F) {fa : sFa} (hs : s_sat E F fa) {t ty : Nat} {st st' : List sV} {h h' : sH} (q : s_ald fa t ty st h = some (st', h')) : ∃ (n : Int32) (o : Nat) (a : sA) (r : List sV) (v : sV), s_est E F st = .int n :: .ref (o + 2) :: s_est E F r ∧ s_hget h o = some (.inl a) ∧ a.1 = t ∧ ¬ (n < 0 ∨ a.2.1 ≤ n.toNatClampNeg) ∧ s_at a n.toNatClampNeg = v ∧ s_ty v = ty ∧ st' = v :: r ∧ h = h' := by
  unfold s_ald at q
  split at q
  · rename_i j o a r hx
    split at q
    · rename_i ht
      cases q
      obtain ⟨n, e1, e2, e3, e4, e5⟩ := s_ix_s hx
      subst e5
      exact ⟨n, o, a, r, _, by rw [e1]; rfl, e2, e3, e4, rfl, ht, rfl, rfl⟩
    · cases q
  · split at q
    · rename_i v r hx
      split at q
      · rename_i ht
        cases q
        obtain ⟨e, o, a, rfl, hh, c1, c2, c3, c4, c5, rfl⟩ := s_ixs_s hx
        obtain ⟨n, hn⟩ := s_ty1 (E := E) hF c2
        have hi := s_itv_ok hs hn
        refine ⟨n, o, a, r, a.2.2.1, ?_, hh, c1, ?_, ?_, ht, rfl, rfl⟩
        · show s_ev E F e :: .ref (o + 2) :: s_est E F r = _
          rw [hn]
        · have h0 : n.toNatClampNeg = n.toInt.toNat := rfl
          rw [Int32.lt_iff_toInt_lt, h0]
          have : (0 : Int32).toInt = 0 := rfl
          omega
        · unfold s_at
          rw [c5]; rfl
      · cases q
    · cases q
theorem s_ald_ok (hF : s_Fok F) {fa : sFa} (hs : s_sat E F fa) {t : Nat} (ht : t = 0 ∨ t = 2 ∨ t = 3) {st st' : List sV} {h h' : sH} (q : s_ald fa t 1 st h = some (st', h')) : a_ald t (s_est E F st) (s_eH E F h) = some (s_est E F st', s_eH E F h', 0, 0) := by
  obtain ⟨n, o, a, r, v, e1, e2, e3, e4, e6, e5, rfl, rfl⟩ := s_ald_s hF hs q
  obtain ⟨z, hz⟩ := s_ty1 (E := E) hF e5
  rw [e1]
  show (match (s_eH E F h)[o]? with
    | some (.inl (t', .inl l)) => if t' = t then (if n < 0 ∨ l.length ≤ n.toNatClampNeg then none else some (Value.int (l.getD n.toNatClampNeg 0) :: s_est E F r, s_eH E F h, 0, 0)) else none
    | _ => none) = _
  rw [s_eH_get, e2]
  dsimp only [Option.map_some, s_eE]
  rw [s_eA_int (by rw [e3]; omega) (by rw [e3]; omega)]
  dsimp only
  rw [if_pos e3, List.length_map, List.length_range, if_neg e4, s_rng _ _ _ (by omega), e6, hz]
  simp only [s_est, List.map_cons, hz, s_toI]
theorem s_lald_ok (hF : s_Fok F) {fa : sFa} (hs : s_sat E F fa) {st st' : List sV} {h h' : sH} (q : s_ald fa 1 2 st h = some (st', h')) : a_lald (s_est E F st) (s_eH E F h) = some (s_est E F st', s_eH E F h', 0, 0) := by
  obtain ⟨n, o, a, r, v, e1, e2, e3, e4, e6, e5, rfl, rfl⟩ := s_ald_s hF hs q
  obtain ⟨z, hz⟩ := s_ty2 (E := E) hF e5
  rw [e1]
  show (match (s_eH E F h)[o]? with
    | some (.inl (t', .inr (.inl l))) => if t' = 1 then (if n < 0 ∨ l.length ≤ n.toNatClampNeg then none else some (Value.long (l.getD n.toNatClampNeg 0) :: s_est E F r, s_eH E F h, 0, 0)) else none
    | _ => none) = _
  rw [s_eH_get, e2]
  dsimp only [Option.map_some, s_eE]
  rw [s_eA_long e3]
  dsimp only
  rw [if_pos e3, List.length_map, List.length_range, if_neg e4, s_rng _ _ _ (by omega), e6, hz]
  simp only [s_est, List.map_cons, hz, s_toL]
theorem s_aald_ok (hF : s_Fok F) {fa : sFa} (hs : s_sat E F fa) {t : Nat} (ht : 4 ≤ t ∧ t < a_tys.length) {st st' : List sV} {h h' : sH} (q : s_ald fa t 3 st h = some (st', h')) : a_aald (s_est E F st) (s_eH E F h) = some (s_est E F st', s_eH E F h', 0, 0) := by
  obtain ⟨n, o, a, r, v, e1, e2, e3, e4, e6, e5, rfl, rfl⟩ := s_ald_s hF hs q
  obtain ⟨z, hz⟩ := s_ty3 (E := E) hF e5
  rw [e1]
  show (match (s_eH E F h)[o]? with
    | some (.inl (t', .inr (.inr l))) => if 4 ≤ t' ∧ t' < a_tys.length then (if n < 0 ∨ l.length ≤ n.toNatClampNeg then none else some (a_rv (l.getD n.toNatClampNeg none) :: s_est E F r, s_eH E F h, 0, 0)) else none
    | _ => none) = _
  rw [s_eH_get, e2]
  dsimp only [Option.map_some, s_eE]
  rw [s_eA_ref (by rw [e3]; exact ht.1)]
  dsimp only
  rw [if_pos (by rw [e3]; exact ht), List.length_map, List.length_range, if_neg e4, s_rng _ _ _ (by omega), e6, hz]
  simp only [s_est, List.map_cons, hz, s_toR, a_rv]
theorem s_ast_s {fa : sFa} {t : Nat} {st st' : List sV} {h h' : sH} (q : s_ast fa t st h = some (st', h')) : ∃ (e : sV) (n : Int32) (o : Nat) (a : sA), st = e :: [.inl (.int n)] :: [.inl (.ref (o + 2))] :: st' ∧ s_hget h o = some (.inl a) ∧ a.1 = t ∧ ¬ (n < 0 ∨ a.2.1 ≤ n.toNatClampNeg) ∧ s_afit fa t e = true ∧ h' = s_hset h o (.inl (s_aset a n.toNatClampNeg e)) := by
  unfold s_ast at q
  split at q
  · rename_i e st2
    split at q
    · rename_i j o a r hx
      split at q
      · rename_i hf
        cases q
        obtain ⟨n, e1, e2, e3, e4, e5⟩ := s_ix_s hx
        subst e5
        exact ⟨e, n, o, a, by rw [e1], e2, e3, e4, hf, rfl⟩
      · cases q
    · cases q
  · cases q
theorem s_i2c (x : Int32) : a_nar 3 ((x.toUInt32 % 65536).toInt32) = (x.toUInt32 % 65536).toInt32 := by
  show vp_nar .char ((x.toUInt32 % 65536).toInt32) = _
  rw [vp_nar_char]
  have e : ((x.toUInt32 % 65536).toInt32).toUInt32 = x.toUInt32 % 65536 := rfl
  rw [e]
  have h2 : (x.toUInt32 % 65536).toUInt16.toUInt32 = x.toUInt32 % 65536 := by
    apply UInt32.toNat_inj.mp
    simp [UInt32.toNat_mod]
  rw [h2]
theorem s_ch_ok (hF : s_Fok F) {e : sV} (h : s_ch e = true) : ∃ z, s_ev E F e = .int z ∧ a_nar 3 z = z := by
  unfold s_ch at h
  split at h
  · exact ⟨_, rfl, of_decide_eq_true h⟩
  · simp only [Bool.and_eq_true, decide_eq_true_eq] at h
    obtain ⟨z, hz⟩ := s_ty1 (E := E) hF h.2
    refine ⟨z, hz, ?_⟩
    obtain ⟨p, hp⟩ := List.getLast?_eq_some_iff.mp h.1
    rw [hp] at hz
    unfold s_ev s_rn at hz
    rw [List.foldl_append] at hz
    generalize List.foldl (s_tk E F) [] p = l at hz
    cases l with
    | nil => cases hz
    | cons w r =>
      have hz2 : s_top .i2c [w] = .int z := hz
      cases w with
      | int x =>
        have h3 : (x.toUInt32 % 65536).toInt32 = z := by injection hz2
        rw [← h3]
        exact s_i2c x
      | _ => cases hz2
theorem s_ast_ok (hF : s_Fok F) {fa : sFa} (hs : s_sat E F fa) {t : Nat} (ht : t = 0 ∨ t = 2 ∨ t = 3) {st st' : List sV} {h h' : sH} (q : s_ast fa t st h = some (st', h')) : a_ast t (s_est E F st) (s_eH E F h) = some (s_est E F st', s_eH E F h', 0, 0) := by
  obtain ⟨e, n, o, a, rfl, e2, e3, e4, e5, rfl⟩ := s_ast_s q
  have hz : ∃ z, s_ev E F e = .int z ∧ a_nar t z = z := by
    rcases ht with rfl | rfl | rfl
    · obtain ⟨z, hz⟩ := s_ty1 (E := E) hF (of_decide_eq_true e5)
      exact ⟨z, hz, rfl⟩
    · rcases s_bit_ok hF hs e5 with z | z
      · exact ⟨0, z, by decide⟩
      · exact ⟨1, z, by decide⟩
    · exact s_ch_ok hF e5
  obtain ⟨z, hz, hn⟩ := hz
  have hst : s_est E F (e :: [.inl (.int n)] :: [.inl (.ref (o + 2))] :: st') = .int z :: .int n :: .ref (o + 2) :: s_est E F st' := by
    show s_ev E F e :: .int n :: .ref (o + 2) :: s_est E F st' = _
    rw [hz]
  rw [hst]
  show (match (s_eH E F h)[o]? with
    | some (.inl (t', .inl l)) => if t' = t then (if n < 0 ∨ l.length ≤ n.toNatClampNeg then none else some (s_est E F st', (s_eH E F h).set o (.inl (t', .inl (l.set n.toNatClampNeg (a_nar t z)))), 0, 0)) else none
    | _ => none) = _
  rw [s_eH_get, e2]
  dsimp only [Option.map_some, s_eE]
  rw [s_eA_int (by rw [e3]; omega) (by rw [e3]; omega)]
  dsimp only
  rw [if_pos e3, List.length_map, List.length_range, if_neg e4, hn, ← s_eH_set]
  dsimp only [s_eE]
  rw [s_eA_int (show (s_aset a n.toNatClampNeg e).1 ≠ 1 by show a.1 ≠ 1; rw [e3]; omega) (show ¬ 4 ≤ (s_aset a n.toNatClampNeg e).1 by show ¬ 4 ≤ a.1; rw [e3]; omega)]
  rw [s_rng_set _ (fun j => s_toI (s_ev E F (s_at (s_aset a n.toNatClampNeg e) j))) a.2.1 z (by rw [s_at_set, if_pos rfl, hz]; rfl) (fun i hi => by rw [s_at_set, if_neg hi])]
  rfl
theorem s_last_ok (hF : s_Fok F) {fa : sFa} {st st' : List sV} {h h' : sH} (q : s_ast fa 1 st h = some (st', h')) : a_last (s_est E F st) (s_eH E F h) = some (s_est E F st', s_eH E F h', 0, 0) := by
  obtain ⟨e, n, o, a, rfl, e2, e3, e4, e5, rfl⟩ := s_ast_s q
  obtain ⟨z, hz⟩ := s_ty2 (E := E) hF (of_decide_eq_true e5)
  have hst : s_est E F (e :: [.inl (.int n)] :: [.inl (.ref (o + 2))] :: st') = .long z :: .int n :: .ref (o + 2) :: s_est E F st' := by
    show s_ev E F e :: .int n :: .ref (o + 2) :: s_est E F st' = _
    rw [hz]
  rw [hst]
  show (match (s_eH E F h)[o]? with
    | some (.inl (t', .inr (.inl l))) => if t' = 1 then (if n < 0 ∨ l.length ≤ n.toNatClampNeg then none else some (s_est E F st', (s_eH E F h).set o (.inl (t', .inr (.inl (l.set n.toNatClampNeg z)))), 0, 0)) else none
    | _ => none) = _
  rw [s_eH_get, e2]
  dsimp only [Option.map_some, s_eE]
  rw [s_eA_long e3]
  dsimp only
  rw [if_pos e3, List.length_map, List.length_range, if_neg e4, ← s_eH_set]
  dsimp only [s_eE]
  rw [s_eA_long (show (s_aset a n.toNatClampNeg e).1 = 1 from e3)]
  rw [s_rng_set _ (fun j => s_toL (s_ev E F (s_at (s_aset a n.toNatClampNeg e) j))) a.2.1 z (by rw [s_at_set, if_pos rfl, hz]; rfl) (fun i hi => by rw [s_at_set, if_neg hi])]
  rfl
end SAR
