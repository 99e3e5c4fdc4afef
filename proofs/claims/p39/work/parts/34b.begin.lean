/-! ===== v4: the law's start is kept so ===== -/
def h_0 : aH := s_eH s_E0 s_F0' (196, [])
def h_dk (d : zK) (w : Value) : Bool := match d, w with
  | .inl (k, lo, hi), .int x => decide (k = 1) && decide (lo ≤ x.toInt) && decide (x.toInt ≤ hi)
  | .inl (k, lo, hi), .long x => decide (k = 2) && decide (lo ≤ x.toInt) && decide (x.toInt ≤ hi)
  | .inr r, .ref q => decide (q = r)
  | _, _ => false
theorem h_dk_ok {d : zK} {w : Value} (h : h_dk d w = true) : z_dk d w := by
  unfold h_dk at h
  split at h
  · simp only [Bool.and_eq_true, decide_eq_true_eq] at h
    exact Or.inl ⟨h.1.1, _, rfl, h.1.2, h.2⟩
  · simp only [Bool.and_eq_true, decide_eq_true_eq] at h
    exact Or.inr ⟨h.1.1, _, rfl, h.1.2, h.2⟩
  · rw [of_decide_eq_true h]
    rfl
  · cases h
def h_cell (c : zC) (e : aE) : Bool := match c, e with
  | .inl (t, n, lo, hi), .inl (t', .inr (.inl l)) => decide (t = 1) && decide (t' = t) && decide (l.length = n) && l.all (fun x => decide (lo ≤ x.toInt) && decide (x.toInt ≤ hi))
  | .inl (t, n, lo, hi), .inl (t', .inl l) => decide (t ≠ 1) && decide (t < 4) && decide (t' = t) && decide (l.length = n) && l.all (fun x => decide (lo ≤ x.toInt) && decide (x.toInt ≤ hi))
  | .inr (.inl (ci, ks)), .inr (ci', vs) => decide (ci' = ci) && decide (vs.length = ks.length) && (ks.zip vs).all (fun q => h_dk q.1 q.2)
  | .inr (.inr (t, rs)), .inl (t', .inr (.inr l)) => decide (4 ≤ t) && decide (t < a_tys.length) && decide (t' = t) && decide (l = rs.map some)
  | _, _ => false
theorem h_cell_ok {o : Nat} {c : zC} {e : aE} (h : h_cell c e = true) : z_cell [] [] o c e := by
  unfold h_cell at h
  split at h
  · simp only [Bool.and_eq_true, decide_eq_true_eq, List.all_eq_true] at h
    obtain ⟨⟨⟨h1, h2⟩, h3⟩, h4⟩ := h
    unfold z_cell
    dsimp only
    rw [if_pos h1]
    exact ⟨_, by rw [h2], h3, h4⟩
  · simp only [Bool.and_eq_true, decide_eq_true_eq, List.all_eq_true] at h
    obtain ⟨⟨⟨⟨h1, h2⟩, h3⟩, h4⟩, h5⟩ := h
    unfold z_cell
    dsimp only
    rw [if_neg h1]
    exact ⟨h2, _, by rw [h3], h4, h5⟩
  · rename_i ci ks ci' vs
    simp only [Bool.and_eq_true, decide_eq_true_eq, List.all_eq_true] at h
    obtain ⟨⟨h1, h2⟩, h3⟩ := h
    subst h1
    refine ⟨vs, rfl, h2, fun k d hd => ?_⟩
    have hk : k < vs.length := by rw [h2]; exact (List.getElem?_eq_some_iff.mp hd).1
    refine ⟨vs[k], List.getElem?_eq_getElem hk, fun x hx => (by cases hx), fun _ => ?_⟩
    refine h_dk_ok (h3 (d, vs[k]) (List.mem_of_getElem? (i := k) ?_))
    rw [List.getElem?_zip_eq_some]
    exact ⟨hd, List.getElem?_eq_getElem hk⟩
  · simp only [Bool.and_eq_true, decide_eq_true_eq] at h
    obtain ⟨⟨⟨h1, h2⟩, h3⟩, h4⟩ := h
    exact ⟨h1, h2, by rw [h3, h4]⟩
  · cases h
def h_all : Nat → aH → Bool
  | _, [] => true
  | o, e :: r => (match z_D o with
    | some c => h_cell c e
    | none => true) && h_all (o + 1) r
theorem h_all_ok : ∀ {H : aH} {m : Nat}, h_all m H = true → ∀ (o : Nat) (e : aE) (c : zC), H[o]? = some e → z_D (m + o) = some c → z_cell [] [] (m + o) c e := by
  intro H
  induction H with
  | nil => intro m _ o e c h; cases h
  | cons e0 r ih =>
    intro m h o e c he hc
    unfold h_all at h
    rw [Bool.and_eq_true] at h
    cases o with
    | zero =>
      cases he
      rw [Nat.add_zero] at hc ⊢
      rw [hc] at h
      exact h_cell_ok h.1
    | succ o =>
      have := ih h.2 o e c he (by rw [show m + 1 + o = m + (o + 1) from by omega]; exact hc)
      rw [show m + 1 + o = m + (o + 1) from by omega] at this
      exact this
set_option maxRecDepth 100000 in
theorem h_0_all : h_all 0 h_0 = true := by decide +kernel
theorem h_0_len : h_0.length = 196 := by
  unfold h_0 s_eH
  rw [List.length_map, List.length_range]
theorem h_0_hr : w_hr z_D h_0 := by
  refine ⟨fun o c hc => ?_, trivial⟩
  have ho : o < 196 := by
    unfold z_D at hc
    cases hb : Nat.ble 196 o with
    | true => rw [hb] at hc; cases hc
    | false =>
      rcases Nat.lt_or_ge o 196 with q | q
      · exact q
      · rw [Nat.ble_eq_true_of_le q] at hb
        cases hb
  have hl : o < h_0.length := by rw [h_0_len]; exact ho
  refine ⟨h_0[o], List.getElem?_eq_getElem hl, ?_⟩
  have := h_all_ok h_0_all o _ c (List.getElem?_eq_getElem hl) (by rw [Nat.zero_add]; exact hc)
  rw [Nat.zero_add] at this
  exact this
theorem h_N {n i : Nat} : y_N (List.replicate n 0) i = 0 := by
  unfold y_N
  rw [List.getD_eq_getElem?_getD]
  cases h : (List.replicate n (0 : Int32))[i]? with
  | none => rfl
  | some x => rw [List.eq_of_mem_replicate (List.mem_of_getElem? h)]; rfl
theorem h_Nn {n i : Nat} : y_Nn (List.replicate n 0) i = 0 := by
  have : y_Nn (List.replicate n 0) i = (y_N (List.replicate n 0) i).toNat := rfl
  rw [this, h_N]
  rfl
theorem h_L {n i : Nat} : (List.replicate n (0 : Int64)).getD i 0 = 0 := by
  rw [List.getD_eq_getElem?_getD]
  cases h : (List.replicate n (0 : Int64))[i]? with
  | none => rfl
  | some x => rw [List.eq_of_mem_replicate (List.mem_of_getElem? h)]; rfl
theorem h_tot {n : Nat} : ∀ m, y_tot (List.replicate n 0) m = 0 := by
  intro m
  induction m with
  | zero => rfl
  | succ m ih =>
    unfold y_tot
    rw [ih, h_L]
    rfl
def h_eqA (a b : Option (Nat × aA)) : Bool := match a, b with
  | some (t, x), some (t', y) => decide (t = t') && q_A x y
  | _, _ => false
theorem h_eqA_ok {a b : Option (Nat × aA)} (h : h_eqA a b = true) : a = b := by
  unfold h_eqA at h
  split at h
  · simp only [Bool.and_eq_true, decide_eq_true_eq] at h
    rw [h.1, q_A_ok h.2]
  · cases h
set_option maxRecDepth 100000 in
theorem h_a156 : w_a h_0 156 = some (0, .inl (List.replicate 10 0)) := h_eqA_ok (by decide +kernel)
set_option maxRecDepth 100000 in
theorem h_a157 : w_a h_0 157 = some (0, .inl (List.replicate 10 0)) := h_eqA_ok (by decide +kernel)
set_option maxRecDepth 100000 in
theorem h_a158 : w_a h_0 158 = some (0, .inl (List.replicate 80 0)) := h_eqA_ok (by decide +kernel)
set_option maxRecDepth 100000 in
theorem h_a160 : w_a h_0 160 = some (0, .inl (List.replicate 10 0)) := h_eqA_ok (by decide +kernel)
set_option maxRecDepth 100000 in
theorem h_a161 : w_a h_0 161 = some (0, .inl (List.replicate 10 0)) := h_eqA_ok (by decide +kernel)
set_option maxRecDepth 100000 in
theorem h_a162 : w_a h_0 162 = some (0, .inl (List.replicate 10 0)) := h_eqA_ok (by decide +kernel)
set_option maxRecDepth 100000 in
theorem h_a163 : w_a h_0 163 = some (1, .inr (.inl (List.replicate 1024 0))) := h_eqA_ok (by decide +kernel)
set_option maxRecDepth 100000 in
theorem h_a165 : w_a h_0 165 = some (0, .inl (List.replicate 13 0)) := h_eqA_ok (by decide +kernel)
set_option maxRecDepth 100000 in
theorem h_a166 : w_a h_0 166 = some (0, .inl (List.replicate 26 0)) := h_eqA_ok (by decide +kernel)
set_option maxRecDepth 100000 in
theorem h_a167 : w_a h_0 167 = some (1, .inr (.inl (List.replicate 52 0))) := h_eqA_ok (by decide +kernel)
set_option maxRecDepth 100000 in
theorem h_a168 : w_a h_0 168 = some (0, .inl (List.replicate 52 0)) := h_eqA_ok (by decide +kernel)
set_option maxRecDepth 100000 in
theorem h_a169 : w_a h_0 169 = some (0, .inl (List.replicate 52 0)) := h_eqA_ok (by decide +kernel)
set_option maxRecDepth 100000 in
theorem h_a170 : w_a h_0 170 = some (0, .inl (List.replicate 520 0)) := h_eqA_ok (by decide +kernel)
set_option maxRecDepth 100000 in
theorem h_a172 : w_a h_0 172 = some (0, .inl (List.replicate 6 0)) := h_eqA_ok (by decide +kernel)
set_option maxRecDepth 100000 in
theorem h_a174 : w_a h_0 174 = some (0, .inl (List.replicate 6 0)) := h_eqA_ok (by decide +kernel)
set_option maxRecDepth 100000 in
theorem h_a175 : w_a h_0 175 = some (0, .inl (List.replicate 6 0)) := h_eqA_ok (by decide +kernel)
set_option maxRecDepth 100000 in
theorem h_a176 : w_a h_0 176 = some (0, .inl (List.replicate 80 0)) := h_eqA_ok (by decide +kernel)
set_option maxRecDepth 100000 in
theorem h_a182 : w_a h_0 182 = some (0, .inl (List.replicate 8 0)) := h_eqA_ok (by decide +kernel)
set_option maxRecDepth 100000 in
theorem h_a187 : w_a h_0 187 = some (0, .inl (List.replicate 3 0)) := h_eqA_ok (by decide +kernel)
set_option maxRecDepth 100000 in
theorem h_a190 : w_a h_0 190 = some (0, .inl (List.replicate 30 0)) := h_eqA_ok (by decide +kernel)
set_option maxRecDepth 100000 in
theorem h_a191 : w_a h_0 191 = some (0, .inl (List.replicate 30 0)) := h_eqA_ok (by decide +kernel)
set_option maxRecDepth 100000 in
theorem h_a192 : w_a h_0 192 = some (0, .inl (List.replicate 30 0)) := h_eqA_ok (by decide +kernel)
set_option maxRecDepth 100000 in
theorem h_a193 : w_a h_0 193 = some (0, .inl (List.replicate 3 0)) := h_eqA_ok (by decide +kernel)
set_option maxRecDepth 100000 in
theorem h_a194 : w_a h_0 194 = some (0, .inl (List.replicate 240 0)) := h_eqA_ok (by decide +kernel)
set_option maxRecDepth 100000 in
theorem h_f19591 : w_f h_0 19591 = some (.int 0) := by decide +kernel
set_option maxRecDepth 100000 in
theorem h_f19600 : w_f h_0 19600 = some (.long 1) := by decide +kernel
set_option maxRecDepth 100000 in
theorem h_f19598 : w_f h_0 19598 = some (.int 0) := by decide +kernel
set_option maxRecDepth 100000 in
theorem h_f19640 : w_f h_0 19640 = some (.int 0) := by decide +kernel
set_option maxRecDepth 100000 in
theorem h_f19603 : w_f h_0 19603 = some (.int 0) := by decide +kernel
set_option maxRecDepth 100000 in
theorem h_f17152 : w_f h_0 17152 = some (.int 0) := by decide +kernel
set_option maxRecDepth 100000 in
theorem h_f17153 : w_f h_0 17153 = some (.int 0) := by decide +kernel
set_option maxRecDepth 100000 in
theorem h_f17154 : w_f h_0 17154 = some (.int 0) := by decide +kernel
set_option maxRecDepth 100000 in
theorem h_f17155 : w_f h_0 17155 = some (.int 0) := by decide +kernel
set_option maxRecDepth 100000 in
theorem h_f17156 : w_f h_0 17156 = some (.int 0) := by decide +kernel
set_option maxRecDepth 100000 in
theorem h_f17157 : w_f h_0 17157 = some (.int 0) := by decide +kernel
theorem h_0_JA : y_JA h_0 := by
  have z : (0 : Int32).toInt = 0 := rfl
  refine ⟨⟨?_, ?_, ?_, ?_, ?_, ?_, ?_⟩, ?_, ?_⟩
  · refine ⟨_, _, _, _, h_f19591, h_a156, h_a157, h_a158, fun v hv => ?_, fun i hi => ?_, fun v hv => ?_, ?_, fun v hv => h_N⟩
    · rw [h_Nn]
      exact ⟨by decide, Nat.two_pow_pos v⟩
    · rw [h_N, h_N]
      exact Int.le_refl _
    · rw [z] at hv
      omega
    · show y_pr _ 0 ≤ _
      exact (by decide : (1 : Int) ≤ 100000000)
  · exact ⟨_, _, _, h_f19591, h_f19600, h_a157, rfl⟩
  · refine ⟨_, _, _, _, _, _, h_a157, h_a176, h_a194, h_a172, h_a174, h_a175, fun i hi => ?_, fun i hi => ?_, fun k hk => ⟨?_, ?_⟩⟩
    · rw [h_N, h_N]; exact Int.le_refl _
    · rw [h_N, h_N]; exact Int.le_refl _
    · rw [h_N, h_N]; exact Int.le_refl _
    · rw [h_N, h_N]; exact Int.le_refl _
  · refine ⟨_, _, h_f19591, h_a163, fun x hx => ?_, ?_, fun i hi => h_L⟩
    · rw [List.eq_of_mem_replicate hx]
      decide
    · rw [h_tot]
      decide
  · refine ⟨_, _, _, _, h_f19591, h_f19598, h_a162, h_a160, Nat.le_refl _, fun k hk => ?_, fun i j hi => ?_, fun v hv => ?_⟩
    · exact absurd hk (Nat.not_lt_zero _)
    · exact absurd hi (Nat.not_lt_zero _)
    · exact absurd hv (Nat.not_lt_zero _)
  · refine ⟨_, _, _, _, _, h_f19591, h_a187, h_a193, h_a192, h_a190, fun i hi => ⟨?_, ?_⟩⟩
    · rw [h_N]
      exact Int.le_refl _
    · rw [h_Nn]
      refine ⟨Nat.le_refl _, fun k hk => ?_, fun i j hi => ?_, fun v hv => ?_⟩
      · exact absurd hk (Nat.not_lt_zero _)
      · exact absurd hi (Nat.not_lt_zero _)
      · exact absurd hv (Nat.not_lt_zero _)
  · refine ⟨_, _, h_f19640, h_a182, fun k hk => ?_⟩
    rw [z] at hk
    omega
  · refine ⟨_, _, _, _, _, _, _, h_f19603, h_a165, h_a166, h_a167, h_a168, h_a169, h_a170, fun s hs => ?_⟩
    rw [z] at hs
    omega
  · refine ⟨_, _, _, _, h_f19591, h_a161, h_a187, h_a191, fun v hv => ?_, fun i v hi hv => ?_⟩
    · rw [z] at hv
      omega
    · rw [h_Nn] at hv
      exact absurd hv (Nat.not_lt_zero _)
theorem h_0_I : t_I h_0 := by
  refine ⟨h_0_hr, h_0_JA, fun k hk => ?_⟩
  simp only [t_K, List.mem_cons, List.not_mem_nil, or_false] at hk
  rcases hk with rfl | rfl | rfl | rfl | rfl
  · exact ⟨0, 0, h_f17153, h_f17152, Int.le_refl _⟩
  · exact ⟨0, 0, h_f17154, h_f17152, Int.le_refl _⟩
  · exact ⟨0, 0, h_f17155, h_f17152, Int.le_refl _⟩
  · exact ⟨0, 0, h_f17156, h_f17152, Int.le_refl _⟩
  · exact ⟨0, 0, h_f17157, h_f17152, Int.le_refl _⟩
set_option maxRecDepth 100000 in
theorem h_n16 : w_f h_0 16 = some (.int 0) := by decide +kernel
set_option maxRecDepth 100000 in
theorem h_n128 : w_f h_0 128 = some (.int 0) := by decide +kernel
set_option maxRecDepth 100000 in
theorem h_n1537 : w_f h_0 1537 = some (.int 0) := by decide +kernel
set_option maxRecDepth 100000 in
theorem h_n17152 : w_f h_0 17152 = some (.int 0) := by decide +kernel
set_option maxRecDepth 100000 in
theorem h_n17408 : w_f h_0 17408 = some (.int 0) := by decide +kernel
set_option maxRecDepth 100000 in
theorem h_n17920 : w_f h_0 17920 = some (.int 0) := by decide +kernel
set_option maxRecDepth 100000 in
theorem h_n18432 : w_f h_0 18432 = some (.int 0) := by decide +kernel
set_option maxRecDepth 100000 in
theorem h_n19625 : w_f h_0 19625 = some (.int 0) := by decide +kernel
set_option maxRecDepth 100000 in
theorem h_n19591 : w_f h_0 19591 = some (.int 0) := by decide +kernel
set_option maxRecDepth 100000 in
theorem h_n19612 : w_f h_0 19612 = some (.int 0) := by decide +kernel
set_option maxRecDepth 100000 in
theorem h_n19643 : w_f h_0 19643 = some (.int 0) := by decide +kernel
set_option maxRecDepth 100000 in
theorem h_n129 : w_f h_0 129 = some (.int 1) := by decide +kernel
set_option maxRecDepth 100000 in
theorem h_n19600 : w_f h_0 19600 = some (.long 1) := by decide +kernel
set_option maxRecDepth 100000 in
theorem h_a188 : w_a h_0 188 = some (2, .inl [0, 0, 0]) := h_eqA_ok (by decide +kernel)
theorem h_0_n : n_I h_0 := by
  refine ⟨h_0_I, fun k => if k = 129 then 1 else 0, ⟨fun k hk => ?_, trivial⟩, fun p hp => ?_, h_a188, h_n19600⟩
  · simp only [nC, List.mem_cons, List.not_mem_nil, or_false] at hk
    rcases hk with rfl | rfl | rfl | rfl | rfl | rfl | rfl | rfl
    · exact h_n16
    · exact h_n128
    · exact h_n129
    · exact h_n1537
    · exact h_n17152
    · exact h_n17408
    · exact h_n17920
    · exact h_n18432
  · simp only [nM, List.mem_cons, List.not_mem_nil, or_false] at hp
    rcases hp with rfl | rfl | rfl | rfl
    · exact h_n19625
    · exact h_n19591
    · exact h_n19612
    · exact h_n19643
/-- the law on paper: it answers 1 -/
theorem l_law {xs : Nat → Int32} (L : Nat) (hL : L ≤ 3072) : aOK s_P (some (L, xs)) 202 a_mL 0 s_ls0 [] [] 0 0 (l_fin 708 9685) := by
  refine a_go_ok (d := 201) ?_ 13 0 s_ls0 [] [] 0 0 (s_go1 s_E0 s_F0')
  exact l_loop hL 512 0 0 rfl (Nat.zero_le _) (by omega) none none none h_0 196 6613 h_0_n (by decide) (by decide)
