section PT30a
/-! ===== v3: the reference's simple calls ===== -/
theorem y_tsw_d {X : aX} {C S d : Nat} {K0 : Option Value → aH → Nat → Nat → Prop} {h : aH} {M : aM} {pc len t : Nat} {dd lo hi : Int} {offs : Array Int} {k : aK} {ls : aL} {x : Int32} (hl : M.2.2.2.2.2.lookup pc = some (.tableswitch dd lo hi offs, len, k)) (hx : x.toInt < lo ∨ hi < x.toInt) (ht : a_tgt pc dd = some t) (hk : aOK s_P X d M t ls [] h C S K0) : aOK s_P X d M pc ls [.int x] h C S K0 := by
  refine aOK_op0 (pc' := t) (ls' := ls) (st' := []) hl ?_ hk
  have e : a_br (.tableswitch dd lo hi offs) k pc [.int x] = some (t, []) := by
    unfold a_br
    dsimp only
    rw [if_pos hx, ht]
    rfl
  show (match a_br (.tableswitch dd lo hi offs) k pc [.int x] with
    | some (pc', st') => some (pc', ls, st', h, 0, 0)
    | none => _) = _
  rw [e]
theorem y_tsw_i {X : aX} {C S d : Nat} {K0 : Option Value → aH → Nat → Nat → Prop} {h : aH} {M : aM} {pc len t : Nat} {dd lo hi o : Int} {offs : Array Int} {k : aK} {ls : aL} {x : Int32} (hl : M.2.2.2.2.2.lookup pc = some (.tableswitch dd lo hi offs, len, k)) (hx : ¬ (x.toInt < lo ∨ hi < x.toInt)) (ho : offs[(x.toInt - lo).toNat]? = some o) (ht : a_tgt pc o = some t) (hk : aOK s_P X d M t ls [] h C S K0) : aOK s_P X d M pc ls [.int x] h C S K0 := by
  refine aOK_op0 (pc' := t) (ls' := ls) (st' := []) hl ?_ hk
  have e : a_br (.tableswitch dd lo hi offs) k pc [.int x] = some (t, []) := by
    unfold a_br
    dsimp only
    rw [if_neg hx, ho]
    dsimp only
    rw [ht]
    rfl
  show (match a_br (.tableswitch dd lo hi offs) k pc [.int x] with
    | some (pc', st') => some (pc', ls, st', h, 0, 0)
    | none => _) = _
  rw [e]
section WG
variable {X : aX} {C S d : Nat} {K0 : Option Value → aH → Nat → Nat → Prop}
theorem p_force {h : aH} (hr : w_hr z_D h) (hJ : y_J h) {a b : Int32} (hk : ∀ (r : Int32) (H : aH), y_fr h H [19584] [159] → 0 ≤ r.toInt → r.toInt ≤ 1 → K0 (some (.int r)) H C S) : aOK s_P X (d + 2) a_m180 0 [some (.ref 155), some (.int a), some (.int b)] [] h C S K0 := by
  obtain ⟨nd, sm, so, sa, s1, s2, s3, s4, s5⟩ := id hJ.2.2.2.2.1
  obtain ⟨b1, b2⟩ := y_ndb hr s1
  have T22 : ∀ {G : aH} {v : Nat}, y_fr h G [19584] [159] → a.toInt = v → v < 10 → -1 ≤ b.toInt → b.toInt ≤ 1 → aOK s_P X (d + 2) a_m180 22 [some (.ref 155), some (.int a), some (.int b)] [.int (y_01 true)] G C S K0 := by
    intro G v e hv v10 c1 c2
    refine w_go z_hl [] [] 30 e.1 ?_
    refine ⟨fun _ => ⟨⟨by omega, by omega⟩, ⟨by omega, by omega⟩, fun l hl len bb => ⟨by decide, fun H hH => hk _ H (y_st e hH (by repeat (first | exact w_nil | refine w_cons (Or.inl (y_m rfl)) ?_ | refine w_cons (Or.inr (by assumption)) ?_)) (by repeat (first | exact w_nil | refine w_cons (Or.inl (y_m rfl)) ?_ | refine w_cons (Or.inr (by assumption)) ?_))) (by decide) (by decide)⟩⟩, fun q => absurd q (by decide)⟩
  have T22n : ∀ {G : aH}, y_fr h G [19584] [159] → aOK s_P X (d + 2) a_m180 22 [some (.ref 155), some (.int a), some (.int b)] [.int (y_01 false)] G C S K0 := by
    intro G e
    refine w_go z_hl [] [] 30 e.1 ?_
    exact ⟨fun q => absurd q (by decide), fun _ => ⟨by decide, fun H hH => hk _ H (y_st e hH (by repeat (first | exact w_nil | refine w_cons (Or.inl (y_m rfl)) ?_ | refine w_cons (Or.inr (by assumption)) ?_)) (by repeat (first | exact w_nil | refine w_cons (Or.inl (y_m rfl)) ?_ | refine w_cons (Or.inr (by assumption)) ?_))) (by decide) (by decide)⟩⟩
  have T10 : ∀ {G : aH} {v : Nat}, y_fr h G [19584] [159] → a.toInt = v → v < 10 → aOK s_P X (d + 2) a_m180 10 [some (.ref 155), some (.int a), some (.int b)] [.int (y_01 true)] G C S K0 := by
    intro G v e hv v10
    refine w_go z_hl [] [176] 30 e.1 ?_
    refine ⟨fun q => absurd q (by decide), fun _ => fun H hH => ?_⟩
    have e2 := y_st e hH (by repeat (first | exact w_nil | refine w_cons (Or.inl (y_m rfl)) ?_ | refine w_cons (Or.inr (by assumption)) ?_)) (by repeat (first | exact w_nil | refine w_cons (Or.inl (y_m rfl)) ?_ | refine w_cons (Or.inr (by assumption)) ?_))
    refine q_in (v := b.toInt64) (lo := Int64.ofInt (-1)) (hi := Int64.ofNat 1) e2.1 (fun H3 h3 l1 l2 => ⟨fun n e => (by cases e), ?_⟩) (fun H3 h3 _ => ⟨fun n e => (by cases e), ?_⟩)
    · rw [y_i2l] at l1 l2
      exact T22 (y_sq e2 h3 rfl rfl) hv v10 l1 l2
    · exact T22n (y_sq e2 h3 rfl rfl)
  have T10n : ∀ {G : aH}, y_fr h G [19584] [159] → aOK s_P X (d + 2) a_m180 10 [some (.ref 155), some (.int a), some (.int b)] [.int (y_01 false)] G C S K0 := by
    intro G e
    refine w_go z_hl [] [] 30 e.1 ?_
    exact ⟨fun _ => ⟨by decide, fun H hH => hk _ H (y_st e hH (by repeat (first | exact w_nil | refine w_cons (Or.inl (y_m rfl)) ?_ | refine w_cons (Or.inr (by assumption)) ?_)) (by repeat (first | exact w_nil | refine w_cons (Or.inl (y_m rfl)) ?_ | refine w_cons (Or.inr (by assumption)) ?_))) (by decide) (by decide)⟩, fun q => absurd q (by decide)⟩
  refine w_go z_hl [] [178] 30 hr ?_
  refine ⟨rfl, y_zini (by decide) (by decide), fun H1 h1 => ?_⟩
  have e1 : y_fr h H1 [19584] [159] := y_st (y_mo (y_rf hr) rfl rfl) h1 (by repeat (first | exact w_nil | refine w_cons (Or.inl (y_m rfl)) ?_ | refine w_cons (Or.inr (by assumption)) ?_)) (by repeat (first | exact w_nil | refine w_cons (Or.inl (y_m rfl)) ?_ | refine w_cons (Or.inr (by assumption)) ?_))
  refine q_isNode (v := a) e1.1 ((y_fe e1 rfl).trans s1) (fun H2 v h2 hv hv2 _ => ⟨fun n e => (by cases e), ?_⟩) (fun H2 h2 => ⟨fun n e => (by cases e), ?_⟩)
  · exact T10 (y_sq e1 h2 rfl rfl) hv (by omega)
  · exact T10n (y_sq e1 h2 rfl rfl)
theorem p_cost {h : aH} (hr : w_hr z_D h) (hJ : y_J h) (hC : j_cost h) {a b : Int32} (hk : ∀ (r : Int32) (H : aH), y_fr h H [19584] [161] → j_cost H → K0 (some (.int r)) H C S) : aOK s_P X (d + 2) a_m206 0 [some (.ref 155), some (.int a), some (.int b), none] [] h C S K0 := by
  obtain ⟨nd, sm, so, sa, s1, s2, s3, s4, s5⟩ := id hJ.2.2.2.2.1
  obtain ⟨b1, b2⟩ := y_ndb hr s1
  have out : ∀ {G : aH} {r : Int32}, y_fr h G [19584] [] → K0 (some (.int r)) G C S := fun g => hk _ _ (y_mo g rfl rfl) (j_cost_e g rfl rfl hC)
  have T22 : ∀ {G : aH} {v : Nat}, y_fr h G [19584] [] → a.toInt = v → v < 10 → 1 ≤ b.toInt → b.toInt ≤ 99 → aOK s_P X (d + 2) a_m206 22 [some (.ref 155), some (.int a), some (.int b), none] [.int (y_01 true)] G C S K0 := by
    intro G v e hv v10 c1 c2
    refine w_go z_hl [] [] 30 e.1 ?_
    refine ⟨fun _ => ⟨⟨by omega, by omega⟩, fun l hl len bb => ⟨⟨by omega, by omega⟩, ⟨by omega, by omega⟩, fun H hH => ?_⟩⟩, fun q => absurd q (by decide)⟩
    have e2 : y_fr h H [19584] [161] := y_st (y_mo e rfl rfl) hH (by repeat (first | exact w_nil | refine w_cons (Or.inl (y_m rfl)) ?_ | refine w_cons (Or.inr (by assumption)) ?_)) (by repeat (first | exact w_nil | refine w_cons (Or.inl (y_m rfl)) ?_ | refine w_cons (Or.inr (by assumption)) ?_))
    obtain ⟨ndc, co', knc, kcc, x1, x2, x3, x4, x5, x6⟩ := id hC
    obtain rfl := y_ai ((y_ae e rfl).trans x2) hl
    refine hk _ H e2 ⟨ndc, _, knc, kcc, (y_fe e2 rfl).trans x1, hH.2.2.1 161 _ rfl, (y_ae e2 rfl).trans x3, (y_ae e2 rfl).trans x4, fun u hu => ?_, x6⟩
    rw [y_cl1 hv, y_Nset (by omega)]
    split
    · exact c1
    · exact x5 u hu
  have T22n : ∀ {G : aH}, y_fr h G [19584] [] → aOK s_P X (d + 2) a_m206 22 [some (.ref 155), some (.int a), some (.int b), none] [.int (y_01 false)] G C S K0 := by
    intro G e
    refine w_go z_hl [] [] 30 e.1 ?_
    exact ⟨fun q => absurd q (by decide), fun _ => fun H hH => out (y_st e hH (by repeat (first | exact w_nil | refine w_cons (Or.inl (y_m rfl)) ?_ | refine w_cons (Or.inr (by assumption)) ?_)) (by repeat (first | exact w_nil | refine w_cons (Or.inl (y_m rfl)) ?_ | refine w_cons (Or.inr (by assumption)) ?_)))⟩
  have T10 : ∀ {G : aH} {v : Nat}, y_fr h G [19584] [] → a.toInt = v → v < 10 → aOK s_P X (d + 2) a_m206 10 [some (.ref 155), some (.int a), some (.int b), none] [.int (y_01 true)] G C S K0 := by
    intro G v e hv v10
    refine w_go z_hl [] [176] 30 e.1 ?_
    refine ⟨fun q => absurd q (by decide), fun _ => fun H hH => ?_⟩
    have e2 := y_st e hH (by repeat (first | exact w_nil | refine w_cons (Or.inl (y_m rfl)) ?_ | refine w_cons (Or.inr (by assumption)) ?_)) (by repeat (first | exact w_nil | refine w_cons (Or.inl (y_m rfl)) ?_ | refine w_cons (Or.inr (by assumption)) ?_))
    refine q_in (v := b.toInt64) (lo := Int64.ofNat 1) (hi := Int64.ofInt 99) e2.1 (fun H3 h3 l1 l2 => ⟨fun n e => (by cases e), ?_⟩) (fun H3 h3 _ => ⟨fun n e => (by cases e), ?_⟩)
    · rw [y_i2l] at l1 l2
      rw [y_i64 (by decide) (by decide)] at l2
      exact T22 (y_sq e2 h3 rfl rfl) hv v10 l1 l2
    · exact T22n (y_sq e2 h3 rfl rfl)
  have T10n : ∀ {G : aH}, y_fr h G [19584] [] → aOK s_P X (d + 2) a_m206 10 [some (.ref 155), some (.int a), some (.int b), none] [.int (y_01 false)] G C S K0 := by
    intro G e
    refine w_go z_hl [] [] 30 e.1 ?_
    exact ⟨fun _ => fun H hH => out (y_st e hH (by repeat (first | exact w_nil | refine w_cons (Or.inl (y_m rfl)) ?_ | refine w_cons (Or.inr (by assumption)) ?_)) (by repeat (first | exact w_nil | refine w_cons (Or.inl (y_m rfl)) ?_ | refine w_cons (Or.inr (by assumption)) ?_))), fun q => absurd q (by decide)⟩
  refine w_go z_hl [] [178] 30 hr ?_
  refine ⟨rfl, y_zini (by decide) (by decide), fun H1 h1 => ?_⟩
  have e1 : y_fr h H1 [19584] [] := y_st (y_mo (y_rf hr) rfl rfl) h1 (by repeat (first | exact w_nil | refine w_cons (Or.inl (y_m rfl)) ?_ | refine w_cons (Or.inr (by assumption)) ?_)) (by repeat (first | exact w_nil | refine w_cons (Or.inl (y_m rfl)) ?_ | refine w_cons (Or.inr (by assumption)) ?_))
  refine q_isNode (v := a) e1.1 ((y_fe e1 rfl).trans s1) (fun H2 v h2 hv hv2 _ => ⟨fun n e => (by cases e), ?_⟩) (fun H2 h2 => ⟨fun n e => (by cases e), ?_⟩)
  · exact T10 (y_sq e1 h2 rfl rfl) hv (by omega)
  · exact T10n (y_sq e1 h2 rfl rfl)
theorem y_sign_loop {a tI : Int32} (t0 : 0 ≤ tI.toInt) (t56 : tI.toInt ≤ 56) : ∀ (m : Nat) (h : aH) (kI : Int32) (k : Nat), w_hr z_D h → w_f h 19612 = some (.int tI) → kI.toInt = k → k + m = 4 → (∀ (r : Int32) (H : aH), y_fr h H [19612] [171] → K0 (some (.int r)) H C S) → aOK s_P X d a_m219 18 [some (.ref 155), some (.int a), some (.int kI)] [] h C S K0 := by
  intro m
  induction m with
  | zero =>
    intro h kI k hr g hk hm hK
    have inc : (tI + Int32.ofInt 4).toInt = tI.toInt + 4 := by
      rw [Int32.toInt_add, show (Int32.ofInt 4).toInt = 4 by decide]
      exact Int.bmod_eq_of_le (by omega) (by omega)
    refine w_go z_hl [18] [] 40 hr ?_
    refine ⟨fun _ => ?_, fun q => ?_⟩
    · intro x hx _ _
      obtain rfl := y_fi g hx
      exact ⟨rfl, y_zini (by show 0 ≤ (tI + Int32.ofInt 4).toInt; omega) (by show (tI + Int32.ofInt 4).toInt ≤ 60; omega), fun H hH => hK _ H (y_st (y_mo (y_rf hr) rfl rfl) hH (by repeat (first | exact w_nil | refine w_cons (Or.inl (y_m rfl)) ?_ | refine w_cons (Or.inr (by assumption)) ?_)) (by repeat (first | exact w_nil | refine w_cons (Or.inl (y_m rfl)) ?_ | refine w_cons (Or.inr (by assumption)) ?_)))⟩
    · have : ¬ ((Int32.ofInt 4).toInt ≤ kI.toInt) := y_cif q
      rw [show (Int32.ofInt 4).toInt = 4 by decide] at this
      omega
  | succ m ih =>
    intro h kI k hr g hk hm hK
    have ink : (kI + Int32.ofInt 1).toInt = ((k + 1 : Nat) : Int) := by rw [y_inc (by omega), hk]; rfl
    have tk : (tI + kI).toInt = tI.toInt + k := by
      rw [Int32.toInt_add, hk]
      exact Int.bmod_eq_of_le (by omega) (by omega)
    have bx : 0 ≤ (tI + kI).toInt ∧ (tI + kI).toInt < ((60 : Nat) : Int) := by omega
    have b255 : ∀ x : Int32, 0 ≤ (x &&& (Int16.ofInt 255).toInt32).toInt ∧ (x &&& (Int16.ofInt 255).toInt32).toInt ≤ 255 := fun x => by
      have := z_t_and (x := x) (y := (Int16.ofInt 255).toInt32) (by decide)
      rw [show ((Int16.ofInt 255).toInt32).toInt = 255 by decide] at this
      exact this
    refine w_go z_hl [18] [] 40 hr ?_
    refine ⟨fun q => ?_, fun _ => ?_⟩
    · have : (Int32.ofInt 4).toInt ≤ kI.toInt := (y_ci .ge _ _).mp q
      rw [show (Int32.ofInt 4).toInt = 4 by decide] at this
      omega
    · intro x hx _ _
      obtain rfl := y_fi g hx
      refine ⟨bx, b255 _, fun l hl len bb => fun H hH => ?_⟩
      have e : y_fr h H [] [171] := y_st (y_mo (y_rf hr) rfl rfl) hH (by repeat (first | exact w_nil | refine w_cons (Or.inl (y_m rfl)) ?_ | refine w_cons (Or.inr (by assumption)) ?_)) (by repeat (first | exact w_nil | refine w_cons (Or.inl (y_m rfl)) ?_ | refine w_cons (Or.inr (by assumption)) ?_))
      exact ih H _ (k + 1) e.1 ((y_fe e rfl).trans g) ink (by omega) (fun r H' f => hK r H' (y_sq (y_mo e rfl rfl) f rfl rfl))
theorem p_sign {h : aH} (hr : w_hr z_D h) {a : Int32} (hk : ∀ (r : Int32) (H : aH), y_fr h H [19584, 19612] [171] → K0 (some (.int r)) H C S) : aOK s_P X d a_m219 0 [some (.ref 155), some (.int a), none] [] h C S K0 := by
  refine w_go z_hl [18] [] 40 hr ?_
  refine ⟨rfl, y_zini (by decide) (by decide), ?_⟩
  intro x hx x0 x60
  refine ⟨fun q => fun H hH => ?_, fun _ => fun H hH => hk _ H (y_st (y_mo (y_rf hr) rfl rfl) hH (by repeat (first | exact w_nil | refine w_cons (Or.inl (y_m rfl)) ?_ | refine w_cons (Or.inr (by assumption)) ?_)) (by repeat (first | exact w_nil | refine w_cons (Or.inl (y_m rfl)) ?_ | refine w_cons (Or.inr (by assumption)) ?_)))⟩
  have q2 : x.toInt ≤ ((Int8.ofInt 56).toInt32).toInt := (y_ci .le _ _).mp q
  rw [show ((Int8.ofInt 56).toInt32).toInt = 56 by decide] at q2
  have e : y_fr h H [19584, 19612] [171] := y_st (y_mo (y_rf hr) rfl rfl) hH (by repeat (first | exact w_nil | refine w_cons (Or.inl (y_m rfl)) ?_ | refine w_cons (Or.inr (by assumption)) ?_)) (by repeat (first | exact w_nil | refine w_cons (Or.inl (y_m rfl)) ?_ | refine w_cons (Or.inr (by assumption)) ?_))
  have e0 : y_fr h H [19584] [] := y_st (y_mo (y_rf hr) rfl rfl) hH (by repeat (first | exact w_nil | refine w_cons (Or.inl (y_m rfl)) ?_ | refine w_cons (Or.inr (by assumption)) ?_)) (by repeat (first | exact w_nil | refine w_cons (Or.inl (y_m rfl)) ?_ | refine w_cons (Or.inr (by assumption)) ?_))
  exact y_sign_loop x0 q2 4 H _ 0 e.1 ((y_fe e0 rfl).trans hx) rfl rfl (fun r H' f => hk r H' (y_sq e f rfl rfl))
theorem p_end {h : aH} (hr : w_hr z_D h) {a : Int32} (hk : ∀ (r : Int32) (H : aH), y_fr h H [19584, 19612] [] → 0 ≤ r.toInt → r.toInt ≤ 1 → K0 (some (.int r)) H C S) : aOK s_P X (d + 1) a_m220 0 [some (.ref 155), some (.int a)] [] h C S K0 := by
  have T16 : ∀ {G : aH}, y_fr h G [19584, 19612] [] → 0 ≤ a.toInt → a.toInt ≤ 60 → aOK s_P X (d + 1) a_m220 16 [some (.ref 155), some (.int a)] [.int (y_01 true)] G C S K0 := by
    intro G e a0 a6
    refine w_go z_hl [] [] 30 e.1 ?_
    exact ⟨fun _ => ⟨rfl, y_zini a0 a6, by decide, fun H hH => hk _ H (y_st e hH (by repeat (first | exact w_nil | refine w_cons (Or.inl (y_m rfl)) ?_ | refine w_cons (Or.inr (by assumption)) ?_)) (by repeat (first | exact w_nil | refine w_cons (Or.inl (y_m rfl)) ?_ | refine w_cons (Or.inr (by assumption)) ?_))) (by decide) (by decide)⟩, fun q => absurd q (by decide)⟩
  have T16n : ∀ {G : aH}, y_fr h G [19584, 19612] [] → aOK s_P X (d + 1) a_m220 16 [some (.ref 155), some (.int a)] [.int (y_01 false)] G C S K0 := by
    intro G e
    refine w_go z_hl [] [] 30 e.1 ?_
    exact ⟨fun q => absurd q (by decide), fun _ => ⟨by decide, fun H hH => hk _ H (y_st e hH (by repeat (first | exact w_nil | refine w_cons (Or.inl (y_m rfl)) ?_ | refine w_cons (Or.inr (by assumption)) ?_)) (by repeat (first | exact w_nil | refine w_cons (Or.inl (y_m rfl)) ?_ | refine w_cons (Or.inr (by assumption)) ?_))) (by decide) (by decide)⟩⟩
  refine w_go z_hl [] [176] 30 hr ?_
  refine ⟨rfl, y_zini (by decide) (by decide), ?_⟩
  intro x hx x0 x60
  intro H hH
  have e : y_fr h H [19584, 19612] [] := y_st (y_mo (y_rf hr) rfl rfl) hH (by repeat (first | exact w_nil | refine w_cons (Or.inl (y_m rfl)) ?_ | refine w_cons (Or.inr (by assumption)) ?_)) (by repeat (first | exact w_nil | refine w_cons (Or.inl (y_m rfl)) ?_ | refine w_cons (Or.inr (by assumption)) ?_))
  refine q_in (v := a.toInt64) (lo := Int64.ofNat 0) (hi := x.toInt64) e.1 (fun H3 h3 l1 l2 => ⟨fun n e => (by cases e), ?_⟩) (fun H3 h3 _ => ⟨fun n e => (by cases e), ?_⟩)
  · rw [y_i2l] at l1
    rw [y_i2l, y_i2l] at l2
    have x60' : x.toInt ≤ 60 := x60
    exact T16 (y_sq e h3 rfl rfl) l1 (by omega)
  · exact T16n (y_sq e h3 rfl rfl)
theorem p_row {h : aH} (hr : w_hr z_D h) {a : Int32} (hk : ∀ (r : Int64) (H : aH), y_fr h H [19584] [] → K0 (some (.long r)) H C S) : aOK s_P X (d + 1) a_m287 0 [some (.ref 155), some (.int a)] [] h C S K0 := by
  have T18 : ∀ {G : aH}, y_fr h G [19584] [] → 0 ≤ a.toInt → a.toInt ≤ 7 → aOK s_P X (d + 1) a_m287 18 [some (.ref 155), some (.int a)] [.int (y_01 true)] G C S K0 := by
    intro G e a0 a6
    refine w_go z_hl [] [] 30 e.1 ?_
    exact ⟨fun _ => ⟨⟨by omega, by omega⟩, fun l hl len bb => fun H hH => hk _ H (y_st e hH (by repeat (first | exact w_nil | refine w_cons (Or.inl (y_m rfl)) ?_ | refine w_cons (Or.inr (by assumption)) ?_)) (by repeat (first | exact w_nil | refine w_cons (Or.inl (y_m rfl)) ?_ | refine w_cons (Or.inr (by assumption)) ?_)))⟩, fun q => absurd q (by decide)⟩
  have T18n : ∀ {G : aH}, y_fr h G [19584] [] → aOK s_P X (d + 1) a_m287 18 [some (.ref 155), some (.int a)] [.int (y_01 false)] G C S K0 := by
    intro G e
    refine w_go z_hl [] [] 30 e.1 ?_
    exact ⟨fun q => absurd q (by decide), fun _ => ⟨rfl, y_zini (by decide) (by decide), fun H hH => hk _ H (y_st e hH (by repeat (first | exact w_nil | refine w_cons (Or.inl (y_m rfl)) ?_ | refine w_cons (Or.inr (by assumption)) ?_)) (by repeat (first | exact w_nil | refine w_cons (Or.inl (y_m rfl)) ?_ | refine w_cons (Or.inr (by assumption)) ?_)))⟩⟩
  refine w_go z_hl [] [176] 30 hr ?_
  refine ⟨rfl, y_zini (by decide) (by decide), ?_⟩
  intro x hx x0 x8
  intro H hH
  have e : y_fr h H [19584] [] := y_st (y_mo (y_rf hr) rfl rfl) hH (by repeat (first | exact w_nil | refine w_cons (Or.inl (y_m rfl)) ?_ | refine w_cons (Or.inr (by assumption)) ?_)) (by repeat (first | exact w_nil | refine w_cons (Or.inl (y_m rfl)) ?_ | refine w_cons (Or.inr (by assumption)) ?_))
  have x0' : 0 ≤ x.toInt := x0
  have x8' : x.toInt ≤ 8 := x8
  refine q_in (v := a.toInt64) (lo := Int64.ofNat 0) (hi := (x - Int32.ofInt 1).toInt64) e.1 (fun H3 h3 l1 l2 => ⟨fun n e => (by cases e), ?_⟩) (fun H3 h3 _ => ⟨fun n e => (by cases e), ?_⟩)
  · rw [y_i2l] at l1
    rw [y_i2l, y_i2l, y_sub1 x0'] at l2
    exact T18 (y_sq e h3 rfl rfl) l1 (by omega)
  · exact T18n (y_sq e h3 rfl rfl)
theorem p_day {h : aH} (hr : w_hr z_D h) {a b c : Int32} (a0 : 0 ≤ a.toInt) (a1 : a.toInt ≤ 1) (b0 : 0 ≤ b.toInt) (b1 : b.toInt ≤ 1) (c0 : 0 ≤ c.toInt) (c1 : c.toInt ≤ 1) (hk : ∀ (r : Int32) (H : aH), y_fr h H [19584, 19643] [184, 185, 186] → K0 (some (.int r)) H C S) : aOK s_P X d a_m273 0 [some (.ref 155), some (.int a), some (.int b), some (.int c)] [] h C S K0 := by
  have e0 : y_fr h h [19584, 19643] [184, 185, 186] := y_mo (y_rf hr) rfl rfl
  have T24 : ∀ {G : aH} {x : Int32}, y_fr h G [19584, 19643] [184, 185, 186] → w_f G 19643 = some (.int x) → 0 ≤ x.toInt → x.toInt ≤ 29 → aOK s_P X d a_m273 24 [some (.ref 155), some (.int a), some (.int b), some (.int c)] [] G C S K0 := by
    intro G x e g x0 x29
    have inc : (x + Int32.ofInt 1).toInt = x.toInt + 1 := y_inc (by omega)
    refine w_go z_hl [] [] 60 e.1 ?_
    intro y hy _ _
    obtain rfl := y_fi g hy
    refine ⟨⟨by omega, by omega⟩, ⟨a0, a1, a0, a1⟩, fun l1 _ _ _ => ⟨⟨by omega, by omega⟩, ⟨b0, b1, b0, b1⟩, fun l2 _ _ _ => ⟨⟨by omega, by omega⟩, ⟨c0, c1, c0, c1⟩, fun l3 _ _ _ => ?_⟩⟩⟩
    exact ⟨rfl, y_zini (by show 0 ≤ (x + Int32.ofInt 1).toInt; omega) (by show (x + Int32.ofInt 1).toInt ≤ 30; omega), fun H hH => hk _ H (y_st e hH (by repeat (first | exact w_nil | refine w_cons (Or.inl (y_m rfl)) ?_ | refine w_cons (Or.inr (by assumption)) ?_)) (by repeat (first | exact w_nil | refine w_cons (Or.inl (y_m rfl)) ?_ | refine w_cons (Or.inr (by assumption)) ?_)))⟩
  refine w_go z_hl [24] [] 40 hr ?_
  refine ⟨rfl, y_zini (by decide) (by decide), ?_⟩
  intro x hx x0 x30
  have x0' : 0 ≤ x.toInt := x0
  have x30' : x.toInt ≤ 30 := x30
  refine ⟨fun _ => fun H hH => hk _ H (y_st e0 hH (by repeat (first | exact w_nil | refine w_cons (Or.inl (y_m rfl)) ?_ | refine w_cons (Or.inr (by assumption)) ?_)) (by repeat (first | exact w_nil | refine w_cons (Or.inl (y_m rfl)) ?_ | refine w_cons (Or.inr (by assumption)) ?_))), fun q => ?_⟩
  have q2 : ¬ (x.toInt = ((Int8.ofInt 30).toInt32).toInt) := y_cif q
  rw [show ((Int8.ofInt 30).toInt32).toInt = 30 by decide] at q2
  have go : ∀ {H : aH}, w_rel z_D h [(19643, .int x), (19584, .int (Int32.ofInt 0))] [] H → aOK s_P X d a_m273 24 [some (.ref 155), some (.int a), some (.int b), some (.int c)] [] H C S K0 := fun hH => T24 (y_st e0 hH (by repeat (first | exact w_nil | refine w_cons (Or.inl (y_m rfl)) ?_ | refine w_cons (Or.inr (by assumption)) ?_)) (by repeat (first | exact w_nil | refine w_cons (Or.inl (y_m rfl)) ?_ | refine w_cons (Or.inr (by assumption)) ?_))) (hH.2.1 19643 _ rfl) x0' (by omega)
  exact ⟨fun _ => fun H hH => go hH, fun _ => ⟨fun _ => fun H hH => go hH, fun _ => fun H hH => hk _ H (y_st e0 hH (by repeat (first | exact w_nil | refine w_cons (Or.inl (y_m rfl)) ?_ | refine w_cons (Or.inr (by assumption)) ?_)) (by repeat (first | exact w_nil | refine w_cons (Or.inl (y_m rfl)) ?_ | refine w_cons (Or.inr (by assumption)) ?_)))⟩⟩
theorem p_head {h : aH} (hr : w_hr z_D h) {a b : Int32} (hk : ∀ (r : Int32) (H : aH), y_fr h H [19584, 19625] [177, 178] → K0 (some (.int r)) H C S) : aOK s_P X (d + 1) a_m255 0 [some (.ref 155), some (.int a), some (.int b)] [] h C S K0 := by
  have T40 : ∀ {G : aH} {x : Int32}, y_fr h G [19584, 19625] [177, 178] → w_f G 19625 = some (.int x) → 0 ≤ x.toInt → x.toInt ≤ 5 → 0 ≤ a.toInt → a.toInt ≤ 31 → 1 ≤ b.toInt → b.toInt ≤ 99 → aOK s_P X (d + 1) a_m255 40 [some (.ref 155), some (.int a), some (.int b)] [] G C S K0 := by
    intro G x e g x0 x5 a0 a1 b0 b1
    have inc : (x + Int32.ofInt 1).toInt = x.toInt + 1 := y_inc (by omega)
    refine w_go z_hl [] [] 60 e.1 ?_
    intro y hy _ _
    obtain rfl := y_fi g hy
    refine ⟨⟨by omega, by omega⟩, ⟨by omega, by omega⟩, fun l1 _ _ _ => ⟨⟨by omega, by omega⟩, ⟨by omega, by omega⟩, fun l2 _ _ _ => ?_⟩⟩
    exact ⟨rfl, y_zini (by show 0 ≤ (x + Int32.ofInt 1).toInt; omega) (by show (x + Int32.ofInt 1).toInt ≤ 6; omega), fun H hH => hk _ H (y_st e hH (by repeat (first | exact w_nil | refine w_cons (Or.inl (y_m rfl)) ?_ | refine w_cons (Or.inr (by assumption)) ?_)) (by repeat (first | exact w_nil | refine w_cons (Or.inl (y_m rfl)) ?_ | refine w_cons (Or.inr (by assumption)) ?_)))⟩
  have T26 : ∀ {G : aH}, y_fr h G [19584] [] → 0 ≤ a.toInt → a.toInt ≤ 31 → 1 ≤ b.toInt → b.toInt ≤ 99 → aOK s_P X (d + 1) a_m255 26 [some (.ref 155), some (.int a), some (.int b)] [.int (y_01 true)] G C S K0 := by
    intro G e a0 a1 b0 b1
    refine w_go z_hl [40] [] 40 e.1 ?_
    refine ⟨fun q => absurd q (by decide), fun _ => ?_⟩
    intro x hx x0 x6
    have x0' : 0 ≤ x.toInt := x0
    have x6' : x.toInt ≤ 6 := x6
    refine ⟨fun q => fun H hH => ?_, fun _ => fun H hH => hk _ H (y_st (y_mo e rfl rfl) hH (by repeat (first | exact w_nil | refine w_cons (Or.inl (y_m rfl)) ?_ | refine w_cons (Or.inr (by assumption)) ?_)) (by repeat (first | exact w_nil | refine w_cons (Or.inl (y_m rfl)) ?_ | refine w_cons (Or.inr (by assumption)) ?_)))⟩
    have q2 : x.toInt ≠ ((Int8.ofInt 6).toInt32).toInt := (y_ci .ne _ _).mp q
    rw [y_c6] at q2
    exact T40 (y_st (y_mo e rfl rfl) hH (by repeat (first | exact w_nil | refine w_cons (Or.inl (y_m rfl)) ?_ | refine w_cons (Or.inr (by assumption)) ?_)) (by repeat (first | exact w_nil | refine w_cons (Or.inl (y_m rfl)) ?_ | refine w_cons (Or.inr (by assumption)) ?_))) (hH.2.1 19625 _ rfl) x0' (by omega) a0 a1 b0 b1
  have T26n : ∀ {G : aH}, y_fr h G [19584] [] → aOK s_P X (d + 1) a_m255 26 [some (.ref 155), some (.int a), some (.int b)] [.int (y_01 false)] G C S K0 := by
    intro G e
    refine w_go z_hl [] [] 40 e.1 ?_
    exact ⟨fun _ => fun H hH => hk _ H (y_st (y_mo e rfl rfl) hH (by repeat (first | exact w_nil | refine w_cons (Or.inl (y_m rfl)) ?_ | refine w_cons (Or.inr (by assumption)) ?_)) (by repeat (first | exact w_nil | refine w_cons (Or.inl (y_m rfl)) ?_ | refine w_cons (Or.inr (by assumption)) ?_))), fun q => absurd q (by decide)⟩
  have T14 : ∀ {G : aH}, y_fr h G [19584] [] → 0 ≤ a.toInt → a.toInt ≤ 31 → aOK s_P X (d + 1) a_m255 14 [some (.ref 155), some (.int a), some (.int b)] [.int (y_01 true)] G C S K0 := by
    intro G e a0 a1
    refine w_go z_hl [] [176] 40 e.1 ?_
    refine ⟨fun q => absurd q (by decide), fun _ => fun H hH => ?_⟩
    have e2 := y_st e hH (by repeat (first | exact w_nil | refine w_cons (Or.inl (y_m rfl)) ?_ | refine w_cons (Or.inr (by assumption)) ?_)) (by repeat (first | exact w_nil | refine w_cons (Or.inl (y_m rfl)) ?_ | refine w_cons (Or.inr (by assumption)) ?_))
    refine q_in (v := b.toInt64) (lo := Int64.ofNat 1) (hi := Int64.ofInt 99) e2.1 (fun H3 h3 l1 l2 => ⟨fun n e => (by cases e), ?_⟩) (fun H3 h3 _ => ⟨fun n e => (by cases e), ?_⟩)
    · rw [y_i2l] at l1 l2
      rw [y_i64 (by decide) (by decide)] at l2
      exact T26 (y_sq e2 h3 rfl rfl) a0 a1 l1 l2
    · exact T26n (y_sq e2 h3 rfl rfl)
  have T14n : ∀ {G : aH}, y_fr h G [19584] [] → aOK s_P X (d + 1) a_m255 14 [some (.ref 155), some (.int a), some (.int b)] [.int (y_01 false)] G C S K0 := by
    intro G e
    refine w_go z_hl [] [] 40 e.1 ?_
    exact ⟨fun _ => fun H hH => hk _ H (y_st (y_mo e rfl rfl) hH (by repeat (first | exact w_nil | refine w_cons (Or.inl (y_m rfl)) ?_ | refine w_cons (Or.inr (by assumption)) ?_)) (by repeat (first | exact w_nil | refine w_cons (Or.inl (y_m rfl)) ?_ | refine w_cons (Or.inr (by assumption)) ?_))), fun q => absurd q (by decide)⟩
  refine w_go z_hl [] [176] 30 hr ?_
  refine ⟨rfl, y_zini (by decide) (by decide), fun H hH => ?_⟩
  have e : y_fr h H [19584] [] := y_st (y_mo (y_rf hr) rfl rfl) hH (by repeat (first | exact w_nil | refine w_cons (Or.inl (y_m rfl)) ?_ | refine w_cons (Or.inr (by assumption)) ?_)) (by repeat (first | exact w_nil | refine w_cons (Or.inl (y_m rfl)) ?_ | refine w_cons (Or.inr (by assumption)) ?_))
  refine q_in (v := a.toInt64) (lo := Int64.ofNat 0) (hi := Int64.ofInt 31) e.1 (fun H3 h3 l1 l2 => ⟨fun n e => (by cases e), ?_⟩) (fun H3 h3 _ => ⟨fun n e => (by cases e), ?_⟩)
  · rw [y_i2l] at l1 l2
    rw [y_i64 (by decide) (by decide)] at l2
    exact T14 (y_sq e h3 rfl rfl) l1 l2
  · exact T14n (y_sq e h3 rfl rfl)
end WG
end PT30a
section PT30b
/-! ===== v3: the reference's count, many, list, weight, odds, of ===== -/
/-- how many must be looked at -/
def y_mg (a b : Int32) : Nat → Int64 → Int32 → Int32
  | 0, _, _ => (Int8.ofInt (-2)).toInt32
  | n + 1, l, k => if l.toInt ≤ 500000000 then k else y_mg a b n (l * (b - a).toInt64 / b.toInt64) (k + Int32.ofInt 1)
section WG
variable {X : aX} {C S d : Nat} {K0 : Option Value → aH → Nat → Nat → Prop}
theorem y_isMark {h : aH} (hr : w_hr z_D h) {a b : Int32} (yes : ∀ H, y_fr h H [] [] → 1 ≤ a.toInt → a.toInt ≤ b.toInt → b.toInt ≤ 1000000 → K0 (some (.int (y_01 true))) H C S) (no : ∀ H, y_fr h H [] [] → (1 ≤ a.toInt → a.toInt ≤ b.toInt → b.toInt ≤ 1000000 → False) → K0 (some (.int (y_01 false))) H C S) : aOK s_P X (d + 1) a_m266 0 [some (.int a), some (.int b)] [] h C S K0 := by
  have T20 : ∀ {G : aH} {c : Bool}, y_fr h G [] [] → (c = true → 1 ≤ a.toInt ∧ a.toInt ≤ b.toInt ∧ b.toInt ≤ 1000000) → (c = false → 1 ≤ a.toInt → a.toInt ≤ b.toInt → b.toInt ≤ 1000000 → False) → aOK s_P X (d + 1) a_m266 20 [some (.int a), some (.int b)] [.int (y_01 c)] G C S K0 := by
    intro G c e hc hn
    refine w_go z_hl [] [] 30 e.1 ?_
    refine ⟨fun q => ⟨by decide, fun H hH => ?_⟩, fun q => ⟨by decide, fun H hH => ?_⟩⟩
    · cases c with
      | false => exact no H (y_st e hH (by repeat (first | exact w_nil | refine w_cons (Or.inl (y_m rfl)) ?_ | refine w_cons (Or.inr (by assumption)) ?_)) (by repeat (first | exact w_nil | refine w_cons (Or.inl (y_m rfl)) ?_ | refine w_cons (Or.inr (by assumption)) ?_))) (hn rfl)
      | true => exact absurd q (by decide)
    · cases c with
      | true =>
        have := hc rfl
        exact yes H (y_st e hH (by repeat (first | exact w_nil | refine w_cons (Or.inl (y_m rfl)) ?_ | refine w_cons (Or.inr (by assumption)) ?_)) (by repeat (first | exact w_nil | refine w_cons (Or.inl (y_m rfl)) ?_ | refine w_cons (Or.inr (by assumption)) ?_))) this.1 this.2.1 this.2.2
      | false => exact absurd q (by decide)
  have T8 : ∀ {G : aH}, y_fr h G [] [] → 1 ≤ a.toInt → a.toInt ≤ b.toInt → aOK s_P X (d + 1) a_m266 8 [some (.int a), some (.int b)] [.int (y_01 true)] G C S K0 := by
    intro G e a1 ab
    refine w_go z_hl [] [176] 30 e.1 ?_
    refine ⟨fun q => absurd q (by decide), fun _ => fun H hH => ?_⟩
    have e2 := y_st e hH (by repeat (first | exact w_nil | refine w_cons (Or.inl (y_m rfl)) ?_ | refine w_cons (Or.inr (by assumption)) ?_)) (by repeat (first | exact w_nil | refine w_cons (Or.inl (y_m rfl)) ?_ | refine w_cons (Or.inr (by assumption)) ?_))
    refine q_in (v := b.toInt64) (lo := Int64.ofNat 1) (hi := Int64.ofInt 1000000) e2.1 (fun H3 h3 l1 l2 => ⟨fun n e => (by cases e), ?_⟩) (fun H3 h3 l => ⟨fun n e => (by cases e), ?_⟩)
    · rw [y_i2l, y_i64 (by decide) (by decide)] at l2
      exact T20 (c := true) (y_sq e2 h3 rfl rfl) (fun _ => ⟨a1, ab, l2⟩) (fun q => by cases q)
    · rw [y_i2l, y_i64 (by decide) (by decide)] at l
      exact T20 (c := false) (y_sq e2 h3 rfl rfl) (fun q => by cases q) (fun _ _ _ q => l (by show (1 : Int) ≤ _; omega) q)
  have T8n : ∀ {G : aH}, y_fr h G [] [] → (1 ≤ a.toInt → a.toInt ≤ b.toInt → False) → aOK s_P X (d + 1) a_m266 8 [some (.int a), some (.int b)] [.int (y_01 false)] G C S K0 := by
    intro G e hn
    refine w_go z_hl [] [] 30 e.1 ?_
    exact ⟨fun _ => ⟨by decide, fun H hH => no H (y_st e hH (by repeat (first | exact w_nil | refine w_cons (Or.inl (y_m rfl)) ?_ | refine w_cons (Or.inr (by assumption)) ?_)) (by repeat (first | exact w_nil | refine w_cons (Or.inl (y_m rfl)) ?_ | refine w_cons (Or.inr (by assumption)) ?_))) (fun q1 q2 _ => hn q1 q2)⟩, fun q => absurd q (by decide)⟩
  refine w_go z_hl [] [176] 30 hr ?_
  intro H hH
  have e : y_fr h H [] [] := y_st (y_rf hr) hH (by repeat (first | exact w_nil | refine w_cons (Or.inl (y_m rfl)) ?_ | refine w_cons (Or.inr (by assumption)) ?_)) (by repeat (first | exact w_nil | refine w_cons (Or.inl (y_m rfl)) ?_ | refine w_cons (Or.inr (by assumption)) ?_))
  refine q_in (v := a.toInt64) (lo := Int64.ofNat 1) (hi := b.toInt64) e.1 (fun H3 h3 l1 l2 => ⟨fun n e => (by cases e), ?_⟩) (fun H3 h3 l => ⟨fun n e => (by cases e), ?_⟩)
  · rw [y_i2l] at l1
    rw [y_i2l, y_i2l] at l2
    exact T8 (y_sq e h3 rfl rfl) l1 l2
  · rw [y_i2l, y_i2l] at l
    exact T8n (y_sq e h3 rfl rfl) (fun q1 q2 => l q1 q2)
theorem y_many_loop {a b : Int32} (b1 : 1 ≤ b.toInt) : ∀ (m : Nat) (h : aH) (l : Int64) (kI : Int32), w_hr z_D h → kI.toInt + m = 100001 → 0 ≤ kI.toInt → (∀ (H : aH), y_fr h H [] [] → K0 (some (.int (y_mg a b m l kI))) H C S) → aOK s_P X d a_m267 22 [some (.ref 155), some (.int a), some (.int b), some (.long l), none, some (.int kI)] [] h C S K0 := by
  intro m
  induction m with
  | zero =>
    intro h l kI hr hm k0 hK
    refine w_go z_hl [22] [] 30 hr ?_
    refine ⟨fun _ => fun H hH => hK H (y_st (y_rf hr) hH (by repeat (first | exact w_nil | refine w_cons (Or.inl (y_m rfl)) ?_ | refine w_cons (Or.inr (by assumption)) ?_)) (by repeat (first | exact w_nil | refine w_cons (Or.inl (y_m rfl)) ?_ | refine w_cons (Or.inr (by assumption)) ?_))), fun q => ?_⟩
    have q2 : ¬ ((Int32.ofInt 100000).toInt < kI.toInt) := y_cif q
    rw [show (Int32.ofInt 100000).toInt = 100000 by decide] at q2
    omega
  | succ m ih =>
    intro h l kI hr hm k0 hK
    have ink : (kI + Int32.ofInt 1).toInt = kI.toInt + 1 := y_inc (by omega)
    refine w_go z_hl [22] [] 30 hr ?_
    refine ⟨fun q => ?_, fun _ => ⟨fun q => ?_, fun q => fun H hH => ?_⟩⟩
    · have q2 : (Int32.ofInt 100000).toInt < kI.toInt := (y_ci .gt _ _).mp q
      rw [show (Int32.ofInt 100000).toInt = 100000 by decide] at q2
      omega
    · have q2 : (Int64.ofInt 500000000).toInt < l.toInt := (y_cl .gt _ _).mp q
      rw [y_i64 (by decide) (by decide)] at q2
      refine ⟨fun e => ?_, fun H hH => ?_⟩
      · have e2 : b.toInt64.toInt = 0 := by rw [e]; rfl
        rw [y_i2l] at e2
        omega
      · have e : y_fr h H [] [] := y_st (y_rf hr) hH (by repeat (first | exact w_nil | refine w_cons (Or.inl (y_m rfl)) ?_ | refine w_cons (Or.inr (by assumption)) ?_)) (by repeat (first | exact w_nil | refine w_cons (Or.inl (y_m rfl)) ?_ | refine w_cons (Or.inr (by assumption)) ?_))
        refine ih H _ _ e.1 (by omega) (by omega) (fun H' f => ?_)
        have := hK H' (y_sq e f rfl rfl)
        unfold y_mg at this
        rw [if_neg (by omega)] at this
        exact this
    · have q2 : ¬ ((Int64.ofInt 500000000).toInt < l.toInt) := y_clf q
      rw [y_i64 (by decide) (by decide)] at q2
      have := hK H (y_st (y_rf hr) hH (by repeat (first | exact w_nil | refine w_cons (Or.inl (y_m rfl)) ?_ | refine w_cons (Or.inr (by assumption)) ?_)) (by repeat (first | exact w_nil | refine w_cons (Or.inl (y_m rfl)) ?_ | refine w_cons (Or.inr (by assumption)) ?_)))
      unfold y_mg at this
      rw [if_pos (by omega)] at this
      exact this
/-- the answer of many -/
def y_mn (a b : Int32) : Int32 := if 1 ≤ a.toInt ∧ a.toInt ≤ b.toInt ∧ b.toInt ≤ 1000000 then y_mg a b 100001 (Int64.ofInt 1000000000) (Int32.ofInt 0) else Int32.ofInt (-1)
theorem p_many {h : aH} (hr : w_hr z_D h) {a b : Int32} (hk : ∀ (H : aH), y_fr h H [19584] [] → K0 (some (.int (y_mn a b))) H C S) : aOK s_P X (d + 2) a_m267 0 [some (.ref 155), some (.int a), some (.int b), none, none, none] [] h C S K0 := by
  have T10 : ∀ {G : aH}, y_fr h G [19584] [] → 1 ≤ a.toInt → a.toInt ≤ b.toInt → b.toInt ≤ 1000000 → aOK s_P X (d + 2) a_m267 10 [some (.ref 155), some (.int a), some (.int b), none, none, none] [.int (y_01 true)] G C S K0 := by
    intro G e a1 ab b6
    refine w_go z_hl [22] [] 30 e.1 ?_
    refine ⟨fun _ => fun H hH => ?_, fun q => absurd q (by decide)⟩
    have e2 := y_st e hH (by repeat (first | exact w_nil | refine w_cons (Or.inl (y_m rfl)) ?_ | refine w_cons (Or.inr (by assumption)) ?_)) (by repeat (first | exact w_nil | refine w_cons (Or.inl (y_m rfl)) ?_ | refine w_cons (Or.inr (by assumption)) ?_))
    refine y_many_loop (by omega) 100001 H _ _ e2.1 (by rw [show (Int32.ofInt 0).toInt = 0 by decide]; rfl) (by decide) (fun H' f => ?_)
    have := hk H' (y_sq e2 f rfl rfl)
    unfold y_mn at this
    rw [if_pos ⟨a1, ab, b6⟩] at this
    exact this
  have T10n : ∀ {G : aH}, y_fr h G [19584] [] → (1 ≤ a.toInt → a.toInt ≤ b.toInt → b.toInt ≤ 1000000 → False) → aOK s_P X (d + 2) a_m267 10 [some (.ref 155), some (.int a), some (.int b), none, none, none] [.int (y_01 false)] G C S K0 := by
    intro G e hn
    refine w_go z_hl [22] [] 30 e.1 ?_
    refine ⟨fun q => absurd q (by decide), fun _ => fun H hH => ?_⟩
    have := hk H (y_st e hH (by repeat (first | exact w_nil | refine w_cons (Or.inl (y_m rfl)) ?_ | refine w_cons (Or.inr (by assumption)) ?_)) (by repeat (first | exact w_nil | refine w_cons (Or.inl (y_m rfl)) ?_ | refine w_cons (Or.inr (by assumption)) ?_)))
    unfold y_mn at this
    rw [if_neg (fun q => hn q.1 q.2.1 q.2.2)] at this
    exact this
  refine w_go z_hl [] [266] 30 hr ?_
  refine ⟨rfl, y_zini (by decide) (by decide), fun H hH => ?_⟩
  have e : y_fr h H [19584] [] := y_st (y_mo (y_rf hr) rfl rfl) hH (by repeat (first | exact w_nil | refine w_cons (Or.inl (y_m rfl)) ?_ | refine w_cons (Or.inr (by assumption)) ?_)) (by repeat (first | exact w_nil | refine w_cons (Or.inl (y_m rfl)) ?_ | refine w_cons (Or.inr (by assumption)) ?_))
  refine y_isMark e.1 (fun H3 h3 a1 ab b6 => ⟨fun n e => (by cases e), ?_⟩) (fun H3 h3 l => ⟨fun n e => (by cases e), ?_⟩)
  · exact T10 (y_sq e h3 rfl rfl) a1 ab b6
  · exact T10n (y_sq e h3 rfl rfl) l
theorem p_list {h : aH} (hr : w_hr z_D h) {p n a b : Int32} (hk : ∀ (r : Int32) (H : aH), y_fr h H [19584, 19585, 19587, 19588] [154] → K0 (some (.int r)) H C S) : aOK s_P X (d + 2) a_m265 0 [some (.ref 155), some (.int p), some (.int n), some (.int a), some (.int b)] [] h C S K0 := by
  have T68 : ∀ {G : aH}, y_fr h G [19584, 19585, 19587, 19588] [154] → aOK s_P X (d + 2) a_m265 68 [some (.ref 155), some (.int p), some (.int n), some (.int a), some (.int b)] [] G C S K0 := by
    intro G e
    refine w_go z_hl [] [] 30 e.1 ?_
    exact fun H hH => hk _ H (y_st e hH (by repeat (first | exact w_nil | refine w_cons (Or.inl (y_m rfl)) ?_ | refine w_cons (Or.inr (by assumption)) ?_)) (by repeat (first | exact w_nil | refine w_cons (Or.inl (y_m rfl)) ?_ | refine w_cons (Or.inr (by assumption)) ?_)))
  have T59 : ∀ {G : aH}, y_fr h G [19584, 19585, 19587, 19588] [154] → aOK s_P X (d + 2) a_m265 59 [some (.ref 155), some (.int p), some (.int n), some (.int a), some (.int b)] [] G C S K0 := by
    intro G e
    refine w_go z_hl [] [196] 30 e.1 ?_
    refine ⟨rfl, y_zini (by decide) (by decide), fun H hH => ?_⟩
    have e2 := y_st e hH (by repeat (first | exact w_nil | refine w_cons (Or.inl (y_m rfl)) ?_ | refine w_cons (Or.inr (by assumption)) ?_)) (by repeat (first | exact w_nil | refine w_cons (Or.inl (y_m rfl)) ?_ | refine w_cons (Or.inr (by assumption)) ?_))
    refine y_tells e2.1 (hH.2.1 19585 _ rfl) (by decide) (by decide) (fun H2 r2 e3 _ _ => ⟨fun n e => (by cases e), ?_⟩)
    exact T68 (y_sq e2 e3 rfl rfl)
  have T36 : ∀ {G : aH}, y_fr h G [19584, 19585, 19587, 19588] [154] → 1 ≤ n.toInt → n.toInt ≤ p.toInt → p.toInt ≤ 100000000 → 1 ≤ a.toInt → a.toInt ≤ b.toInt → b.toInt ≤ 1000000 → aOK s_P X (d + 2) a_m265 36 [some (.ref 155), some (.int p), some (.int n), some (.int a), some (.int b)] [.int (y_01 true)] G C S K0 := by
    intro G e n1 np p8 a1 ab b6
    obtain ⟨pn, hp⟩ : ∃ pn : Nat, p.toInt = pn := ⟨p.toInt.toNat, by omega⟩
    obtain ⟨nn, hn⟩ : ∃ nn : Nat, n.toInt = nn := ⟨n.toInt.toNat, by omega⟩
    obtain ⟨an, ha⟩ : ∃ an : Nat, a.toInt = an := ⟨a.toInt.toNat, by omega⟩
    obtain ⟨bn, hb⟩ : ∃ bn : Nat, b.toInt = bn := ⟨b.toInt.toNat, by omega⟩
    have s1 : (p - n).toInt64.toInt = ((pn - nn : Nat) : Int) := by rw [y_i2l]; exact y_subS _ hp hn (by omega) (by omega)
    have hle : (pn - nn) * an ≤ 100000000 * 1000000 := Nat.mul_le_mul (by omega) (by omega)
    have m1 : ((p - n).toInt64 * a.toInt64).toInt = (((pn - nn) * an : Nat) : Int) := y_mul64 _ s1 (by rw [y_i2l]; exact ha) rfl (by omega)
    have m2 : (b.toInt64 + (p - n).toInt64 * a.toInt64).toInt = ((bn + (pn - nn) * an : Nat) : Int) := y_add64 _ (by rw [y_i2l]; exact hb) m1 rfl (by omega)
    refine w_go z_hl [] [194] 40 e.1 ?_
    refine ⟨fun _ => fun H hH => ?_, fun q => absurd q (by decide)⟩
    have e2 := y_st e hH (by repeat (first | exact w_nil | refine w_cons (Or.inl (y_m rfl)) ?_ | refine w_cons (Or.inr (by assumption)) ?_)) (by repeat (first | exact w_nil | refine w_cons (Or.inl (y_m rfl)) ?_ | refine w_cons (Or.inr (by assumption)) ?_))
    refine q_lowest (n := b.toInt64) (m := b.toInt64 + (p - n).toInt64 * a.toInt64) e2.1 (by rw [y_i2l]; omega) (by rw [m2]; omega) (fun u l H2 e3 _ _ _ _ _ _ _ => ⟨fun n e => (by cases e), ?_⟩)
    exact T59 (y_sq e2 e3 rfl rfl)
  have N : ∀ {G : aH} {pc : Nat}, (pc = 14 ∨ pc = 27) → y_fr h G [19584, 19585, 19587, 19588] [154] → aOK s_P X (d + 2) a_m265 pc [some (.ref 155), some (.int p), some (.int n), some (.int a), some (.int b)] [.int (y_01 false)] G C S K0 := by
    intro G pc hpc e
    rcases hpc with rfl | rfl
    · refine w_go z_hl [] [] 30 e.1 ?_
      exact ⟨fun _ => fun H hH => hk _ H (y_st e hH (by repeat (first | exact w_nil | refine w_cons (Or.inl (y_m rfl)) ?_ | refine w_cons (Or.inr (by assumption)) ?_)) (by repeat (first | exact w_nil | refine w_cons (Or.inl (y_m rfl)) ?_ | refine w_cons (Or.inr (by assumption)) ?_))), fun q => absurd q (by decide)⟩
    · refine w_go z_hl [] [] 30 e.1 ?_
      exact ⟨fun _ => fun H hH => hk _ H (y_st e hH (by repeat (first | exact w_nil | refine w_cons (Or.inl (y_m rfl)) ?_ | refine w_cons (Or.inr (by assumption)) ?_)) (by repeat (first | exact w_nil | refine w_cons (Or.inl (y_m rfl)) ?_ | refine w_cons (Or.inr (by assumption)) ?_))), fun q => absurd q (by decide)⟩
  have N36 : ∀ {G : aH}, y_fr h G [19584, 19585, 19587, 19588] [154] → aOK s_P X (d + 2) a_m265 36 [some (.ref 155), some (.int p), some (.int n), some (.int a), some (.int b)] [.int (y_01 false)] G C S K0 := by
    intro G e
    refine w_go z_hl [] [] 30 e.1 ?_
    exact ⟨fun q => absurd q (by decide), fun _ => fun H hH => hk _ H (y_st e hH (by repeat (first | exact w_nil | refine w_cons (Or.inl (y_m rfl)) ?_ | refine w_cons (Or.inr (by assumption)) ?_)) (by repeat (first | exact w_nil | refine w_cons (Or.inl (y_m rfl)) ?_ | refine w_cons (Or.inr (by assumption)) ?_)))⟩
  have T27 : ∀ {G : aH}, y_fr h G [19584, 19585, 19587, 19588] [154] → 1 ≤ n.toInt → n.toInt ≤ p.toInt → p.toInt ≤ 100000000 → aOK s_P X (d + 2) a_m265 27 [some (.ref 155), some (.int p), some (.int n), some (.int a), some (.int b)] [.int (y_01 true)] G C S K0 := by
    intro G e n1 np p8
    refine w_go z_hl [] [266] 30 e.1 ?_
    refine ⟨fun q => absurd q (by decide), fun _ => fun H hH => ?_⟩
    have e2 := y_st e hH (by repeat (first | exact w_nil | refine w_cons (Or.inl (y_m rfl)) ?_ | refine w_cons (Or.inr (by assumption)) ?_)) (by repeat (first | exact w_nil | refine w_cons (Or.inl (y_m rfl)) ?_ | refine w_cons (Or.inr (by assumption)) ?_))
    refine y_isMark e2.1 (fun H3 h3 a1 ab b6 => ⟨fun n e => (by cases e), ?_⟩) (fun H3 h3 l => ⟨fun n e => (by cases e), ?_⟩)
    · exact T36 (y_sq e2 h3 rfl rfl) n1 np p8 a1 ab b6
    · exact N36 (y_sq e2 h3 rfl rfl)
  have T14 : ∀ {G : aH}, y_fr h G [19584, 19585, 19587, 19588] [154] → 1 ≤ n.toInt → aOK s_P X (d + 2) a_m265 14 [some (.ref 155), some (.int p), some (.int n), some (.int a), some (.int b)] [.int (y_01 true)] G C S K0 := by
    intro G e n1
    refine w_go z_hl [] [176] 30 e.1 ?_
    refine ⟨fun q => absurd q (by decide), fun _ => fun H hH => ?_⟩
    have e2 := y_st e hH (by repeat (first | exact w_nil | refine w_cons (Or.inl (y_m rfl)) ?_ | refine w_cons (Or.inr (by assumption)) ?_)) (by repeat (first | exact w_nil | refine w_cons (Or.inl (y_m rfl)) ?_ | refine w_cons (Or.inr (by assumption)) ?_))
    refine q_in (v := p.toInt64) (lo := n.toInt64) (hi := Int64.ofInt 100000000) e2.1 (fun H3 h3 l1 l2 => ⟨fun n e => (by cases e), ?_⟩) (fun H3 h3 l => ⟨fun n e => (by cases e), ?_⟩)
    · rw [y_i2l, y_i2l] at l1
      rw [y_i2l, y_i64 (by decide) (by decide)] at l2
      exact T27 (y_sq e2 h3 rfl rfl) n1 l1 l2
    · exact N (Or.inr rfl) (y_sq e2 h3 rfl rfl)
  refine w_go z_hl [] [176] 30 hr ?_
  refine ⟨rfl, y_zini (by decide) (by decide), fun H hH => ?_⟩
  have e : y_fr h H [19584, 19585, 19587, 19588] [154] := y_st (y_mo (y_rf hr) rfl rfl) hH (by repeat (first | exact w_nil | refine w_cons (Or.inl (y_m rfl)) ?_ | refine w_cons (Or.inr (by assumption)) ?_)) (by repeat (first | exact w_nil | refine w_cons (Or.inl (y_m rfl)) ?_ | refine w_cons (Or.inr (by assumption)) ?_))
  refine q_in (v := n.toInt64) (lo := Int64.ofNat 1) e.1 (fun H3 h3 l1 l2 => ⟨fun n e => (by cases e), ?_⟩) (fun H3 h3 l => ⟨fun n e => (by cases e), ?_⟩)
  · rw [y_i2l] at l1
    exact T14 (y_sq e h3 rfl rfl) l1
  · exact N (Or.inl rfl) (y_sq e h3 rfl rfl)
theorem p_weight {h : aH} (hr : w_hr z_D h) (hJ : y_J h) {a : Int32} (hk : ∀ (r : Int32) (H : aH), y_fr h H [19584] [] → K0 (some (.int r)) H C S) : aOK s_P X (d + 2) a_m183 0 [some (.ref 155), some (.int a)] [] h C S K0 := by
  obtain ⟨nd, le, de, ta, n1, n2, n3, n4, c1, c2, c3, c4, c5⟩ := id hJ.1
  obtain ⟨b1, b2⟩ := y_ndb hr n1
  obtain ⟨ea, l1, l2⟩ := y_all b1 b2
  have T18 : ∀ {G : aH} {x : Int64}, y_fr h G [19584] [] → aOK s_P X (d + 2) a_m183 18 [some (.ref 155), some (.int a)] [.long x] G C S K0 := by
    intro G x e
    refine w_go z_hl [] [] 30 e.1 ?_
    exact fun H hH => hk _ H (y_st e hH (by repeat (first | exact w_nil | refine w_cons (Or.inl (y_m rfl)) ?_ | refine w_cons (Or.inr (by assumption)) ?_)) (by repeat (first | exact w_nil | refine w_cons (Or.inl (y_m rfl)) ?_ | refine w_cons (Or.inr (by assumption)) ?_)))
  have T10 : ∀ {G : aH} {v : Nat}, y_fr h G [19584] [] → a.toInt = v → v < 1024 → aOK s_P X (d + 2) a_m183 10 [some (.ref 155), some (.int a)] [.int (y_01 true)] G C S K0 := by
    intro G v e hv v10
    refine w_go z_hl [] [184] 30 e.1 ?_
    refine ⟨fun q => absurd q (by decide), fun _ => fun H hH => ?_⟩
    have e2 := y_st e hH (by repeat (first | exact w_nil | refine w_cons (Or.inl (y_m rfl)) ?_ | refine w_cons (Or.inr (by assumption)) ?_)) (by repeat (first | exact w_nil | refine w_cons (Or.inl (y_m rfl)) ?_ | refine w_cons (Or.inr (by assumption)) ?_))
    obtain ⟨fo, z5, z6, -⟩ := w_arrI e2.1 (o := 159) (t := 0) (n := 10) (lo := -1) (hi := 1) (by decide) rfl
    refine y_weightOf hv v10 e2.1 (⟨(y_fe e2 rfl).trans n1, (y_ae e2 rfl).trans n2, (y_ae e2 rfl).trans n3, (y_ae e2 rfl).trans n4, w_a_at z5, c1, c2, c3, c4⟩ : y_net H nd le de ta fo) b1 (fun r H2 e3 _ => ⟨fun n e => (by cases e), ?_⟩)
    exact T18 (y_sq e2 e3 rfl rfl)
  have T10n : ∀ {G : aH}, y_fr h G [19584] [] → aOK s_P X (d + 2) a_m183 10 [some (.ref 155), some (.int a)] [.int (y_01 false)] G C S K0 := by
    intro G e
    refine w_go z_hl [] [] 30 e.1 ?_
    exact ⟨fun _ => fun H hH => hk _ H (y_st e hH (by repeat (first | exact w_nil | refine w_cons (Or.inl (y_m rfl)) ?_ | refine w_cons (Or.inr (by assumption)) ?_)) (by repeat (first | exact w_nil | refine w_cons (Or.inl (y_m rfl)) ?_ | refine w_cons (Or.inr (by assumption)) ?_))), fun q => absurd q (by decide)⟩
  refine w_go z_hl [] [174] 30 hr ?_
  refine ⟨rfl, y_zini (by decide) (by decide), fun H hH => ?_⟩
  have e : y_fr h H [19584] [] := y_st (y_mo (y_rf hr) rfl rfl) hH (by repeat (first | exact w_nil | refine w_cons (Or.inl (y_m rfl)) ?_ | refine w_cons (Or.inr (by assumption)) ?_)) (by repeat (first | exact w_nil | refine w_cons (Or.inl (y_m rfl)) ?_ | refine w_cons (Or.inr (by assumption)) ?_))
  refine q_isSet (v := a) e.1 ((y_fe e rfl).trans n1) (fun H3 vv h3 hv hw _ => ⟨fun n e => (by cases e), ?_⟩) (fun H3 h3 => ⟨fun n e => (by cases e), ?_⟩)
  · exact T10 (y_sq e h3 rfl rfl) hv (by omega)
  · exact T10n (y_sq e h3 rfl rfl)
end WG
end PT30b
section PT30c
/-! ===== v3: the reference's odds, worth, need, even ===== -/
def y_wc (h : aH) (nd : Int32) (sa : List Int32) (wl : List Int64) : Prop := w_hr z_D h ∧ w_f h 19591 = some (.int nd) ∧ w_a h 160 = some (0, .inl sa) ∧ y_wl h wl
theorem y_wc_fr {h H : aH} {nd : Int32} {sa : List Int32} {wl : List Int64} {fs as : List Nat} (s : y_wc h nd sa wl) (e : y_fr h H fs as) (h1 : fs.elem 19591 = false) (h2 : as.elem 160 = false) (h3 : as.elem 163 = false) : y_wc H nd sa wl := ⟨e.1, (y_fe e h1).trans s.2.1, (y_ae e h2).trans s.2.2.1, y_wl_fr e (fun q => by rw [List.elem_iff.mpr q] at h3; cases h3) s.2.2.2⟩
section WG
variable {X : aX} {C S d : Nat} {K0 : Option Value → aH → Nat → Nat → Prop} {h : aH} {nd : Int32} {sa : List Int32} {wl : List Int64}
theorem q_now (s : y_wc h nd sa wl) (hK : ∀ (r : Int64) (H : aH), y_fr h H [] [] → 0 ≤ r.toInt → r.toInt ≤ 100000000 → K0 (some (.long r)) H C S) : aOK s_P X (d + 3) a_m189 0 [some (.ref 155)] [] h C S K0 := by
  obtain ⟨b1, b2⟩ := y_ndb s.1 s.2.1
  refine y_now s.1 s.2.1 s.2.2.1 s.2.2.2 (fun r H e hr => ?_)
  have b := y_nw_b (sa := sa) (node := Int32.ofInt (-1)) (so := true) (but := Int32.ofInt (-1)) s.2.2.2 b1 b2
  exact hK r H e (by omega) (by omega)
theorem q_nowWith (s : y_wc h nd sa wl) {node but : Int32} {b : Bool} (hK : ∀ (r : Int64) (H : aH), y_fr h H [] [] → 0 ≤ r.toInt → r.toInt ≤ 100000000 → K0 (some (.long r)) H C S) : aOK s_P X (d + 2) a_m190 0 [some (.ref 155), some (.int node), some (.int (y_01 b)), some (.int but), none] [] h C S K0 := by
  obtain ⟨b1, b2⟩ := y_ndb s.1 s.2.1
  refine y_nowWith s.1 s.2.1 s.2.2.1 s.2.2.2 (fun r H e hr => ?_)
  have bb := y_nw_b (sa := sa) (node := node) (so := b) (but := but) s.2.2.2 b1 b2
  exact hK r H e (by omega) (by omega)
theorem q_weighs (s : y_wc h nd sa wl) {a b : Int32} (hK : ∀ (r : Int64) (H : aH), y_fr h H [] [] → 0 ≤ r.toInt → r.toInt ≤ 100000000 → K0 (some (.long r)) H C S) : aOK s_P X (d + 1) a_m193 0 [some (.ref 155), some (.int a), some (.int b), none, none, none] [] h C S K0 := by
  obtain ⟨b1, b2⟩ := y_ndb s.1 s.2.1
  refine y_weighs s.1 s.2.1 s.2.2.2 (fun r H e hr => ?_)
  have bb := y_ws_b s.2.2.2.2.1 (a := a) (b := b) (y_ways nd)
  have t := y_tot_m s.2.2.2.2.1 (y_all b1 b2).2.2
  have w := s.2.2.2.2.2
  exact hK r H e (by omega) (by omega)
theorem y_odds_tail (s : y_wc h nd sa wl) {node : Int32} (hk : ∀ (r : Int32) (H : aH), y_fr h H [19585, 19587, 19588] [154] → K0 (some (.int r)) H C S) : aOK s_P X (d + 4) a_m198 19 [some (.ref 155), some (.int node), none, none] [] h C S K0 := by
  have T68 : ∀ {G : aH} {nt : Int64}, y_fr h G [19585, 19587, 19588] [154] → aOK s_P X (d + 4) a_m198 68 [some (.ref 155), some (.int node), some (.long nt), none] [] G C S K0 := by
    intro G nt e
    refine w_go z_hl [] [] 30 e.1 ?_
    exact fun H hH => hk _ H (y_st e hH (by repeat (first | exact w_nil | refine w_cons (Or.inl (y_m rfl)) ?_ | refine w_cons (Or.inr (by assumption)) ?_)) (by repeat (first | exact w_nil | refine w_cons (Or.inl (y_m rfl)) ?_ | refine w_cons (Or.inr (by assumption)) ?_)))
  have T59 : ∀ {G : aH} {nt : Int64}, y_fr h G [19585, 19587, 19588] [154] → aOK s_P X (d + 4) a_m198 59 [some (.ref 155), some (.int node), some (.long nt), none] [] G C S K0 := by
    intro G nt e
    refine w_go z_hl [] [196] 30 e.1 ?_
    refine ⟨rfl, y_zini (by decide) (by decide), fun H hH => ?_⟩
    have e2 := y_st e hH (by repeat (first | exact w_nil | refine w_cons (Or.inl (y_m rfl)) ?_ | refine w_cons (Or.inr (by assumption)) ?_)) (by repeat (first | exact w_nil | refine w_cons (Or.inl (y_m rfl)) ?_ | refine w_cons (Or.inr (by assumption)) ?_))
    refine y_tells e2.1 (hH.2.1 19585 _ rfl) (by decide) (by decide) (fun H2 r2 e3 _ _ => ⟨fun n e => (by cases e), ?_⟩)
    exact T68 (y_sq e2 e3 rfl rfl)
  have T55 : ∀ {G : aH} {nt x : Int64}, y_fr h G [19585, 19587, 19588] [154] → 1 ≤ nt.toInt → 0 ≤ x.toInt → aOK s_P X (d + 4) a_m198 55 [some (.ref 155), some (.int node), some (.long nt), none] [.long x, .ref 155] G C S K0 := by
    intro G nt x e n1 x0
    refine w_go z_hl [] [194] 30 e.1 ?_
    intro H hH
    have e2 := y_st e hH (by repeat (first | exact w_nil | refine w_cons (Or.inl (y_m rfl)) ?_ | refine w_cons (Or.inr (by assumption)) ?_)) (by repeat (first | exact w_nil | refine w_cons (Or.inl (y_m rfl)) ?_ | refine w_cons (Or.inr (by assumption)) ?_))
    refine q_lowest (n := x) (m := nt) e2.1 (by omega) n1 (fun u l H2 e3 _ _ _ _ _ _ _ => ⟨fun n e => (by cases e), ?_⟩)
    exact T59 (y_sq e2 e3 rfl rfl)
  have T38 : ∀ {G : aH} {nt : Int64}, y_fr h G [19585, 19587, 19588] [154] → 0 ≤ nt.toInt → aOK s_P X (d + 4) a_m198 38 [some (.ref 155), some (.int node), none, none] [.long nt] G C S K0 := by
    intro G nt e n0
    refine w_go z_hl [] [190] 30 e.1 ?_
    refine ⟨fun q => fun H hH => ?_, fun _ => fun H hH => hk _ H (y_st e hH (by repeat (first | exact w_nil | refine w_cons (Or.inl (y_m rfl)) ?_ | refine w_cons (Or.inr (by assumption)) ?_)) (by repeat (first | exact w_nil | refine w_cons (Or.inl (y_m rfl)) ?_ | refine w_cons (Or.inr (by assumption)) ?_)))⟩
    have q2 : nt.toInt ≠ (Int64.ofNat 0).toInt := (y_cl .ne _ _).mp q
    rw [show (Int64.ofNat 0).toInt = 0 by decide] at q2
    have e2 := y_st e hH (by repeat (first | exact w_nil | refine w_cons (Or.inl (y_m rfl)) ?_ | refine w_cons (Or.inr (by assumption)) ?_)) (by repeat (first | exact w_nil | refine w_cons (Or.inl (y_m rfl)) ?_ | refine w_cons (Or.inr (by assumption)) ?_))
    refine q_nowWith (b := true) (y_wc_fr s e2 rfl rfl rfl) (fun r H2 e3 r0 _ => ⟨fun n e => (by cases e), ?_⟩)
    exact T55 (y_sq e2 e3 rfl rfl) (by omega) r0
  have T23 : ∀ {G : aH} {x : Int64}, y_fr h G [19585, 19587, 19588] [154] → aOK s_P X (d + 4) a_m198 23 [some (.ref 155), some (.int node), none, none] [.long x] G C S K0 := by
    intro G x e
    refine w_go z_hl [] [190] 30 e.1 ?_
    refine ⟨fun _ => fun H hH => ?_, fun _ => fun H hH => hk _ H (y_st e hH (by repeat (first | exact w_nil | refine w_cons (Or.inl (y_m rfl)) ?_ | refine w_cons (Or.inr (by assumption)) ?_)) (by repeat (first | exact w_nil | refine w_cons (Or.inl (y_m rfl)) ?_ | refine w_cons (Or.inr (by assumption)) ?_)))⟩
    have e2 := y_st e hH (by repeat (first | exact w_nil | refine w_cons (Or.inl (y_m rfl)) ?_ | refine w_cons (Or.inr (by assumption)) ?_)) (by repeat (first | exact w_nil | refine w_cons (Or.inl (y_m rfl)) ?_ | refine w_cons (Or.inr (by assumption)) ?_))
    refine q_nowWith (b := false) (y_wc_fr s e2 rfl rfl rfl) (fun r H2 e3 r0 _ => ⟨fun n e => (by cases e), ?_⟩)
    exact T38 (y_sq e2 e3 rfl rfl) r0
  refine w_go z_hl [] [189] 30 s.1 ?_
  intro H hH
  have e : y_fr h H [19585, 19587, 19588] [154] := y_st (y_mo (y_rf s.1) rfl rfl) hH (by repeat (first | exact w_nil | refine w_cons (Or.inl (y_m rfl)) ?_ | refine w_cons (Or.inr (by assumption)) ?_)) (by repeat (first | exact w_nil | refine w_cons (Or.inl (y_m rfl)) ?_ | refine w_cons (Or.inr (by assumption)) ?_))
  refine q_now (y_wc_fr s e rfl rfl rfl) (fun r H2 e3 _ _ => ⟨fun n e => (by cases e), ?_⟩)
  exact T23 (y_sq e e3 rfl rfl)
theorem p_odds (hr : w_hr z_D h) (hJ : y_J h) {node : Int32} (hk : ∀ (r : Int32) (H : aH), y_fr h H [19584, 19585, 19587, 19588] [154, 163] → y_J H → K0 (some (.int r)) H C S) : aOK s_P X (d + 4) a_m198 0 [some (.ref 155), some (.int node), none, none] [] h C S K0 := by
  obtain ⟨nd, sm, so, sa, s1, s2, s3, s4, s5⟩ := id hJ.2.2.2.2.1
  have T10 : ∀ {G : aH} {b : Bool}, y_fr h G [19584] [] → aOK s_P X (d + 4) a_m198 10 [some (.ref 155), some (.int node), none, none] [.int (y_01 b)] G C S K0 := by
    intro G b e
    refine w_go z_hl [] [188] 30 e.1 ?_
    refine ⟨fun _ => fun H hH => ?_, fun _ => fun H hH => ?_⟩
    · have e2 := y_st e hH (by repeat (first | exact w_nil | refine w_cons (Or.inl (y_m rfl)) ?_ | refine w_cons (Or.inr (by assumption)) ?_)) (by repeat (first | exact w_nil | refine w_cons (Or.inl (y_m rfl)) ?_ | refine w_cons (Or.inr (by assumption)) ?_))
      refine q_weighsUp e2.1 (y_J_fr e2 rfl rfl hJ) (fun wl H2 e3 J3 hw => ⟨fun n e => (by cases e), ?_⟩)
      have e4 : y_fr h H2 [19584] [163] := y_sq (y_mo e2 rfl rfl) e3 rfl rfl
      refine y_odds_tail ⟨e4.1, (y_fe e4 rfl).trans s1, (y_ae e4 rfl).trans s4, hw⟩ (fun r H5 e5 => ?_)
      exact hk r H5 (y_sq (y_mo e4 rfl rfl) e5 rfl rfl) (y_J_fr e5 rfl rfl J3)
    · have e2 := y_st e hH (by repeat (first | exact w_nil | refine w_cons (Or.inl (y_m rfl)) ?_ | refine w_cons (Or.inr (by assumption)) ?_)) (by repeat (first | exact w_nil | refine w_cons (Or.inl (y_m rfl)) ?_ | refine w_cons (Or.inr (by assumption)) ?_))
      exact hk _ H (y_mo e2 rfl rfl) (y_J_fr e2 rfl rfl hJ)
  refine w_go z_hl [] [178] 30 hr ?_
  refine ⟨rfl, y_zini (by decide) (by decide), fun H1 h1 => ?_⟩
  have e1 : y_fr h H1 [19584] [] := y_st (y_mo (y_rf hr) rfl rfl) h1 (by repeat (first | exact w_nil | refine w_cons (Or.inl (y_m rfl)) ?_ | refine w_cons (Or.inr (by assumption)) ?_)) (by repeat (first | exact w_nil | refine w_cons (Or.inl (y_m rfl)) ?_ | refine w_cons (Or.inr (by assumption)) ?_))
  refine q_isNode (v := node) e1.1 ((y_fe e1 rfl).trans s1) (fun H2 v h2 hv hv2 hvc => ⟨fun n e => (by cases e), ?_⟩) (fun H2 h2 => ⟨fun n e => (by cases e), ?_⟩)
  · exact T10 (y_sq e1 h2 rfl rfl)
  · exact T10 (y_sq e1 h2 rfl rfl)
theorem y_worth_loop {cl no : Int32} {whole wi : Int64} (w0 : 0 ≤ whole.toInt) (w8 : whole.toInt ≤ 100000000) (v0 : 0 ≤ wi.toInt) (v8 : wi.toInt ≤ 100000000) : ∀ (m : Nat) (h : aH) (sum : Int64) (kI : Int32) (k : Nat) (o10 o12 : Option Value), y_wc h nd sa wl → kI.toInt = k → k + m = 2 → 0 ≤ sum.toInt → sum.toInt ≤ k * 10000000000000000 → (∀ (r : Int64) (H : aH), y_fr h H [] [] → 0 ≤ r.toInt → r.toInt ≤ 20000000000000000 → K0 (some (.long r)) H C S) → aOK s_P X (d + 3) a_m205 20 [some (.ref 155), some (.int cl), some (.int no), some (.long sum), none, some (.long whole), none, some (.long wi), none, some (.int kI), o10, none, o12, none] [] h C S K0 := by
  intro m
  induction m with
  | zero =>
    intro h sum kI k o10 o12 s hk hm s0 s1 hK
    refine w_go z_hl [20] [] 30 s.1 ?_
    refine ⟨fun _ => fun H hH => hK sum H (y_st (y_rf s.1) hH (by repeat (first | exact w_nil | refine w_cons (Or.inl (y_m rfl)) ?_ | refine w_cons (Or.inr (by assumption)) ?_)) (by repeat (first | exact w_nil | refine w_cons (Or.inl (y_m rfl)) ?_ | refine w_cons (Or.inr (by assumption)) ?_))) s0 (by omega), fun q => ?_⟩
    have q2 : ¬ ((Int32.ofInt 2).toInt ≤ kI.toInt) := y_cif q
    rw [show (Int32.ofInt 2).toInt = 2 by decide] at q2
    omega
  | succ m ih =>
    intro h sum kI k o10 o12 s hk hm s0 s1 hK
    have ink : (kI + Int32.ofInt 1).toInt = ((k + 1 : Nat) : Int) := by rw [y_inc (by omega), hk]; rfl
    have next : ∀ {G : aH} {x of bo : Int64}, y_fr h G [] [] → 0 ≤ x.toInt → x.toInt ≤ 10000000000000000 → aOK s_P X (d + 3) a_m205 118 [some (.ref 155), some (.int cl), some (.int no), some (.long sum), none, some (.long whole), none, some (.long wi), none, some (.int kI), some (.long of), none, some (.long bo), none] [.long x, .long sum] G C S K0 := by
      intro G x of bo e x0 x1
      have ad : (sum + x).toInt = sum.toInt + x.toInt := y_add (by omega) (by omega)
      refine w_go z_hl [20] [] 30 e.1 ?_
      intro H hH
      have e2 := y_st e hH (by repeat (first | exact w_nil | refine w_cons (Or.inl (y_m rfl)) ?_ | refine w_cons (Or.inr (by assumption)) ?_)) (by repeat (first | exact w_nil | refine w_cons (Or.inl (y_m rfl)) ?_ | refine w_cons (Or.inr (by assumption)) ?_))
      exact ih H _ _ (k + 1) _ _ (y_wc_fr s e2 rfl rfl rfl) ink (by omega) (by show 0 ≤ (sum + x).toInt; omega) (by show (sum + x).toInt ≤ _; omega) (fun r H' f r0 r1 => hK r H' (y_sq e2 f rfl rfl) r0 r1)
    have T90 : ∀ {G : aH} {of bo : Int64}, y_fr h G [] [] → 0 ≤ of.toInt → of.toInt ≤ 100000000 → 0 ≤ bo.toInt → bo.toInt ≤ 100000000 → aOK s_P X (d + 3) a_m205 90 [some (.ref 155), some (.int cl), some (.int no), some (.long sum), none, some (.long whole), none, some (.long wi), none, some (.int kI), some (.long of), none, o12, none] [.long bo] G C S K0 := by
      intro G of bo e o0 o8 b0 b8
      have m1 := y_m8 b0 b8 w0 w8
      have m2 := y_m8 v0 v8 o0 o8
      have p1 := y_p8 b0 b8 w0 w8
      have p2 := y_p8 v0 v8 o0 o8
      have sb : (bo * whole - wi * of).toInt = bo.toInt * whole.toInt - wi.toInt * of.toInt := by
        rw [y_lsub (by rw [m1, m2]; omega) (by rw [m1, m2]; omega), m1, m2]
      have ng : (bo * whole - wi * of).toInt ≤ 0 → (-(bo * whole - wi * of)).toInt = -(bo * whole - wi * of).toInt := fun _ => by
        rw [Int64.toInt_neg]
        exact Int.bmod_eq_of_le (by omega) (by omega)
      refine w_go z_hl [118] [] 30 e.1 ?_
      refine ⟨fun _ => ⟨fun q => fun H hH => ?_, fun q => fun H hH => ?_⟩, fun _ => fun H hH => next (y_st e hH (by repeat (first | exact w_nil | refine w_cons (Or.inl (y_m rfl)) ?_ | refine w_cons (Or.inr (by assumption)) ?_)) (by repeat (first | exact w_nil | refine w_cons (Or.inl (y_m rfl)) ?_ | refine w_cons (Or.inr (by assumption)) ?_))) (by decide) (by decide)⟩
      · have q2 : (Int64.ofNat 0).toInt ≤ (bo * whole - wi * of).toInt := (y_cl .ge _ _).mp q
        rw [show (Int64.ofNat 0).toInt = 0 by decide] at q2
        exact next (y_st e hH (by repeat (first | exact w_nil | refine w_cons (Or.inl (y_m rfl)) ?_ | refine w_cons (Or.inr (by assumption)) ?_)) (by repeat (first | exact w_nil | refine w_cons (Or.inl (y_m rfl)) ?_ | refine w_cons (Or.inr (by assumption)) ?_))) q2 (by omega)
      · have q2 : ¬ ((Int64.ofNat 0).toInt ≤ (bo * whole - wi * of).toInt) := y_clf q
        rw [show (Int64.ofNat 0).toInt = 0 by decide] at q2
        have := ng (by omega)
        exact next (y_st e hH (by repeat (first | exact w_nil | refine w_cons (Or.inl (y_m rfl)) ?_ | refine w_cons (Or.inr (by assumption)) ?_)) (by repeat (first | exact w_nil | refine w_cons (Or.inl (y_m rfl)) ?_ | refine w_cons (Or.inr (by assumption)) ?_))) (by omega) (by omega)
    have T87 : ∀ {G : aH} {of : Int64} {a b : Int32}, y_fr h G [] [] → 0 ≤ of.toInt → of.toInt ≤ 100000000 → aOK s_P X (d + 3) a_m205 87 [some (.ref 155), some (.int cl), some (.int no), some (.long sum), none, some (.long whole), none, some (.long wi), none, some (.int kI), some (.long of), none, o12, none] [.int b, .int a, .ref 155] G C S K0 := by
      intro G of a b e o0 o8
      refine w_go z_hl [] [193] 30 e.1 ?_
      intro H hH
      have e2 := y_st e hH (by repeat (first | exact w_nil | refine w_cons (Or.inl (y_m rfl)) ?_ | refine w_cons (Or.inr (by assumption)) ?_)) (by repeat (first | exact w_nil | refine w_cons (Or.inl (y_m rfl)) ?_ | refine w_cons (Or.inr (by assumption)) ?_))
      refine aOK_deep (d := d + 1) (by omega) (q_weighs (y_wc_fr s e2 rfl rfl rfl) (fun r H2 e3 r0 r8 => ⟨fun n e => (by cases e), ?_⟩))
      exact T90 (y_sq e2 e3 rfl rfl) o0 o8 r0 r8
    have T74 : ∀ {G : aH} {of : Int64} {a b : Int32}, y_fr h G [] [] → 0 ≤ of.toInt → of.toInt ≤ 100000000 → aOK s_P X (d + 3) a_m205 74 [some (.ref 155), some (.int cl), some (.int no), some (.long sum), none, some (.long whole), none, some (.long wi), none, some (.int kI), some (.long of), none, o12, none] [.int b, .int a, .ref 155] G C S K0 := by
      intro G of a b e o0 o8
      refine w_go z_hl [87] [] 30 e.1 ?_
      exact ⟨fun _ => fun H hH => T87 (y_st e hH (by repeat (first | exact w_nil | refine w_cons (Or.inl (y_m rfl)) ?_ | refine w_cons (Or.inr (by assumption)) ?_)) (by repeat (first | exact w_nil | refine w_cons (Or.inl (y_m rfl)) ?_ | refine w_cons (Or.inr (by assumption)) ?_))) o0 o8, fun _ => fun H hH => T87 (y_st e hH (by repeat (first | exact w_nil | refine w_cons (Or.inl (y_m rfl)) ?_ | refine w_cons (Or.inr (by assumption)) ?_)) (by repeat (first | exact w_nil | refine w_cons (Or.inl (y_m rfl)) ?_ | refine w_cons (Or.inr (by assumption)) ?_))) o0 o8⟩
    have T68 : ∀ {G : aH} {of : Int64} {a b : Int32}, y_fr h G [] [] → 0 ≤ of.toInt → of.toInt ≤ 100000000 → aOK s_P X (d + 3) a_m205 68 [some (.ref 155), some (.int cl), some (.int no), some (.long sum), none, some (.long whole), none, some (.long wi), none, some (.int kI), some (.long of), none, o12, none] [.int b, .int a, .ref 155] G C S K0 := by
      intro G of a b e o0 o8
      refine w_go z_hl [] [192] 30 e.1 ?_
      intro H hH
      have e2 := y_st e hH (by repeat (first | exact w_nil | refine w_cons (Or.inl (y_m rfl)) ?_ | refine w_cons (Or.inr (by assumption)) ?_)) (by repeat (first | exact w_nil | refine w_cons (Or.inl (y_m rfl)) ?_ | refine w_cons (Or.inr (by assumption)) ?_))
      have s2 := y_wc_fr s e2 rfl rfl rfl
      refine y_seenNot s2.1 s2.2.1 s2.2.2.1 (fun H2 e3 => ⟨fun n e => (by cases e), ?_⟩)
      exact T74 (y_sq e2 e3 rfl rfl) o0 o8
    have T51 : ∀ {G : aH} {of : Int64} {a : Int32}, y_fr h G [] [] → 0 ≤ of.toInt → of.toInt ≤ 100000000 → aOK s_P X (d + 3) a_m205 51 [some (.ref 155), some (.int cl), some (.int no), some (.long sum), none, some (.long whole), none, some (.long wi), none, some (.int kI), some (.long of), none, o12, none] [.int a, .ref 155] G C S K0 := by
      intro G of a e o0 o8
      refine w_go z_hl [68] [] 30 e.1 ?_
      exact ⟨fun _ => fun H hH => T68 (y_st e hH (by repeat (first | exact w_nil | refine w_cons (Or.inl (y_m rfl)) ?_ | refine w_cons (Or.inr (by assumption)) ?_)) (by repeat (first | exact w_nil | refine w_cons (Or.inl (y_m rfl)) ?_ | refine w_cons (Or.inr (by assumption)) ?_))) o0 o8, fun _ => fun H hH => T68 (y_st e hH (by repeat (first | exact w_nil | refine w_cons (Or.inl (y_m rfl)) ?_ | refine w_cons (Or.inr (by assumption)) ?_)) (by repeat (first | exact w_nil | refine w_cons (Or.inl (y_m rfl)) ?_ | refine w_cons (Or.inr (by assumption)) ?_))) o0 o8⟩
    have T43 : ∀ {G : aH} {of : Int64}, y_fr h G [] [] → 0 ≤ of.toInt → of.toInt ≤ 100000000 → aOK s_P X (d + 3) a_m205 43 [some (.ref 155), some (.int cl), some (.int no), some (.long sum), none, some (.long whole), none, some (.long wi), none, some (.int kI), o10, none, o12, none] [.long of] G C S K0 := by
      intro G of e o0 o8
      refine w_go z_hl [] [191] 30 e.1 ?_
      intro H hH
      have e2 := y_st e hH (by repeat (first | exact w_nil | refine w_cons (Or.inl (y_m rfl)) ?_ | refine w_cons (Or.inr (by assumption)) ?_)) (by repeat (first | exact w_nil | refine w_cons (Or.inl (y_m rfl)) ?_ | refine w_cons (Or.inr (by assumption)) ?_))
      have s2 := y_wc_fr s e2 rfl rfl rfl
      refine y_seenSo s2.1 s2.2.1 s2.2.2.1 (fun H2 e3 => ⟨fun n e => (by cases e), ?_⟩)
      exact T51 (y_sq e2 e3 rfl rfl) o0 o8
    have T39 : ∀ {G : aH} {b : Bool}, y_fr h G [] [] → aOK s_P X (d + 3) a_m205 39 [some (.ref 155), some (.int cl), some (.int no), some (.long sum), none, some (.long whole), none, some (.long wi), none, some (.int kI), o10, none, o12, none] [.int (y_01 b), .int no, .ref 155] G C S K0 := by
      intro G b e
      refine w_go z_hl [] [190] 30 e.1 ?_
      intro H hH
      have e2 := y_st e hH (by repeat (first | exact w_nil | refine w_cons (Or.inl (y_m rfl)) ?_ | refine w_cons (Or.inr (by assumption)) ?_)) (by repeat (first | exact w_nil | refine w_cons (Or.inl (y_m rfl)) ?_ | refine w_cons (Or.inr (by assumption)) ?_))
      refine q_nowWith (b := b) (y_wc_fr s e2 rfl rfl rfl) (fun r H2 e3 r0 r8 => ⟨fun n e => (by cases e), ?_⟩)
      exact T43 (y_sq e2 e3 rfl rfl) r0 r8
    have e0 : y_fr h h [] [] := y_rf s.1
    refine w_go z_hl [20, 39] [] 30 s.1 ?_
    refine ⟨fun q => ?_, fun _ => ⟨fun _ => fun H hH => T39 (b := false) (y_st e0 hH (by repeat (first | exact w_nil | refine w_cons (Or.inl (y_m rfl)) ?_ | refine w_cons (Or.inr (by assumption)) ?_)) (by repeat (first | exact w_nil | refine w_cons (Or.inl (y_m rfl)) ?_ | refine w_cons (Or.inr (by assumption)) ?_))), fun _ => fun H hH => T39 (b := true) (y_st e0 hH (by repeat (first | exact w_nil | refine w_cons (Or.inl (y_m rfl)) ?_ | refine w_cons (Or.inr (by assumption)) ?_)) (by repeat (first | exact w_nil | refine w_cons (Or.inl (y_m rfl)) ?_ | refine w_cons (Or.inr (by assumption)) ?_)))⟩⟩
    have q2 : (Int32.ofInt 2).toInt ≤ kI.toInt := (y_ci .ge _ _).mp q
    rw [show (Int32.ofInt 2).toInt = 2 by decide] at q2
    omega
theorem q_worthOf (s : y_wc h nd sa wl) {cl no : Int32} (hK : ∀ (r : Int64) (H : aH), y_fr h H [] [] → 0 ≤ r.toInt → r.toInt ≤ 20000000000000000 → K0 (some (.long r)) H C S) : aOK s_P X (d + 4) a_m205 0 [some (.ref 155), some (.int cl), some (.int no), none, none, none, none, none, none, none, none, none, none, none] [] h C S K0 := by
  have T15 : ∀ {G : aH} {whole wi : Int64}, y_fr h G [] [] → 0 ≤ whole.toInt → whole.toInt ≤ 100000000 → 0 ≤ wi.toInt → wi.toInt ≤ 100000000 → aOK s_P X (d + 4) a_m205 15 [some (.ref 155), some (.int cl), some (.int no), some (.long (Int64.ofNat 0)), none, some (.long whole), none, none, none, none, none, none, none, none] [.long wi] G C S K0 := by
    intro G whole wi e w0 w8 v0 v8
    refine w_go z_hl [20] [] 30 e.1 ?_
    intro H hH
    have e2 := y_st e hH (by repeat (first | exact w_nil | refine w_cons (Or.inl (y_m rfl)) ?_ | refine w_cons (Or.inr (by assumption)) ?_)) (by repeat (first | exact w_nil | refine w_cons (Or.inl (y_m rfl)) ?_ | refine w_cons (Or.inr (by assumption)) ?_))
    exact aOK_deep (d := d + 3) (by omega) (y_worth_loop w0 w8 v0 v8 2 H _ _ 0 _ _ (y_wc_fr s e2 rfl rfl rfl) rfl rfl (by decide) (by decide) (fun r H' f r0 r1 => hK r H' (y_sq e2 f rfl rfl) r0 r1))
  have T6 : ∀ {G : aH} {whole : Int64}, y_fr h G [] [] → 0 ≤ whole.toInt → whole.toInt ≤ 100000000 → aOK s_P X (d + 4) a_m205 6 [some (.ref 155), some (.int cl), some (.int no), some (.long (Int64.ofNat 0)), none, none, none, none, none, none, none, none, none, none] [.long whole] G C S K0 := by
    intro G whole e w0 w8
    refine w_go z_hl [] [190] 30 e.1 ?_
    intro H hH
    have e2 := y_st e hH (by repeat (first | exact w_nil | refine w_cons (Or.inl (y_m rfl)) ?_ | refine w_cons (Or.inr (by assumption)) ?_)) (by repeat (first | exact w_nil | refine w_cons (Or.inl (y_m rfl)) ?_ | refine w_cons (Or.inr (by assumption)) ?_))
    refine aOK_deep (d := d + 2) (by omega) (q_nowWith (b := true) (y_wc_fr s e2 rfl rfl rfl) (fun r H2 e3 r0 r8 => ⟨fun n e => (by cases e), ?_⟩))
    exact T15 (y_sq e2 e3 rfl rfl) w0 w8 r0 r8
  refine w_go z_hl [] [189] 30 s.1 ?_
  intro H hH
  have e : y_fr h H [] [] := y_st (y_rf s.1) hH (by repeat (first | exact w_nil | refine w_cons (Or.inl (y_m rfl)) ?_ | refine w_cons (Or.inr (by assumption)) ?_)) (by repeat (first | exact w_nil | refine w_cons (Or.inl (y_m rfl)) ?_ | refine w_cons (Or.inr (by assumption)) ?_))
  refine q_now (y_wc_fr s e rfl rfl rfl) (fun r H2 e3 r0 r8 => ⟨fun n e => (by cases e), ?_⟩)
  exact T6 (y_sq e e3 rfl rfl) r0 r8
theorem y_worth_tail (s : y_wc h nd sa wl) {cl no : Int32} (hk : ∀ (r : Int32) (H : aH), y_fr h H [19585, 19587, 19588] [154] → K0 (some (.int r)) H C S) : aOK s_P X (d + 5) a_m204 41 [some (.ref 155), some (.int cl), some (.int no), none, none] [] h C S K0 := by
  have T77 : ∀ {G : aH} {wh : Int64}, y_fr h G [19585, 19587, 19588] [154] → aOK s_P X (d + 5) a_m204 77 [some (.ref 155), some (.int cl), some (.int no), some (.long wh), none] [] G C S K0 := by
    intro G wh e
    refine w_go z_hl [] [] 30 e.1 ?_
    exact fun H hH => hk _ H (y_st e hH (by repeat (first | exact w_nil | refine w_cons (Or.inl (y_m rfl)) ?_ | refine w_cons (Or.inr (by assumption)) ?_)) (by repeat (first | exact w_nil | refine w_cons (Or.inl (y_m rfl)) ?_ | refine w_cons (Or.inr (by assumption)) ?_)))
  have T68 : ∀ {G : aH} {wh : Int64}, y_fr h G [19585, 19587, 19588] [154] → aOK s_P X (d + 5) a_m204 68 [some (.ref 155), some (.int cl), some (.int no), some (.long wh), none] [] G C S K0 := by
    intro G wh e
    refine w_go z_hl [] [196] 30 e.1 ?_
    refine ⟨rfl, y_zini (by decide) (by decide), fun H hH => ?_⟩
    have e2 := y_st e hH (by repeat (first | exact w_nil | refine w_cons (Or.inl (y_m rfl)) ?_ | refine w_cons (Or.inr (by assumption)) ?_)) (by repeat (first | exact w_nil | refine w_cons (Or.inl (y_m rfl)) ?_ | refine w_cons (Or.inr (by assumption)) ?_))
    refine y_tells e2.1 (hH.2.1 19585 _ rfl) (by decide) (by decide) (fun H2 r2 e3 _ _ => ⟨fun n e => (by cases e), ?_⟩)
    exact T77 (y_sq e2 e3 rfl rfl)
  have T62 : ∀ {G : aH} {wh x : Int64}, y_fr h G [19585, 19587, 19588] [154] → 1 ≤ wh.toInt → wh.toInt ≤ 100000000 → 0 ≤ x.toInt → aOK s_P X (d + 5) a_m204 62 [some (.ref 155), some (.int cl), some (.int no), some (.long wh), none] [.long x, .ref 155] G C S K0 := by
    intro G wh x e n1 n8 x0
    have m1 := y_m8 (show 0 ≤ wh.toInt by omega) n8 (show 0 ≤ wh.toInt by omega) n8
    have p1 : 1 ≤ wh.toInt * wh.toInt := Int.mul_pos (by omega) (by omega)
    refine w_go z_hl [] [194] 30 e.1 ?_
    intro H hH
    have e2 := y_st e hH (by repeat (first | exact w_nil | refine w_cons (Or.inl (y_m rfl)) ?_ | refine w_cons (Or.inr (by assumption)) ?_)) (by repeat (first | exact w_nil | refine w_cons (Or.inl (y_m rfl)) ?_ | refine w_cons (Or.inr (by assumption)) ?_))
    refine q_lowest (n := x) (m := wh * wh) e2.1 (by omega) (by rw [m1]; exact p1) (fun u l H2 e3 _ _ _ _ _ _ _ => ⟨fun n e => (by cases e), ?_⟩)
    exact T68 (y_sq e2 e3 rfl rfl)
  have T45 : ∀ {G : aH} {wh : Int64}, y_fr h G [19585, 19587, 19588] [154] → 0 ≤ wh.toInt → wh.toInt ≤ 100000000 → aOK s_P X (d + 5) a_m204 45 [some (.ref 155), some (.int cl), some (.int no), none, none] [.long wh] G C S K0 := by
    intro G wh e n0 n8
    refine w_go z_hl [] [205] 30 e.1 ?_
    refine ⟨fun q => fun H hH => ?_, fun _ => fun H hH => hk _ H (y_st e hH (by repeat (first | exact w_nil | refine w_cons (Or.inl (y_m rfl)) ?_ | refine w_cons (Or.inr (by assumption)) ?_)) (by repeat (first | exact w_nil | refine w_cons (Or.inl (y_m rfl)) ?_ | refine w_cons (Or.inr (by assumption)) ?_)))⟩
    have q2 : wh.toInt ≠ (Int64.ofNat 0).toInt := (y_cl .ne _ _).mp q
    rw [show (Int64.ofNat 0).toInt = 0 by decide] at q2
    have e2 := y_st e hH (by repeat (first | exact w_nil | refine w_cons (Or.inl (y_m rfl)) ?_ | refine w_cons (Or.inr (by assumption)) ?_)) (by repeat (first | exact w_nil | refine w_cons (Or.inl (y_m rfl)) ?_ | refine w_cons (Or.inr (by assumption)) ?_))
    refine q_worthOf (y_wc_fr s e2 rfl rfl rfl) (fun r H2 e3 r0 _ => ⟨fun n e => (by cases e), ?_⟩)
    exact T62 (y_sq e2 e3 rfl rfl) (by omega) n8 r0
  refine w_go z_hl [] [189] 30 s.1 ?_
  intro H hH
  have e : y_fr h H [19585, 19587, 19588] [154] := y_st (y_mo (y_rf s.1) rfl rfl) hH (by repeat (first | exact w_nil | refine w_cons (Or.inl (y_m rfl)) ?_ | refine w_cons (Or.inr (by assumption)) ?_)) (by repeat (first | exact w_nil | refine w_cons (Or.inl (y_m rfl)) ?_ | refine w_cons (Or.inr (by assumption)) ?_))
  refine aOK_deep (d := d + 3) (by omega) (q_now (y_wc_fr s e rfl rfl rfl) (fun r H2 e3 r0 r8 => ⟨fun n e => (by cases e), ?_⟩))
  exact T45 (y_sq e e3 rfl rfl) r0 r8
theorem p_worth (hr : w_hr z_D h) (hJ : y_J h) {cl no : Int32} (hk : ∀ (r : Int32) (H : aH), y_fr h H [19584, 19585, 19587, 19588] [154, 163] → y_J H → K0 (some (.int r)) H C S) : aOK s_P X (d + 5) a_m204 0 [some (.ref 155), some (.int cl), some (.int no), none, none] [] h C S K0 := by
  obtain ⟨nd, sm, so, sa, s1, s2, s3, s4, s5⟩ := id hJ.2.2.2.2.1
  obtain ⟨b1, b2⟩ := y_ndb hr s1
  have out : ∀ {G : aH} {r : Int32}, y_fr h G [19584] [] → K0 (some (.int r)) G C S := fun g => hk _ _ (y_mo g rfl rfl) (y_J_fr g rfl rfl hJ)
  have T18 : ∀ {G : aH} {v : Nat}, y_fr h G [19584] [] → no.toInt = v → v < 10 → aOK s_P X (d + 5) a_m204 18 [some (.ref 155), some (.int cl), some (.int no), none, none] [.int (y_01 true)] G C S K0 := by
    intro G v e hv v10
    refine w_go z_hl [] [188] 30 e.1 ?_
    refine ⟨fun q => absurd q (by decide), fun _ => ⟨⟨by omega, by omega⟩, fun l hl len bb => ⟨fun _ => fun H hH => out (y_st e hH (by repeat (first | exact w_nil | refine w_cons (Or.inl (y_m rfl)) ?_ | refine w_cons (Or.inr (by assumption)) ?_)) (by repeat (first | exact w_nil | refine w_cons (Or.inl (y_m rfl)) ?_ | refine w_cons (Or.inr (by assumption)) ?_))), fun _ => ⟨fun _ => fun H hH => ?_, fun _ => fun H hH => out (y_st e hH (by repeat (first | exact w_nil | refine w_cons (Or.inl (y_m rfl)) ?_ | refine w_cons (Or.inr (by assumption)) ?_)) (by repeat (first | exact w_nil | refine w_cons (Or.inl (y_m rfl)) ?_ | refine w_cons (Or.inr (by assumption)) ?_)))⟩⟩⟩⟩
    have e2 := y_st e hH (by repeat (first | exact w_nil | refine w_cons (Or.inl (y_m rfl)) ?_ | refine w_cons (Or.inr (by assumption)) ?_)) (by repeat (first | exact w_nil | refine w_cons (Or.inl (y_m rfl)) ?_ | refine w_cons (Or.inr (by assumption)) ?_))
    refine q_weighsUp e2.1 (y_J_fr e2 rfl rfl hJ) (fun wl H2 e3 J3 hw => ⟨fun n e => (by cases e), ?_⟩)
    have e4 : y_fr h H2 [19584] [163] := y_sq (y_mo e2 rfl rfl) e3 rfl rfl
    refine y_worth_tail ⟨e4.1, (y_fe e4 rfl).trans s1, (y_ae e4 rfl).trans s4, hw⟩ (fun r H5 e5 => ?_)
    exact hk r H5 (y_sq (y_mo e4 rfl rfl) e5 rfl rfl) (y_J_fr e5 rfl rfl J3)
  have T18n : ∀ {G : aH}, y_fr h G [19584] [] → aOK s_P X (d + 5) a_m204 18 [some (.ref 155), some (.int cl), some (.int no), none, none] [.int (y_01 false)] G C S K0 := by
    intro G e
    refine w_go z_hl [] [] 30 e.1 ?_
    exact ⟨fun _ => fun H hH => out (y_st e hH (by repeat (first | exact w_nil | refine w_cons (Or.inl (y_m rfl)) ?_ | refine w_cons (Or.inr (by assumption)) ?_)) (by repeat (first | exact w_nil | refine w_cons (Or.inl (y_m rfl)) ?_ | refine w_cons (Or.inr (by assumption)) ?_))), fun q => absurd q (by decide)⟩
  have T10 : ∀ {G : aH} {b : Bool}, y_fr h G [19584] [] → aOK s_P X (d + 5) a_m204 10 [some (.ref 155), some (.int cl), some (.int no), none, none] [.int (y_01 b)] G C S K0 := by
    intro G b e
    refine w_go z_hl [] [178] 30 e.1 ?_
    refine ⟨fun _ => fun H hH => out (y_st e hH (by repeat (first | exact w_nil | refine w_cons (Or.inl (y_m rfl)) ?_ | refine w_cons (Or.inr (by assumption)) ?_)) (by repeat (first | exact w_nil | refine w_cons (Or.inl (y_m rfl)) ?_ | refine w_cons (Or.inr (by assumption)) ?_))), fun _ => fun H hH => ?_⟩
    have e2 := y_st e hH (by repeat (first | exact w_nil | refine w_cons (Or.inl (y_m rfl)) ?_ | refine w_cons (Or.inr (by assumption)) ?_)) (by repeat (first | exact w_nil | refine w_cons (Or.inl (y_m rfl)) ?_ | refine w_cons (Or.inr (by assumption)) ?_))
    refine q_isNode (v := no) e2.1 ((y_fe e2 rfl).trans s1) (fun H2 v h2 hv hv2 hvc => ⟨fun n e => (by cases e), ?_⟩) (fun H2 h2 => ⟨fun n e => (by cases e), ?_⟩)
    · exact T18 (y_sq e2 h2 rfl rfl) hv (by omega)
    · exact T18n (y_sq e2 h2 rfl rfl)
  refine w_go z_hl [] [178] 30 hr ?_
  refine ⟨rfl, y_zini (by decide) (by decide), fun H1 h1 => ?_⟩
  have e1 : y_fr h H1 [19584] [] := y_st (y_mo (y_rf hr) rfl rfl) h1 (by repeat (first | exact w_nil | refine w_cons (Or.inl (y_m rfl)) ?_ | refine w_cons (Or.inr (by assumption)) ?_)) (by repeat (first | exact w_nil | refine w_cons (Or.inl (y_m rfl)) ?_ | refine w_cons (Or.inr (by assumption)) ?_))
  refine q_isNode (v := cl) e1.1 ((y_fe e1 rfl).trans s1) (fun H2 v h2 hv hv2 hvc => ⟨fun n e => (by cases e), ?_⟩) (fun H2 h2 => ⟨fun n e => (by cases e), ?_⟩)
  · exact T10 (y_sq e1 h2 rfl rfl)
  · exact T10 (y_sq e1 h2 rfl rfl)
theorem y_need_loop {cl : Int32} {wh : Int64} {co : List Int32} (w0 : 0 ≤ wh.toInt) (w8 : wh.toInt ≤ 100000000) (c1 : ∀ v : Nat, (v : Int) < nd.toInt → 1 ≤ y_N co v) : ∀ (m : Nat) (h : aH) (best vI : Int32) (bw : Int64) (k : Nat) (o8 : Option Value), y_wc h nd sa wl → w_a h 161 = some (0, .inl co) → vI.toInt = k → (k : Int) + m = nd.toInt → best.toInt < nd.toInt → 0 ≤ bw.toInt → bw.toInt ≤ 20000000000000000 → (∀ (r : Int32) (H : aH), y_fr h H [19585, 19587, 19588] [154] → K0 (some (.int r)) H C S) → aOK s_P X (d + 5) a_m207 32 [some (.ref 155), some (.int cl), some (.int best), some (.long bw), none, some (.long wh), none, some (.int vI), o8, none] [] h C S K0 := by
  intro m
  induction m with
  | zero =>
    intro h best vI bw k o8 s g hk hm b1 bw0 bw1 hK
    obtain ⟨n0, n10⟩ := y_ndb s.1 s.2.1
    have T168 : ∀ {G : aH}, y_fr h G [19585, 19587, 19588] [154] → aOK s_P X (d + 5) a_m207 168 [some (.ref 155), some (.int cl), some (.int best), some (.long bw), none, some (.long wh), none, some (.int vI), o8, none] [] G C S K0 := by
      intro G e
      refine w_go z_hl [] [] 30 e.1 ?_
      exact fun H hH => hK _ H (y_st e hH (by repeat (first | exact w_nil | refine w_cons (Or.inl (y_m rfl)) ?_ | refine w_cons (Or.inr (by assumption)) ?_)) (by repeat (first | exact w_nil | refine w_cons (Or.inl (y_m rfl)) ?_ | refine w_cons (Or.inr (by assumption)) ?_)))
    have T159 : ∀ {G : aH}, y_fr h G [19585, 19587, 19588] [154] → aOK s_P X (d + 5) a_m207 159 [some (.ref 155), some (.int cl), some (.int best), some (.long bw), none, some (.long wh), none, some (.int vI), o8, none] [] G C S K0 := by
      intro G e
      refine w_go z_hl [] [196] 30 e.1 ?_
      refine ⟨rfl, y_zini (by decide) (by decide), fun H hH => ?_⟩
      have e2 := y_st e hH (by repeat (first | exact w_nil | refine w_cons (Or.inl (y_m rfl)) ?_ | refine w_cons (Or.inr (by assumption)) ?_)) (by repeat (first | exact w_nil | refine w_cons (Or.inl (y_m rfl)) ?_ | refine w_cons (Or.inr (by assumption)) ?_))
      refine y_tells e2.1 (hH.2.1 19585 _ rfl) (by decide) (by decide) (fun H2 r2 e3 _ _ => ⟨fun n e => (by cases e), ?_⟩)
      exact T168 (y_sq e2 e3 rfl rfl)
    have T141 : ∀ {G : aH}, y_fr h G [19585, 19587, 19588] [154] → 0 ≤ best.toInt → 1 ≤ wh.toInt → aOK s_P X (d + 5) a_m207 141 [some (.ref 155), some (.int cl), some (.int best), some (.long bw), none, some (.long wh), none, some (.int vI), o8, none] [] G C S K0 := by
      intro G e b0 w1
      obtain ⟨bn, hb⟩ : ∃ bn : Nat, best.toInt = bn := ⟨best.toInt.toNat, by omega⟩
      have cb := y_cl1 hb
      refine w_go z_hl [] [194] 40 e.1 ?_
      refine ⟨⟨by omega, by omega⟩, fun l hl len bb => fun H hH => ?_⟩
      obtain rfl := y_ai ((y_ae e rfl).trans g) hl
      have hm := bb _ (z_gd (0 : Int32) (show best.toNatClampNeg < co.length by omega))
      have hc1 : 1 ≤ (co.getD best.toNatClampNeg 0).toInt := by rw [cb]; exact c1 bn (by omega)
      have hc9 : (co.getD best.toNatClampNeg 0).toInt ≤ 99 := hm.2
      have m1 := y_m8 w0 w8 w0 w8
      have p1 : 1 ≤ wh.toInt * wh.toInt := Int.mul_pos (by omega) (by omega)
      have p2 := y_p8 w0 w8 w0 w8
      have p3 : 1 ≤ (wh * wh).toInt * (co.getD best.toNatClampNeg 0).toInt64.toInt := by rw [m1, y_i2l]; exact Int.mul_pos (by omega) (by omega)
      have p4 : (wh * wh).toInt * (co.getD best.toNatClampNeg 0).toInt64.toInt ≤ 10000000000000000 * 99 := by rw [m1, y_i2l]; exact Int.mul_le_mul (by omega) hc9 (by omega) (by decide)
      have m2 := y_mul (a := wh * wh) (b := (co.getD best.toNatClampNeg 0).toInt64) (by omega) (by omega)
      have e2 := y_st e hH (by repeat (first | exact w_nil | refine w_cons (Or.inl (y_m rfl)) ?_ | refine w_cons (Or.inr (by assumption)) ?_)) (by repeat (first | exact w_nil | refine w_cons (Or.inl (y_m rfl)) ?_ | refine w_cons (Or.inr (by assumption)) ?_))
      refine q_lowest (n := bw) (m := wh * wh * (co.getD best.toNatClampNeg 0).toInt64) e2.1 (by omega) (by rw [m2]; exact p3) (fun u l H2 e3 _ _ _ _ _ _ _ => ⟨fun n e => (by cases e), ?_⟩)
      exact T159 (y_sq e2 e3 rfl rfl)
    have e0 : y_fr h h [19585, 19587, 19588] [154] := y_mo (y_rf s.1) rfl rfl
    refine w_go z_hl [32, 141] [] 40 s.1 ?_
    intro x hx _ _
    obtain rfl := y_fi s.2.1 hx
    refine ⟨fun _ => ⟨fun _ => ⟨fun _ => fun H hH => hK _ H (y_st e0 hH (by repeat (first | exact w_nil | refine w_cons (Or.inl (y_m rfl)) ?_ | refine w_cons (Or.inr (by assumption)) ?_)) (by repeat (first | exact w_nil | refine w_cons (Or.inl (y_m rfl)) ?_ | refine w_cons (Or.inr (by assumption)) ?_))), fun _ => fun H hH => hK _ H (y_st e0 hH (by repeat (first | exact w_nil | refine w_cons (Or.inl (y_m rfl)) ?_ | refine w_cons (Or.inr (by assumption)) ?_)) (by repeat (first | exact w_nil | refine w_cons (Or.inl (y_m rfl)) ?_ | refine w_cons (Or.inr (by assumption)) ?_)))⟩, fun q1 => ⟨fun q2 => fun H hH => ?_, fun _ => ⟨fun _ => fun H hH => hK _ H (y_st e0 hH (by repeat (first | exact w_nil | refine w_cons (Or.inl (y_m rfl)) ?_ | refine w_cons (Or.inr (by assumption)) ?_)) (by repeat (first | exact w_nil | refine w_cons (Or.inl (y_m rfl)) ?_ | refine w_cons (Or.inr (by assumption)) ?_))), fun _ => fun H hH => hK _ H (y_st e0 hH (by repeat (first | exact w_nil | refine w_cons (Or.inl (y_m rfl)) ?_ | refine w_cons (Or.inr (by assumption)) ?_)) (by repeat (first | exact w_nil | refine w_cons (Or.inl (y_m rfl)) ?_ | refine w_cons (Or.inr (by assumption)) ?_)))⟩⟩⟩, fun q => ?_⟩
    · have x1 : ¬ (best.toInt < (0 : Int32).toInt) := y_cif q1
      rw [show (0 : Int32).toInt = 0 by decide] at x1
      have x2 : wh.toInt ≠ (Int64.ofNat 0).toInt := (y_cl .ne _ _).mp q2
      rw [show (Int64.ofNat 0).toInt = 0 by decide] at x2
      exact T141 (y_st e0 hH (by repeat (first | exact w_nil | refine w_cons (Or.inl (y_m rfl)) ?_ | refine w_cons (Or.inr (by assumption)) ?_)) (by repeat (first | exact w_nil | refine w_cons (Or.inl (y_m rfl)) ?_ | refine w_cons (Or.inr (by assumption)) ?_))) (by omega) (by omega)
    · have : ¬ (nd.toInt ≤ vI.toInt) := y_cif q
      omega
  | succ m ih =>
    intro h best vI bw k o8 s g hk hm b1 bw0 bw1 hK
    obtain ⟨n0, n10⟩ := y_ndb s.1 s.2.1
    have ink : (vI + Int32.ofInt 1).toInt = ((k + 1 : Nat) : Int) := by rw [y_inc (by omega), hk]; rfl
    have next : ∀ {G : aH} {best' : Int32} {bw' : Int64} {o8 : Option Value}, y_fr h G [] [] → best'.toInt < nd.toInt → 0 ≤ bw'.toInt → bw'.toInt ≤ 20000000000000000 → aOK s_P X (d + 5) a_m207 113 [some (.ref 155), some (.int cl), some (.int best'), some (.long bw'), none, some (.long wh), none, some (.int vI), o8, none] [] G C S K0 := by
      intro G best' bw' o8 e x1 x2 x3
      refine w_go z_hl [32] [] 30 e.1 ?_
      intro H hH
      have e2 := y_st e hH (by repeat (first | exact w_nil | refine w_cons (Or.inl (y_m rfl)) ?_ | refine w_cons (Or.inr (by assumption)) ?_)) (by repeat (first | exact w_nil | refine w_cons (Or.inl (y_m rfl)) ?_ | refine w_cons (Or.inr (by assumption)) ?_))
      exact ih H _ _ _ (k + 1) _ (y_wc_fr s e2 rfl rfl rfl) ((y_ae e2 rfl).trans g) ink (by omega) x1 x2 x3 (fun r H' f => hK r H' (y_sq (y_mo e2 rfl rfl) f rfl rfl))
    have T77 : ∀ {G : aH} {its : Int64}, y_fr h G [] [] → 0 ≤ its.toInt → its.toInt ≤ 20000000000000000 → aOK s_P X (d + 5) a_m207 77 [some (.ref 155), some (.int cl), some (.int best), some (.long bw), none, some (.long wh), none, some (.int vI), o8, none] [.long its] G C S K0 := by
      intro G its e i0 i1
      refine w_go z_hl [113] [] 40 e.1 ?_
      refine ⟨fun _ => fun H hH => next (y_st e hH (by repeat (first | exact w_nil | refine w_cons (Or.inl (y_m rfl)) ?_ | refine w_cons (Or.inr (by assumption)) ?_)) (by repeat (first | exact w_nil | refine w_cons (Or.inl (y_m rfl)) ?_ | refine w_cons (Or.inr (by assumption)) ?_))) (by omega) i0 i1, fun q => ?_⟩
      have x1 : ¬ (best.toInt < (0 : Int32).toInt) := y_cif q
      rw [show (0 : Int32).toInt = 0 by decide] at x1
      refine ⟨⟨by omega, by omega⟩, fun l hl len bb => ⟨⟨by omega, by omega⟩, ⟨fun _ => fun H hH => next (y_st e hH (by repeat (first | exact w_nil | refine w_cons (Or.inl (y_m rfl)) ?_ | refine w_cons (Or.inr (by assumption)) ?_)) (by repeat (first | exact w_nil | refine w_cons (Or.inl (y_m rfl)) ?_ | refine w_cons (Or.inr (by assumption)) ?_))) b1 bw0 bw1, fun _ => fun H hH => next (y_st e hH (by repeat (first | exact w_nil | refine w_cons (Or.inl (y_m rfl)) ?_ | refine w_cons (Or.inr (by assumption)) ?_)) (by repeat (first | exact w_nil | refine w_cons (Or.inl (y_m rfl)) ?_ | refine w_cons (Or.inr (by assumption)) ?_))) (by omega) i0 i1⟩⟩⟩
    have e0 : y_fr h h [] [] := y_rf s.1
    refine w_go z_hl [32, 113] [205] 40 s.1 ?_
    intro x hx _ _
    obtain rfl := y_fi s.2.1 hx
    refine ⟨fun q => ?_, fun _ => ⟨fun _ => fun H hH => next (y_st e0 hH (by repeat (first | exact w_nil | refine w_cons (Or.inl (y_m rfl)) ?_ | refine w_cons (Or.inr (by assumption)) ?_)) (by repeat (first | exact w_nil | refine w_cons (Or.inl (y_m rfl)) ?_ | refine w_cons (Or.inr (by assumption)) ?_))) b1 bw0 bw1, fun _ => ⟨⟨by omega, by omega⟩, fun l hl len bb => ⟨fun _ => fun H hH => next (y_st e0 hH (by repeat (first | exact w_nil | refine w_cons (Or.inl (y_m rfl)) ?_ | refine w_cons (Or.inr (by assumption)) ?_)) (by repeat (first | exact w_nil | refine w_cons (Or.inl (y_m rfl)) ?_ | refine w_cons (Or.inr (by assumption)) ?_))) b1 bw0 bw1, fun _ => ⟨⟨by omega, by omega⟩, fun l2 hl2 len2 bb2 => ⟨fun _ => fun H hH => ?_, fun _ => fun H hH => next (y_st e0 hH (by repeat (first | exact w_nil | refine w_cons (Or.inl (y_m rfl)) ?_ | refine w_cons (Or.inr (by assumption)) ?_)) (by repeat (first | exact w_nil | refine w_cons (Or.inl (y_m rfl)) ?_ | refine w_cons (Or.inr (by assumption)) ?_))) b1 bw0 bw1⟩⟩⟩⟩⟩⟩
    · have : nd.toInt ≤ vI.toInt := (y_ci .ge _ _).mp q
      omega
    · have e2 := y_st e0 hH (by repeat (first | exact w_nil | refine w_cons (Or.inl (y_m rfl)) ?_ | refine w_cons (Or.inr (by assumption)) ?_)) (by repeat (first | exact w_nil | refine w_cons (Or.inl (y_m rfl)) ?_ | refine w_cons (Or.inr (by assumption)) ?_))
      refine q_worthOf (y_wc_fr s e2 rfl rfl rfl) (fun r H2 e3 r0 r1 => ⟨fun n e => (by cases e), ?_⟩)
      exact T77 (y_sq e2 e3 rfl rfl) r0 r1
theorem p_need (hr : w_hr z_D h) (hJ : y_J h) (hC : j_cost h) {cl : Int32} (hk : ∀ (r : Int32) (H : aH), y_fr h H [19584, 19585, 19587, 19588] [154, 163] → y_J H → K0 (some (.int r)) H C S) : aOK s_P X (d + 5) a_m207 0 [some (.ref 155), some (.int cl), none, none, none, none, none, none, none, none] [] h C S K0 := by
  obtain ⟨nd, sm, so, sa, s1, s2, s3, s4, s5⟩ := id hJ.2.2.2.2.1
  obtain ⟨b1, b2⟩ := y_ndb hr s1
  obtain ⟨ndc, co, knc, kcc, x1, x2, x3, x4, x5, x6⟩ := id hC
  obtain rfl := y_fi s1 x1
  have T27 : ∀ {G0 G : aH} {wl : List Int64} {wh : Int64}, y_fr h G0 [19584] [163] → y_J G0 → y_wl G0 wl → y_fr G0 G [] [] → 0 ≤ wh.toInt → wh.toInt ≤ 100000000 → aOK s_P X (d + 5) a_m207 27 [some (.ref 155), some (.int cl), some (.int (Int32.ofInt (-1))), some (.long (Int64.ofNat 0)), none, none, none, none, none, none] [.long wh] G C S K0 := by
    intro G0 G wl wh e0 J0 hw e w0 w8
    refine w_go z_hl [32] [] 30 e.1 ?_
    intro H hH
    have f : y_fr G0 H [] [] := y_st e hH (by repeat (first | exact w_nil | refine w_cons (Or.inl (y_m rfl)) ?_ | refine w_cons (Or.inr (by assumption)) ?_)) (by repeat (first | exact w_nil | refine w_cons (Or.inl (y_m rfl)) ?_ | refine w_cons (Or.inr (by assumption)) ?_))
    have f1 : y_fr h H [19584] [163] := y_sq e0 f rfl rfl
    refine y_need_loop w0 w8 x5 nd.toInt.toNat H _ _ _ 0 _ ⟨f.1, (y_fe f1 rfl).trans s1, (y_ae f1 rfl).trans s4, y_wl_fr f (fun q => by cases q) hw⟩ ((y_ae f1 rfl).trans x2) rfl (by omega) (by show (Int32.ofInt (-1)).toInt < _; rw [show (Int32.ofInt (-1)).toInt = -1 by decide]; omega) (by decide) (by decide) (fun r H5 e5 => ?_)
    exact hk r H5 (y_sq (y_mo f1 rfl rfl) e5 rfl rfl) (y_J_fr e5 rfl rfl (y_J_fr f rfl rfl J0))
  have T19 : ∀ {G0 : aH} {wl : List Int64}, y_fr h G0 [19584] [163] → y_J G0 → y_wl G0 wl → aOK s_P X (d + 5) a_m207 19 [some (.ref 155), some (.int cl), none, none, none, none, none, none, none, none] [] G0 C S K0 := by
    intro G0 wl e0 J0 hw
    refine w_go z_hl [] [189] 30 e0.1 ?_
    intro H hH
    have f : y_fr G0 H [] [] := y_st (y_rf e0.1) hH (by repeat (first | exact w_nil | refine w_cons (Or.inl (y_m rfl)) ?_ | refine w_cons (Or.inr (by assumption)) ?_)) (by repeat (first | exact w_nil | refine w_cons (Or.inl (y_m rfl)) ?_ | refine w_cons (Or.inr (by assumption)) ?_))
    have f1 : y_fr h H [19584] [163] := y_sq e0 f rfl rfl
    refine aOK_deep (d := d + 3) (by omega) (q_now ⟨f.1, (y_fe f1 rfl).trans s1, (y_ae f1 rfl).trans s4, y_wl_fr f (fun q => by cases q) hw⟩ (fun r H2 e3 r0 r8 => ⟨fun n e => (by cases e), ?_⟩))
    exact T27 e0 J0 hw (y_sq f e3 rfl rfl) r0 r8
  have T10 : ∀ {G : aH} {b : Bool}, y_fr h G [19584] [] → aOK s_P X (d + 5) a_m207 10 [some (.ref 155), some (.int cl), none, none, none, none, none, none, none, none] [.int (y_01 b)] G C S K0 := by
    intro G b e
    refine w_go z_hl [] [188] 30 e.1 ?_
    refine ⟨fun _ => fun H hH => ?_, fun _ => fun H hH => ?_⟩
    · have e2 := y_st e hH (by repeat (first | exact w_nil | refine w_cons (Or.inl (y_m rfl)) ?_ | refine w_cons (Or.inr (by assumption)) ?_)) (by repeat (first | exact w_nil | refine w_cons (Or.inl (y_m rfl)) ?_ | refine w_cons (Or.inr (by assumption)) ?_))
      refine q_weighsUp e2.1 (y_J_fr e2 rfl rfl hJ) (fun wl H2 e3 J3 hw => ⟨fun n e => (by cases e), ?_⟩)
      exact T19 (y_sq (y_mo e2 rfl rfl) e3 rfl rfl) J3 hw
    · have e2 := y_st e hH (by repeat (first | exact w_nil | refine w_cons (Or.inl (y_m rfl)) ?_ | refine w_cons (Or.inr (by assumption)) ?_)) (by repeat (first | exact w_nil | refine w_cons (Or.inl (y_m rfl)) ?_ | refine w_cons (Or.inr (by assumption)) ?_))
      exact hk _ H (y_mo e2 rfl rfl) (y_J_fr e2 rfl rfl hJ)
  refine w_go z_hl [] [178] 30 hr ?_
  refine ⟨rfl, y_zini (by decide) (by decide), fun H1 h1 => ?_⟩
  have e1 : y_fr h H1 [19584] [] := y_st (y_mo (y_rf hr) rfl rfl) h1 (by repeat (first | exact w_nil | refine w_cons (Or.inl (y_m rfl)) ?_ | refine w_cons (Or.inr (by assumption)) ?_)) (by repeat (first | exact w_nil | refine w_cons (Or.inl (y_m rfl)) ?_ | refine w_cons (Or.inr (by assumption)) ?_))
  refine q_isNode (v := cl) e1.1 ((y_fe e1 rfl).trans s1) (fun H2 v h2 hv hv2 hvc => ⟨fun n e => (by cases e), ?_⟩) (fun H2 h2 => ⟨fun n e => (by cases e), ?_⟩)
  · exact T10 (y_sq e1 h2 rfl rfl)
  · exact T10 (y_sq e1 h2 rfl rfl)
end WG
end PT30c
section PT30d
/-! ===== v3: the reference's even, joined, bounds ===== -/
section WG
variable {X : aX} {C S d : Nat} {K0 : Option Value → aH → Nat → Nat → Prop} {h : aH} {nd : Int32} {sa : List Int32} {wl : List Int64}
theorem y_even_loop {a b gv : Int32} : ∀ (m : Nat) (h : aH) (sI : Int32) (o5 o6 o8 o10 : Option Value), y_wc h nd sa wl → sI.toInt + 1 = m → (∀ (r : Int32) (H : aH), y_fr h H [] [] → K0 (some (.int r)) H C S) → aOK s_P X (d + 2) a_m213 24 [some (.ref 155), some (.int a), some (.int b), some (.int gv), some (.int sI), o5, o6, none, o8, none, o10, none] [] h C S K0 := by
  intro m
  induction m with
  | zero =>
    intro h sI o5 o6 o8 o10 s hm hK
    refine w_go z_hl [24] [] 30 s.1 ?_
    refine ⟨fun _ => fun H hH => hK _ H (y_st (y_rf s.1) hH (by repeat (first | exact w_nil | refine w_cons (Or.inl (y_m rfl)) ?_ | refine w_cons (Or.inr (by assumption)) ?_)) (by repeat (first | exact w_nil | refine w_cons (Or.inl (y_m rfl)) ?_ | refine w_cons (Or.inr (by assumption)) ?_))), fun q => ?_⟩
    have q2 : ¬ (sI.toInt < (0 : Int32).toInt) := y_cif q
    rw [show (0 : Int32).toInt = 0 by decide] at q2
    omega
  | succ m ih =>
    intro h sI o5 o6 o8 o10 s hm hK
    have ink : (sI + Int32.ofInt (-1)).toInt = sI.toInt - 1 := by
      have := sI.toInt_lt
      rw [Int32.toInt_add, show (Int32.ofInt (-1)).toInt = -1 by decide]
      exact Int.bmod_eq_of_le (by omega) (by omega)
    have next : ∀ {G : aH} {o5 o6 o8 o10 : Option Value}, y_fr h G [] [] → aOK s_P X (d + 2) a_m213 117 [some (.ref 155), some (.int a), some (.int b), some (.int gv), some (.int sI), o5, o6, none, o8, none, o10, none] [] G C S K0 := by
      intro G o5 o6 o8 o10 e
      refine w_go z_hl [24] [] 30 e.1 ?_
      intro H hH
      have e2 := y_st e hH (by repeat (first | exact w_nil | refine w_cons (Or.inl (y_m rfl)) ?_ | refine w_cons (Or.inr (by assumption)) ?_)) (by repeat (first | exact w_nil | refine w_cons (Or.inl (y_m rfl)) ?_ | refine w_cons (Or.inr (by assumption)) ?_))
      exact ih H _ _ _ _ _ (y_wc_fr s e2 rfl rfl rfl) (by show (sI + Int32.ofInt (-1)).toInt + 1 = _; omega) (fun r H' f => hK r H' (y_sq e2 f rfl rfl))
    have T105 : ∀ {G : aH} {x5 : Int32} {x6 x8 x10 y : Int64}, y_fr h G [] [] → aOK s_P X (d + 2) a_m213 105 [some (.ref 155), some (.int a), some (.int b), some (.int gv), some (.int sI), some (.int x5), some (.long x6), none, some (.long x8), none, some (.long x10), none] [.long y, .long x6] G C S K0 := by
      intro G x5 x6 x8 x10 y e
      refine w_go z_hl [117] [] 30 e.1 ?_
      exact ⟨fun _ => fun H hH => next (y_st e hH (by repeat (first | exact w_nil | refine w_cons (Or.inl (y_m rfl)) ?_ | refine w_cons (Or.inr (by assumption)) ?_)) (by repeat (first | exact w_nil | refine w_cons (Or.inl (y_m rfl)) ?_ | refine w_cons (Or.inr (by assumption)) ?_))), fun _ => fun H hH => hK _ H (y_st e hH (by repeat (first | exact w_nil | refine w_cons (Or.inl (y_m rfl)) ?_ | refine w_cons (Or.inr (by assumption)) ?_)) (by repeat (first | exact w_nil | refine w_cons (Or.inl (y_m rfl)) ?_ | refine w_cons (Or.inr (by assumption)) ?_)))⟩
    have T93 : ∀ {G : aH} {x5 : Int32} {x6 x8 x10 : Int64}, y_fr h G [] [] → aOK s_P X (d + 2) a_m213 93 [some (.ref 155), some (.int a), some (.int b), some (.int gv), some (.int sI), some (.int x5), some (.long x6), none, some (.long x8), none, o10, none] [.long x10] G C S K0 := by
      intro G x5 x6 x8 x10 e
      refine w_go z_hl [] [193] 30 e.1 ?_
      intro H hH
      have e2 := y_st e hH (by repeat (first | exact w_nil | refine w_cons (Or.inl (y_m rfl)) ?_ | refine w_cons (Or.inr (by assumption)) ?_)) (by repeat (first | exact w_nil | refine w_cons (Or.inl (y_m rfl)) ?_ | refine w_cons (Or.inr (by assumption)) ?_))
      refine q_weighs (y_wc_fr s e2 rfl rfl rfl) (fun r H2 e3 _ _ => ⟨fun n e => (by cases e), ?_⟩)
      exact T105 (y_sq e2 e3 rfl rfl)
    have T79 : ∀ {G : aH} {x5 : Int32} {x6 x8 : Int64}, y_fr h G [] [] → aOK s_P X (d + 2) a_m213 79 [some (.ref 155), some (.int a), some (.int b), some (.int gv), some (.int sI), some (.int x5), some (.long x6), none, o8, none, o10, none] [.long x8] G C S K0 := by
      intro G x5 x6 x8 e
      refine w_go z_hl [] [193] 30 e.1 ?_
      intro H hH
      have e2 := y_st e hH (by repeat (first | exact w_nil | refine w_cons (Or.inl (y_m rfl)) ?_ | refine w_cons (Or.inr (by assumption)) ?_)) (by repeat (first | exact w_nil | refine w_cons (Or.inl (y_m rfl)) ?_ | refine w_cons (Or.inr (by assumption)) ?_))
      refine q_weighs (y_wc_fr s e2 rfl rfl rfl) (fun r H2 e3 _ _ => ⟨fun n e => (by cases e), ?_⟩)
      exact T93 (y_sq e2 e3 rfl rfl)
    have T65 : ∀ {G : aH} {x5 : Int32} {x6 : Int64}, y_fr h G [] [] → aOK s_P X (d + 2) a_m213 65 [some (.ref 155), some (.int a), some (.int b), some (.int gv), some (.int sI), some (.int x5), o6, none, o8, none, o10, none] [.long x6] G C S K0 := by
      intro G x5 x6 e
      refine w_go z_hl [] [193] 30 e.1 ?_
      intro H hH
      have e2 := y_st e hH (by repeat (first | exact w_nil | refine w_cons (Or.inl (y_m rfl)) ?_ | refine w_cons (Or.inr (by assumption)) ?_)) (by repeat (first | exact w_nil | refine w_cons (Or.inl (y_m rfl)) ?_ | refine w_cons (Or.inr (by assumption)) ?_))
      refine q_weighs (y_wc_fr s e2 rfl rfl rfl) (fun r H2 e3 _ _ => ⟨fun n e => (by cases e), ?_⟩)
      exact T79 (y_sq e2 e3 rfl rfl)
    have T41 : ∀ {G : aH}, y_fr h G [] [] → aOK s_P X (d + 2) a_m213 41 [some (.ref 155), some (.int a), some (.int b), some (.int gv), some (.int sI), o5, o6, none, o8, none, o10, none] [] G C S K0 := by
      intro G e
      refine w_go z_hl [] [193] 30 e.1 ?_
      intro H hH
      have e2 := y_st e hH (by repeat (first | exact w_nil | refine w_cons (Or.inl (y_m rfl)) ?_ | refine w_cons (Or.inr (by assumption)) ?_)) (by repeat (first | exact w_nil | refine w_cons (Or.inl (y_m rfl)) ?_ | refine w_cons (Or.inr (by assumption)) ?_))
      refine q_weighs (y_wc_fr s e2 rfl rfl rfl) (fun r H2 e3 _ _ => ⟨fun n e => (by cases e), ?_⟩)
      exact T65 (y_sq e2 e3 rfl rfl)
    have e0 : y_fr h h [] [] := y_rf s.1
    refine w_go z_hl [24, 41, 117] [] 30 s.1 ?_
    refine ⟨fun q => ?_, fun _ => ⟨fun _ => fun H hH => T41 (y_st e0 hH (by repeat (first | exact w_nil | refine w_cons (Or.inl (y_m rfl)) ?_ | refine w_cons (Or.inr (by assumption)) ?_)) (by repeat (first | exact w_nil | refine w_cons (Or.inl (y_m rfl)) ?_ | refine w_cons (Or.inr (by assumption)) ?_))), fun _ => fun H hH => next (y_st e0 hH (by repeat (first | exact w_nil | refine w_cons (Or.inl (y_m rfl)) ?_ | refine w_cons (Or.inr (by assumption)) ?_)) (by repeat (first | exact w_nil | refine w_cons (Or.inl (y_m rfl)) ?_ | refine w_cons (Or.inr (by assumption)) ?_)))⟩⟩
    have q2 : sI.toInt < (0 : Int32).toInt := (y_ci .lt _ _).mp q
    rw [show (0 : Int32).toInt = 0 by decide] at q2
    omega
theorem p_even (hr : w_hr z_D h) (hJ : y_J h) {a b gv : Int32} (hk : ∀ (r : Int32) (H : aH), y_fr h H [19584] [163] → y_J H → K0 (some (.int r)) H C S) : aOK s_P X (d + 3) a_m213 0 [some (.ref 155), some (.int a), some (.int b), some (.int gv), none, none, none, none, none, none, none, none] [] h C S K0 := by
  obtain ⟨nd, sm, so, sa, s1, s2, s3, s4, s5⟩ := id hJ.2.2.2.2.1
  have T12 : ∀ {G : aH}, y_fr h G [19584] [] → 0 ≤ gv.toInt → aOK s_P X (d + 3) a_m213 12 [some (.ref 155), some (.int a), some (.int b), some (.int gv), none, none, none, none, none, none, none, none] [.int (Int32.ofInt 1)] G C S K0 := by
    intro G e g0
    refine w_go z_hl [] [188] 30 e.1 ?_
    refine ⟨fun _ => fun H hH => ?_, fun q => absurd q (by decide)⟩
    have e2 := y_st e hH (by repeat (first | exact w_nil | refine w_cons (Or.inl (y_m rfl)) ?_ | refine w_cons (Or.inr (by assumption)) ?_)) (by repeat (first | exact w_nil | refine w_cons (Or.inl (y_m rfl)) ?_ | refine w_cons (Or.inr (by assumption)) ?_))
    refine q_weighsUp e2.1 (y_J_fr e2 rfl rfl hJ) (fun wl H2 e3 J3 hw => ⟨fun n e => (by cases e), ?_⟩)
    have e4 : y_fr h H2 [19584] [163] := y_sq (y_mo e2 rfl rfl) e3 rfl rfl
    have go : aOK s_P X (d + 3) a_m213 21 [some (.ref 155), some (.int a), some (.int b), some (.int gv), none, none, none, none, none, none, none, none] [] H2 C S K0 := by
      refine w_go z_hl [24] [] 30 e4.1 ?_
      intro H5 h5
      have f : y_fr H2 H5 [] [] := y_st (y_rf e4.1) h5 (by repeat (first | exact w_nil | refine w_cons (Or.inl (y_m rfl)) ?_ | refine w_cons (Or.inr (by assumption)) ?_)) (by repeat (first | exact w_nil | refine w_cons (Or.inl (y_m rfl)) ?_ | refine w_cons (Or.inr (by assumption)) ?_))
      have f1 : y_fr h H5 [19584] [163] := y_sq e4 f rfl rfl
      exact aOK_deep (d := d + 2) (by omega) (y_even_loop (gv.toInt + 1).toNat H5 _ _ _ _ _ ⟨f.1, (y_fe f1 rfl).trans s1, (y_ae f1 rfl).trans s4, y_wl_fr f (fun q => by cases q) hw⟩ (by omega) (fun r H6 e6 => hk r H6 (y_sq f1 e6 rfl rfl) (y_J_fr e6 rfl rfl (y_J_fr f rfl rfl J3))))
    exact go
  have T12n : ∀ {G : aH}, y_fr h G [19584] [] → aOK s_P X (d + 3) a_m213 12 [some (.ref 155), some (.int a), some (.int b), some (.int gv), none, none, none, none, none, none, none, none] [.int (Int32.ofInt 0)] G C S K0 := by
    intro G e
    refine w_go z_hl [] [] 30 e.1 ?_
    exact ⟨fun q => absurd q (by decide), fun _ => fun H hH => hk _ H (y_st (y_mo e rfl rfl) hH (by repeat (first | exact w_nil | refine w_cons (Or.inl (y_m rfl)) ?_ | refine w_cons (Or.inr (by assumption)) ?_)) (by repeat (first | exact w_nil | refine w_cons (Or.inl (y_m rfl)) ?_ | refine w_cons (Or.inr (by assumption)) ?_))) (y_J_fr (y_st e hH (by repeat (first | exact w_nil | refine w_cons (Or.inl (y_m rfl)) ?_ | refine w_cons (Or.inr (by assumption)) ?_)) (by repeat (first | exact w_nil | refine w_cons (Or.inl (y_m rfl)) ?_ | refine w_cons (Or.inr (by assumption)) ?_)) : y_fr h H [19584] []) rfl rfl hJ)⟩
  refine w_go z_hl [] [209] 30 hr ?_
  refine ⟨rfl, y_zini (by decide) (by decide), fun H1 h1 => ?_⟩
  have e1 : y_fr h H1 [19584] [] := y_st (y_mo (y_rf hr) rfl rfl) h1 (by repeat (first | exact w_nil | refine w_cons (Or.inl (y_m rfl)) ?_ | refine w_cons (Or.inr (by assumption)) ?_)) (by repeat (first | exact w_nil | refine w_cons (Or.inl (y_m rfl)) ?_ | refine w_cons (Or.inr (by assumption)) ?_))
  refine y_areTwo e1.1 ((y_fe e1 rfl).trans s1) (fun H2 h2 a0 a1 _ _ g0 => ⟨fun n e => (by cases e), ?_⟩) (fun H2 h2 => ⟨fun n e => (by cases e), ?_⟩)
  · exact T12 (y_sq e1 h2 rfl rfl) g0
  · exact T12n (y_sq e1 h2 rfl rfl)
theorem y_joined_loop {bits : Int32} {wh : Int64} (w1 : 1 ≤ wh.toInt) : ∀ (m : Nat) (h : aH) (n dd : Int64) (vI : Int32) (k : Nat) (o9 o11 : Option Value), y_wc h nd sa wl → vI.toInt = k → (k : Int) + m = nd.toInt → 0 ≤ n.toInt → 1 ≤ dd.toInt → (∀ (r : Int32) (H : aH), y_fr h H [19585, 19587, 19588, 19589] [154] → K0 (some (.int r)) H C S) → aOK s_P X (d + 3) a_m214 61 [some (.ref 155), some (.int bits), some (.long wh), none, some (.long n), none, some (.long dd), none, some (.int vI), o9, none, o11, none] [] h C S K0 := by
  intro m
  induction m with
  | zero =>
    intro h n dd vI k o9 o11 s hk hm n0 d1 hK
    have T194 : ∀ {G : aH}, y_fr h G [19585, 19587, 19588, 19589] [154] → aOK s_P X (d + 3) a_m214 194 [some (.ref 155), some (.int bits), some (.long wh), none, some (.long n), none, some (.long dd), none, some (.int vI), o9, none, o11, none] [] G C S K0 := by
      intro G e
      refine w_go z_hl [] [] 30 e.1 ?_
      exact fun H hH => hK _ H (y_st e hH (by repeat (first | exact w_nil | refine w_cons (Or.inl (y_m rfl)) ?_ | refine w_cons (Or.inr (by assumption)) ?_)) (by repeat (first | exact w_nil | refine w_cons (Or.inl (y_m rfl)) ?_ | refine w_cons (Or.inr (by assumption)) ?_)))
    have T190 : ∀ {G : aH} {r1 : Int32}, y_fr h G [19585, 19587, 19588, 19589] [154] → w_f G 19585 = some (.int r1) → r1.toInt = 2 → aOK s_P X (d + 3) a_m214 190 [some (.ref 155), some (.int bits), some (.long wh), none, some (.long n), none, some (.long dd), none, some (.int vI), o9, none, o11, none] [] G C S K0 := by
      intro G r1 e g hr1
      refine w_go z_hl [] [196] 30 e.1 ?_
      intro H hH
      have f : y_fr G H [] [] := y_st (y_rf e.1) hH (by repeat (first | exact w_nil | refine w_cons (Or.inl (y_m rfl)) ?_ | refine w_cons (Or.inr (by assumption)) ?_)) (by repeat (first | exact w_nil | refine w_cons (Or.inl (y_m rfl)) ?_ | refine w_cons (Or.inr (by assumption)) ?_))
      refine y_tells f.1 ((y_fe f rfl).trans g) (by omega) (by omega) (fun H2 r2 e3 _ _ => ⟨fun n e => (by cases e), ?_⟩)
      exact T194 (y_sq (y_sq e f rfl rfl) e3 rfl rfl)
    have T186 : ∀ {G : aH} {r1 : Int32} {x : Int64}, y_fr h G [19585, 19587, 19588, 19589] [154] → w_f G 19585 = some (.int r1) → r1.toInt = 2 → 0 ≤ x.toInt → aOK s_P X (d + 3) a_m214 186 [some (.ref 155), some (.int bits), some (.long wh), none, some (.long n), none, some (.long dd), none, some (.int vI), o9, none, o11, none] [.long x, .ref 155] G C S K0 := by
      intro G r1 x e g hr1 x0
      refine w_go z_hl [] [194] 30 e.1 ?_
      intro H hH
      have f : y_fr G H [] [] := y_st (y_rf e.1) hH (by repeat (first | exact w_nil | refine w_cons (Or.inl (y_m rfl)) ?_ | refine w_cons (Or.inr (by assumption)) ?_)) (by repeat (first | exact w_nil | refine w_cons (Or.inl (y_m rfl)) ?_ | refine w_cons (Or.inr (by assumption)) ?_))
      refine q_lowest (n := x) (m := wh) f.1 (by omega) w1 (fun u l H2 e3 _ _ _ _ _ _ _ => ⟨fun n e => (by cases e), ?_⟩)
      exact T190 (y_sq (y_sq e f rfl rfl) e3 rfl rfl) ((y_fe e3 rfl).trans ((y_fe f rfl).trans g)) hr1
    have T183 : ∀ {G : aH} {r1 x y : Int32}, y_fr h G [19585, 19587, 19588, 19589] [154] → w_f G 19585 = some (.int r1) → r1.toInt = 2 → aOK s_P X (d + 3) a_m214 183 [some (.ref 155), some (.int bits), some (.long wh), none, some (.long n), none, some (.long dd), none, some (.int vI), o9, none, o11, none] [.int y, .int x, .ref 155, .ref 155] G C S K0 := by
      intro G r1 x y e g hr1
      refine w_go z_hl [] [193] 30 e.1 ?_
      intro H hH
      have f : y_fr G H [] [] := y_st (y_rf e.1) hH (by repeat (first | exact w_nil | refine w_cons (Or.inl (y_m rfl)) ?_ | refine w_cons (Or.inr (by assumption)) ?_)) (by repeat (first | exact w_nil | refine w_cons (Or.inl (y_m rfl)) ?_ | refine w_cons (Or.inr (by assumption)) ?_))
      have e2 := y_sq e f rfl rfl
      refine aOK_deep (d := d + 1) (by omega) (q_weighs (y_wc_fr s e2 rfl rfl rfl) (fun r H2 e3 r0 _ => ⟨fun n e => (by cases e), ?_⟩))
      exact T186 (y_sq e2 e3 rfl rfl) ((y_fe e3 rfl).trans ((y_fe f rfl).trans g)) hr1 r0
    have T176 : ∀ {G : aH} {r1 x : Int32}, y_fr h G [19585, 19587, 19588, 19589] [154] → w_f G 19585 = some (.int r1) → r1.toInt = 2 → aOK s_P X (d + 3) a_m214 176 [some (.ref 155), some (.int bits), some (.long wh), none, some (.long n), none, some (.long dd), none, some (.int vI), o9, none, o11, none] [.int x, .ref 155, .ref 155] G C S K0 := by
      intro G r1 x e g hr1
      refine w_go z_hl [] [192] 30 e.1 ?_
      intro H hH
      have f : y_fr G H [] [] := y_st (y_rf e.1) hH (by repeat (first | exact w_nil | refine w_cons (Or.inl (y_m rfl)) ?_ | refine w_cons (Or.inr (by assumption)) ?_)) (by repeat (first | exact w_nil | refine w_cons (Or.inl (y_m rfl)) ?_ | refine w_cons (Or.inr (by assumption)) ?_))
      have e2 := y_sq e f rfl rfl
      have s2 := y_wc_fr s e2 rfl rfl rfl
      refine y_seenNot s2.1 s2.2.1 s2.2.2.1 (fun H2 e3 => ⟨fun n e => (by cases e), ?_⟩)
      exact T183 (y_sq e2 e3 rfl rfl) ((y_fe e3 rfl).trans ((y_fe f rfl).trans g)) hr1
    have T169 : ∀ {G : aH} {r1 : Int32}, y_fr h G [19585, 19587, 19588, 19589] [154] → w_f G 19585 = some (.int r1) → r1.toInt = 2 → aOK s_P X (d + 3) a_m214 169 [some (.ref 155), some (.int bits), some (.long wh), none, some (.long n), none, some (.long dd), none, some (.int vI), o9, none, o11, none] [] G C S K0 := by
      intro G r1 e g hr1
      refine w_go z_hl [] [191] 30 e.1 ?_
      intro H hH
      have f : y_fr G H [] [] := y_st (y_rf e.1) hH (by repeat (first | exact w_nil | refine w_cons (Or.inl (y_m rfl)) ?_ | refine w_cons (Or.inr (by assumption)) ?_)) (by repeat (first | exact w_nil | refine w_cons (Or.inl (y_m rfl)) ?_ | refine w_cons (Or.inr (by assumption)) ?_))
      have e2 := y_sq e f rfl rfl
      have s2 := y_wc_fr s e2 rfl rfl rfl
      refine y_seenSo s2.1 s2.2.1 s2.2.2.1 (fun H2 e3 => ⟨fun n e => (by cases e), ?_⟩)
      exact T176 (y_sq e2 e3 rfl rfl) ((y_fe e3 rfl).trans ((y_fe f rfl).trans g)) hr1
    have T163 : ∀ {G : aH} {r1 : Int32}, y_fr h G [19585, 19587, 19588, 19589] [154] → w_f G 19585 = some (.int r1) → r1.toInt = 1 → aOK s_P X (d + 3) a_m214 163 [some (.ref 155), some (.int bits), some (.long wh), none, some (.long n), none, some (.long dd), none, some (.int vI), o9, none, o11, none] [] G C S K0 := by
      intro G r1 e g hr1
      refine w_go z_hl [] [197] 30 e.1 ?_
      intro H hH
      have f : y_fr G H [] [] := y_st (y_rf e.1) hH (by repeat (first | exact w_nil | refine w_cons (Or.inl (y_m rfl)) ?_ | refine w_cons (Or.inr (by assumption)) ?_)) (by repeat (first | exact w_nil | refine w_cons (Or.inl (y_m rfl)) ?_ | refine w_cons (Or.inr (by assumption)) ?_))
      refine y_enters f.1 ((y_fe f rfl).trans g) (by omega) (by omega) (fun H2 r2 e3 g3 hr3 => ⟨fun n e => (by cases e), ?_⟩)
      exact T169 (y_sq (y_sq e f rfl rfl) e3 rfl rfl) g3 (by omega)
    have T152 : ∀ {G : aH}, y_fr h G [19585, 19587, 19588, 19589] [154] → aOK s_P X (d + 3) a_m214 152 [some (.ref 155), some (.int bits), some (.long wh), none, some (.long n), none, some (.long dd), none, some (.int vI), o9, none, o11, none] [] G C S K0 := by
      intro G e
      refine w_go z_hl [] [197] 30 e.1 ?_
      refine ⟨rfl, y_zini (by decide) (by decide), fun H hH => ?_⟩
      have e2 := y_st e hH (by repeat (first | exact w_nil | refine w_cons (Or.inl (y_m rfl)) ?_ | refine w_cons (Or.inr (by assumption)) ?_)) (by repeat (first | exact w_nil | refine w_cons (Or.inl (y_m rfl)) ?_ | refine w_cons (Or.inr (by assumption)) ?_))
      refine y_enters e2.1 (hH.2.1 19585 _ rfl) (by decide) (by decide) (fun H2 r2 e3 g3 hr3 => ⟨fun n e => (by cases e), ?_⟩)
      exact T163 (y_sq e2 e3 rfl rfl) g3 (by rw [hr3]; decide)
    have e0 : y_fr h h [19585, 19587, 19588, 19589] [154] := y_mo (y_rf s.1) rfl rfl
    refine w_go z_hl [61, 152] [] 30 s.1 ?_
    intro x hx _ _
    obtain rfl := y_fi s.2.1 hx
    refine ⟨fun _ => ?_, fun q => ?_⟩
    · intro y hy _ _
      exact ⟨fun _ => fun H hH => T152 (y_st e0 hH (by repeat (first | exact w_nil | refine w_cons (Or.inl (y_m rfl)) ?_ | refine w_cons (Or.inr (by assumption)) ?_)) (by repeat (first | exact w_nil | refine w_cons (Or.inl (y_m rfl)) ?_ | refine w_cons (Or.inr (by assumption)) ?_))), fun _ => fun H hH => hK _ H (y_st e0 hH (by repeat (first | exact w_nil | refine w_cons (Or.inl (y_m rfl)) ?_ | refine w_cons (Or.inr (by assumption)) ?_)) (by repeat (first | exact w_nil | refine w_cons (Or.inl (y_m rfl)) ?_ | refine w_cons (Or.inr (by assumption)) ?_)))⟩
    · have : ¬ (nd.toInt ≤ vI.toInt) := y_cif q
      omega
  | succ m ih =>
    intro h n dd vI k o9 o11 s hk hm n0 d1 hK
    obtain ⟨nb0, nb10⟩ := y_ndb s.1 s.2.1
    have ink : (vI + Int32.ofInt 1).toInt = ((k + 1 : Nat) : Int) := by rw [y_inc (by omega), hk]; rfl
    have next : ∀ {G : aH} {n' dd' : Int64} {o9 o11 : Option Value}, y_fr h G [19585, 19587, 19588, 19589] [154] → 0 ≤ n'.toInt → 1 ≤ dd'.toInt → aOK s_P X (d + 3) a_m214 136 [some (.ref 155), some (.int bits), some (.long wh), none, some (.long n'), none, some (.long dd'), none, some (.int vI), o9, none, o11, none] [] G C S K0 := by
      intro G n' dd' o9 o11 e x0 x1
      refine w_go z_hl [61] [] 30 e.1 ?_
      intro H hH
      have e2 := y_st e hH (by repeat (first | exact w_nil | refine w_cons (Or.inl (y_m rfl)) ?_ | refine w_cons (Or.inr (by assumption)) ?_)) (by repeat (first | exact w_nil | refine w_cons (Or.inl (y_m rfl)) ?_ | refine w_cons (Or.inr (by assumption)) ?_))
      exact ih H _ _ _ (k + 1) _ _ (y_wc_fr s e2 rfl rfl rfl) ink (by omega) x0 x1 (fun r H' f => hK r H' (y_sq e2 f rfl rfl))
    have T124 : ∀ {G : aH} {p q u l : Int64}, y_fr h G [19585, 19587, 19588, 19589] [154] → w_f G 19587 = some (.long u) → w_f G 19588 = some (.long l) → 0 ≤ u.toInt → 1 ≤ l.toInt → aOK s_P X (d + 3) a_m214 124 [some (.ref 155), some (.int bits), some (.long wh), none, some (.long n), none, some (.long dd), none, some (.int vI), some (.long p), none, some (.long q), none] [] G C S K0 := by
      intro G p q u l e f1 f2 u0 l1
      refine w_go z_hl [136] [] 30 e.1 ?_
      intro x hx _ _
      obtain rfl := y_fl f1 hx
      intro y hy _ _
      obtain rfl := y_fl f2 hy
      exact fun H hH => next (y_st e hH (by repeat (first | exact w_nil | refine w_cons (Or.inl (y_m rfl)) ?_ | refine w_cons (Or.inr (by assumption)) ?_)) (by repeat (first | exact w_nil | refine w_cons (Or.inl (y_m rfl)) ?_ | refine w_cons (Or.inr (by assumption)) ?_))) u0 l1
    have T92 : ∀ {G : aH} {u l : Int64}, y_fr h G [19585, 19587, 19588, 19589] [154] → w_f G 19587 = some (.long u) → w_f G 19588 = some (.long l) → 0 ≤ u.toInt → 1 ≤ l.toInt → aOK s_P X (d + 3) a_m214 92 [some (.ref 155), some (.int bits), some (.long wh), none, some (.long n), none, some (.long dd), none, some (.int vI), o9, none, o11, none] [] G C S K0 := by
      intro G u l e f1 f2 u0 l1
      refine w_go z_hl [] [215] 40 e.1 ?_
      intro x hx _ _
      obtain rfl := y_fl f1 hx
      intro y hy _ _
      obtain rfl := y_fl f2 hy
      refine ⟨rfl, y_zin (y_l64 n).1 (y_l64 n).2, rfl, y_zin (by show 0 ≤ dd.toInt; omega) (y_l64 dd).2, fun H hH => ?_⟩
      have e2 := y_st e hH (by repeat (first | exact w_nil | refine w_cons (Or.inl (y_m rfl)) ?_ | refine w_cons (Or.inr (by assumption)) ?_)) (by repeat (first | exact w_nil | refine w_cons (Or.inl (y_m rfl)) ?_ | refine w_cons (Or.inr (by assumption)) ?_))
      refine y_times (n := u) (m := l) e2.1 u0 l1 (hH.2.1 19587 _ rfl) (hH.2.1 19588 _ rfl) n0 d1 (fun u' l' H2 a0 b0 a1 b1 g1 g2 e3 => ⟨fun n e => (by cases e), ?_⟩)
      exact T124 (y_sq e2 e3 rfl rfl) g1 g2 a0 b0
    have T88 : ∀ {G : aH} {x : Int64}, y_fr h G [19585, 19587, 19588, 19589] [154] → 0 ≤ x.toInt → aOK s_P X (d + 3) a_m214 88 [some (.ref 155), some (.int bits), some (.long wh), none, some (.long n), none, some (.long dd), none, some (.int vI), o9, none, o11, none] [.long x, .ref 155] G C S K0 := by
      intro G x e x0
      refine w_go z_hl [] [194] 30 e.1 ?_
      intro H hH
      have e2 := y_st e hH (by repeat (first | exact w_nil | refine w_cons (Or.inl (y_m rfl)) ?_ | refine w_cons (Or.inr (by assumption)) ?_)) (by repeat (first | exact w_nil | refine w_cons (Or.inl (y_m rfl)) ?_ | refine w_cons (Or.inr (by assumption)) ?_))
      refine q_lowest (n := x) (m := wh) e2.1 (by omega) w1 (fun u l H2 e3 g1 g2 g3 g4 g5 g6 g7 => ⟨fun n e => (by cases e), ?_⟩)
      exact T92 (y_sq e2 e3 rfl rfl) g1 g2 (g7 x0) g3
    have e0 : y_fr h h [19585, 19587, 19588, 19589] [154] := y_mo (y_rf s.1) rfl rfl
    have T79 : ∀ {G : aH}, y_fr h G [19585, 19587, 19588, 19589] [154] → aOK s_P X (d + 3) a_m214 79 [some (.ref 155), some (.int bits), some (.long wh), none, some (.long n), none, some (.long dd), none, some (.int vI), o9, none, o11, none] [] G C S K0 := by
      intro G e
      refine w_go z_hl [] [190] 30 e.1 ?_
      intro H hH
      have e2 := y_st e hH (by repeat (first | exact w_nil | refine w_cons (Or.inl (y_m rfl)) ?_ | refine w_cons (Or.inr (by assumption)) ?_)) (by repeat (first | exact w_nil | refine w_cons (Or.inl (y_m rfl)) ?_ | refine w_cons (Or.inr (by assumption)) ?_))
      refine q_nowWith (b := true) (y_wc_fr s e2 rfl rfl rfl) (fun r H2 e3 r0 _ => ⟨fun n e => (by cases e), ?_⟩)
      exact T88 (y_sq e2 e3 rfl rfl) r0
    refine w_go z_hl [61, 79, 136] [] 30 s.1 ?_
    intro x hx _ _
    obtain rfl := y_fi s.2.1 hx
    refine ⟨fun q => ?_, fun _ => ⟨fun _ => ⟨by decide, ⟨fun _ => fun H hH => next (y_st e0 hH (by repeat (first | exact w_nil | refine w_cons (Or.inl (y_m rfl)) ?_ | refine w_cons (Or.inr (by assumption)) ?_)) (by repeat (first | exact w_nil | refine w_cons (Or.inl (y_m rfl)) ?_ | refine w_cons (Or.inr (by assumption)) ?_))) n0 d1, fun q => absurd q (by decide)⟩⟩, fun _ => ⟨by decide, ⟨fun q => absurd q (by decide), fun _ => fun H hH => T79 (y_st e0 hH (by repeat (first | exact w_nil | refine w_cons (Or.inl (y_m rfl)) ?_ | refine w_cons (Or.inr (by assumption)) ?_)) (by repeat (first | exact w_nil | refine w_cons (Or.inl (y_m rfl)) ?_ | refine w_cons (Or.inr (by assumption)) ?_)))⟩⟩⟩⟩
    have : nd.toInt ≤ vI.toInt := (y_ci .ge _ _).mp q
    omega
theorem p_joined (hr : w_hr z_D h) (hJ : y_J h) {bits : Int32} (hk : ∀ (r : Int32) (H : aH), y_fr h H [19584, 19585, 19587, 19588, 19589] [154, 163] → y_J H → K0 (some (.int r)) H C S) : aOK s_P X (d + 4) a_m214 0 [some (.ref 155), some (.int bits), none, none, none, none, none, none, none, none, none, none, none] [] h C S K0 := by
  obtain ⟨nd, sm, so, sa, s1, s2, s3, s4, s5⟩ := id hJ.2.2.2.2.1
  obtain ⟨b1, b2⟩ := y_ndb hr s1
  have out : ∀ {G : aH} {r : Int32}, y_fr h G [19584] [] → K0 (some (.int r)) G C S := fun g => hk _ _ (y_mo g rfl rfl) (y_J_fr g rfl rfl hJ)
  have T27 : ∀ {G0 G : aH} {wl : List Int64} {wh : Int64}, y_fr h G0 [19584] [163] → y_J G0 → y_wl G0 wl → y_fr G0 G [] [] → 0 ≤ wh.toInt → aOK s_P X (d + 4) a_m214 27 [some (.ref 155), some (.int bits), none, none, none, none, none, none, none, none, none, none, none] [.long wh] G C S K0 := by
    intro G0 G wl wh e0 J0 hw e w0
    refine w_go z_hl [61] [] 40 e.1 ?_
    refine ⟨fun q => ⟨rfl, y_zini (by decide) (by decide), rfl, y_zin (by decide) (by decide), rfl, y_zin (by decide) (by decide), fun H hH => ?_⟩, fun _ => fun H hH => ?_⟩
    · have q2 : wh.toInt ≠ (Int64.ofNat 0).toInt := (y_cl .ne _ _).mp q
      rw [show (Int64.ofNat 0).toInt = 0 by decide] at q2
      have f : y_fr G0 H [19585, 19587, 19588, 19589] [154] := y_st (y_mo e rfl rfl) hH (by repeat (first | exact w_nil | refine w_cons (Or.inl (y_m rfl)) ?_ | refine w_cons (Or.inr (by assumption)) ?_)) (by repeat (first | exact w_nil | refine w_cons (Or.inl (y_m rfl)) ?_ | refine w_cons (Or.inr (by assumption)) ?_))
      have s0 : y_wc G0 nd sa wl := ⟨e0.1, (y_fe e0 rfl).trans s1, (y_ae e0 rfl).trans s4, hw⟩
      refine aOK_deep (d := d + 3) (by omega) (y_joined_loop (by omega) nd.toInt.toNat H _ _ _ 0 _ _ (y_wc_fr s0 f rfl rfl rfl) rfl (by omega) (by decide) (by decide) (fun r H5 e5 => ?_))
      have f5 := y_sq f e5 rfl rfl
      exact hk r H5 (y_sq (y_mo e0 rfl rfl) f5 rfl rfl) (y_J_fr f5 rfl rfl J0)
    · have f : y_fr G0 H [] [] := y_st e hH (by repeat (first | exact w_nil | refine w_cons (Or.inl (y_m rfl)) ?_ | refine w_cons (Or.inr (by assumption)) ?_)) (by repeat (first | exact w_nil | refine w_cons (Or.inl (y_m rfl)) ?_ | refine w_cons (Or.inr (by assumption)) ?_))
      exact hk _ H (y_sq (y_mo e0 rfl rfl) f rfl rfl) (y_J_fr f rfl rfl J0)
  have T23 : ∀ {G0 : aH} {wl : List Int64}, y_fr h G0 [19584] [163] → y_J G0 → y_wl G0 wl → aOK s_P X (d + 4) a_m214 23 [some (.ref 155), some (.int bits), none, none, none, none, none, none, none, none, none, none, none] [] G0 C S K0 := by
    intro G0 wl e0 J0 hw
    refine w_go z_hl [] [189] 30 e0.1 ?_
    intro H hH
    have f : y_fr G0 H [] [] := y_st (y_rf e0.1) hH (by repeat (first | exact w_nil | refine w_cons (Or.inl (y_m rfl)) ?_ | refine w_cons (Or.inr (by assumption)) ?_)) (by repeat (first | exact w_nil | refine w_cons (Or.inl (y_m rfl)) ?_ | refine w_cons (Or.inr (by assumption)) ?_))
    have f1 : y_fr h H [19584] [163] := y_sq e0 f rfl rfl
    refine q_now ⟨f.1, (y_fe f1 rfl).trans s1, (y_ae f1 rfl).trans s4, y_wl_fr f (fun q => by cases q) hw⟩ (fun r H2 e3 r0 r8 => ⟨fun n e => (by cases e), ?_⟩)
    exact T27 e0 J0 hw (y_sq f e3 rfl rfl) r0
  have T10 : ∀ {G : aH} {b : Bool}, y_fr h G [19584] [] → aOK s_P X (d + 4) a_m214 10 [some (.ref 155), some (.int bits), none, none, none, none, none, none, none, none, none, none, none] [.int (y_01 b)] G C S K0 := by
    intro G b e
    refine w_go z_hl [] [188] 30 e.1 ?_
    refine ⟨fun _ => fun H hH => out (y_st e hH (by repeat (first | exact w_nil | refine w_cons (Or.inl (y_m rfl)) ?_ | refine w_cons (Or.inr (by assumption)) ?_)) (by repeat (first | exact w_nil | refine w_cons (Or.inl (y_m rfl)) ?_ | refine w_cons (Or.inr (by assumption)) ?_))), fun _ => ⟨fun _ => fun H hH => ?_, fun _ => fun H hH => out (y_st e hH (by repeat (first | exact w_nil | refine w_cons (Or.inl (y_m rfl)) ?_ | refine w_cons (Or.inr (by assumption)) ?_)) (by repeat (first | exact w_nil | refine w_cons (Or.inl (y_m rfl)) ?_ | refine w_cons (Or.inr (by assumption)) ?_)))⟩⟩
    have e2 := y_st e hH (by repeat (first | exact w_nil | refine w_cons (Or.inl (y_m rfl)) ?_ | refine w_cons (Or.inr (by assumption)) ?_)) (by repeat (first | exact w_nil | refine w_cons (Or.inl (y_m rfl)) ?_ | refine w_cons (Or.inr (by assumption)) ?_))
    refine q_weighsUp e2.1 (y_J_fr e2 rfl rfl hJ) (fun wl H2 e3 J3 hw => ⟨fun n e => (by cases e), ?_⟩)
    exact T23 (y_sq (y_mo e2 rfl rfl) e3 rfl rfl) J3 hw
  refine w_go z_hl [] [174] 30 hr ?_
  refine ⟨rfl, y_zini (by decide) (by decide), fun H1 h1 => ?_⟩
  have e1 : y_fr h H1 [19584] [] := y_st (y_mo (y_rf hr) rfl rfl) h1 (by repeat (first | exact w_nil | refine w_cons (Or.inl (y_m rfl)) ?_ | refine w_cons (Or.inr (by assumption)) ?_)) (by repeat (first | exact w_nil | refine w_cons (Or.inl (y_m rfl)) ?_ | refine w_cons (Or.inr (by assumption)) ?_))
  refine q_isSet (v := bits) e1.1 ((y_fe e1 rfl).trans s1) (fun H2 v h2 hv hv2 hvc => ⟨fun n e => (by cases e), ?_⟩) (fun H2 h2 => ⟨fun n e => (by cases e), ?_⟩)
  · exact T10 (y_sq e1 h2 rfl rfl)
  · exact T10 (y_sq e1 h2 rfl rfl)
theorem y_bounds_loop {bits : Int32} {wh : Int64} (w1 : 1 ≤ wh.toInt) (w8 : wh.toInt ≤ 100000000) : ∀ (m : Nat) (h : aH) (su le : Int64) (vI : Int32) (k : Nat) (o9 : Option Value), y_wc h nd sa wl → vI.toInt = k → (k : Int) + m = nd.toInt → -((k : Int) * 100000000) ≤ su.toInt → su.toInt ≤ (k + 1) * 100000000 → 0 ≤ le.toInt → (∀ (r : Int32) (H : aH), y_fr h H [19585, 19587, 19588] [154] → K0 (some (.int r)) H C S) → aOK s_P X (d + 3) a_m217 46 [some (.ref 155), some (.int bits), some (.long wh), none, some (.long su), none, some (.long le), none, some (.int vI), o9, none] [] h C S K0 := by
  intro m
  induction m with
  | zero =>
    intro h su le vI k o9 s hk hm u0 u1 l0 hK
    obtain ⟨nb0, nb10⟩ := y_ndb s.1 s.2.1
    have T129 : ∀ {G : aH}, y_fr h G [19585, 19587, 19588] [154] → aOK s_P X (d + 3) a_m217 129 [some (.ref 155), some (.int bits), some (.long wh), none, some (.long su), none, some (.long le), none, some (.int vI), o9, none] [] G C S K0 := by
      intro G e
      refine w_go z_hl [] [] 30 e.1 ?_
      exact fun H hH => hK _ H (y_st e hH (by repeat (first | exact w_nil | refine w_cons (Or.inl (y_m rfl)) ?_ | refine w_cons (Or.inr (by assumption)) ?_)) (by repeat (first | exact w_nil | refine w_cons (Or.inl (y_m rfl)) ?_ | refine w_cons (Or.inr (by assumption)) ?_)))
    have T125 : ∀ {G : aH} {r1 : Int32}, y_fr h G [19585, 19587, 19588] [154] → w_f G 19585 = some (.int r1) → r1.toInt = 2 → aOK s_P X (d + 3) a_m217 125 [some (.ref 155), some (.int bits), some (.long wh), none, some (.long su), none, some (.long le), none, some (.int vI), o9, none] [] G C S K0 := by
      intro G r1 e g hr1
      refine w_go z_hl [] [196] 30 e.1 ?_
      intro H hH
      have f : y_fr G H [] [] := y_st (y_rf e.1) hH (by repeat (first | exact w_nil | refine w_cons (Or.inl (y_m rfl)) ?_ | refine w_cons (Or.inr (by assumption)) ?_)) (by repeat (first | exact w_nil | refine w_cons (Or.inl (y_m rfl)) ?_ | refine w_cons (Or.inr (by assumption)) ?_))
      refine y_tells f.1 ((y_fe f rfl).trans g) (by omega) (by omega) (fun H2 r2 e3 _ _ => ⟨fun n e => (by cases e), ?_⟩)
      exact T129 (y_sq (y_sq e f rfl rfl) e3 rfl rfl)
    have T118 : ∀ {G : aH} {r1 : Int32}, y_fr h G [19585, 19587, 19588] [154] → w_f G 19585 = some (.int r1) → r1.toInt = 2 → aOK s_P X (d + 3) a_m217 118 [some (.ref 155), some (.int bits), some (.long wh), none, some (.long su), none, some (.long le), none, some (.int vI), o9, none] [] G C S K0 := by
      intro G r1 e g hr1
      refine w_go z_hl [] [194] 30 e.1 ?_
      intro H hH
      have f : y_fr G H [] [] := y_st (y_rf e.1) hH (by repeat (first | exact w_nil | refine w_cons (Or.inl (y_m rfl)) ?_ | refine w_cons (Or.inr (by assumption)) ?_)) (by repeat (first | exact w_nil | refine w_cons (Or.inl (y_m rfl)) ?_ | refine w_cons (Or.inr (by assumption)) ?_))
      refine q_lowest (n := le) (m := wh) f.1 (by omega) w1 (fun u l H2 e3 _ _ _ _ _ _ _ => ⟨fun n e => (by cases e), ?_⟩)
      exact T125 (y_sq (y_sq e f rfl rfl) e3 rfl rfl) ((y_fe e3 rfl).trans ((y_fe f rfl).trans g)) hr1
    have T114 : ∀ {G : aH} {r1 : Int32}, y_fr h G [19585, 19587, 19588] [154] → w_f G 19585 = some (.int r1) → r1.toInt = 0 → aOK s_P X (d + 3) a_m217 114 [some (.ref 155), some (.int bits), some (.long wh), none, some (.long su), none, some (.long le), none, some (.int vI), o9, none] [] G C S K0 := by
      intro G r1 e g hr1
      refine w_go z_hl [] [196] 30 e.1 ?_
      intro H hH
      have f : y_fr G H [] [] := y_st (y_rf e.1) hH (by repeat (first | exact w_nil | refine w_cons (Or.inl (y_m rfl)) ?_ | refine w_cons (Or.inr (by assumption)) ?_)) (by repeat (first | exact w_nil | refine w_cons (Or.inl (y_m rfl)) ?_ | refine w_cons (Or.inr (by assumption)) ?_))
      refine y_tells f.1 ((y_fe f rfl).trans g) (by omega) (by omega) (fun H2 r2 e3 g3 hr3 => ⟨fun n e => (by cases e), ?_⟩)
      exact T118 (y_sq (y_sq e f rfl rfl) e3 rfl rfl) g3 (by omega)
    have T110 : ∀ {G : aH} {r1 : Int32} {x : Int64}, y_fr h G [19585, 19587, 19588] [154] → w_f G 19585 = some (.int r1) → r1.toInt = 0 → -2000000000 ≤ x.toInt → aOK s_P X (d + 3) a_m217 110 [some (.ref 155), some (.int bits), some (.long wh), none, some (.long su), none, some (.long le), none, some (.int vI), o9, none] [.long x, .ref 155] G C S K0 := by
      intro G r1 x e g hr1 x0
      refine w_go z_hl [] [194] 30 e.1 ?_
      intro H hH
      have f : y_fr G H [] [] := y_st (y_rf e.1) hH (by repeat (first | exact w_nil | refine w_cons (Or.inl (y_m rfl)) ?_ | refine w_cons (Or.inr (by assumption)) ?_)) (by repeat (first | exact w_nil | refine w_cons (Or.inl (y_m rfl)) ?_ | refine w_cons (Or.inr (by assumption)) ?_))
      refine q_lowest (n := x) (m := wh) f.1 (by omega) w1 (fun u l H2 e3 _ _ _ _ _ _ _ => ⟨fun n e => (by cases e), ?_⟩)
      exact T114 (y_sq (y_sq e f rfl rfl) e3 rfl rfl) ((y_fe e3 rfl).trans ((y_fe f rfl).trans g)) hr1
    have e0 : y_fr h h [19585, 19587, 19588] [154] := y_mo (y_rf s.1) rfl rfl
    refine w_go z_hl [46, 110] [] 40 s.1 ?_
    intro x hx _ _
    obtain rfl := y_fi s.2.1 hx
    refine ⟨fun _ => ⟨rfl, y_zini (by decide) (by decide), ⟨fun _ => fun H hH => T110 (y_st e0 hH (by repeat (first | exact w_nil | refine w_cons (Or.inl (y_m rfl)) ?_ | refine w_cons (Or.inr (by assumption)) ?_)) (by repeat (first | exact w_nil | refine w_cons (Or.inl (y_m rfl)) ?_ | refine w_cons (Or.inr (by assumption)) ?_))) (hH.2.1 19585 _ rfl) rfl (by omega), fun _ => fun H hH => T110 (y_st e0 hH (by repeat (first | exact w_nil | refine w_cons (Or.inl (y_m rfl)) ?_ | refine w_cons (Or.inr (by assumption)) ?_)) (by repeat (first | exact w_nil | refine w_cons (Or.inl (y_m rfl)) ?_ | refine w_cons (Or.inr (by assumption)) ?_))) (hH.2.1 19585 _ rfl) rfl (by decide)⟩⟩, fun q => ?_⟩
    have : ¬ (nd.toInt ≤ vI.toInt) := y_cif q
    omega
  | succ m ih =>
    intro h su le vI k o9 s hk hm u0 u1 l0 hK
    obtain ⟨nb0, nb10⟩ := y_ndb s.1 s.2.1
    have ink : (vI + Int32.ofInt 1).toInt = ((k + 1 : Nat) : Int) := by rw [y_inc (by omega), hk]; rfl
    have next : ∀ {G : aH} {su' le' : Int64} {o9 : Option Value}, y_fr h G [19585, 19587, 19588] [154] → -(((k + 1 : Nat) : Int) * 100000000) ≤ su'.toInt → su'.toInt ≤ ((k + 1 : Nat) + 1) * 100000000 → 0 ≤ le'.toInt → aOK s_P X (d + 3) a_m217 92 [some (.ref 155), some (.int bits), some (.long wh), none, some (.long su'), none, some (.long le'), none, some (.int vI), o9, none] [] G C S K0 := by
      intro G su' le' o9 e x0 x1 x2
      refine w_go z_hl [46] [] 30 e.1 ?_
      intro H hH
      have e2 := y_st e hH (by repeat (first | exact w_nil | refine w_cons (Or.inl (y_m rfl)) ?_ | refine w_cons (Or.inr (by assumption)) ?_)) (by repeat (first | exact w_nil | refine w_cons (Or.inl (y_m rfl)) ?_ | refine w_cons (Or.inr (by assumption)) ?_))
      exact ih H _ _ _ (k + 1) _ (y_wc_fr s e2 rfl rfl rfl) ink (by omega) x0 x1 x2 (fun r H' f => hK r H' (y_sq e2 f rfl rfl))
    have T72 : ∀ {G : aH} {x : Int64}, y_fr h G [19585, 19587, 19588] [154] → 0 ≤ x.toInt → x.toInt ≤ 100000000 → aOK s_P X (d + 3) a_m217 72 [some (.ref 155), some (.int bits), some (.long wh), none, some (.long su), none, some (.long le), none, some (.int vI), o9, none] [.long x] G C S K0 := by
      intro G x e x0 x8
      have a1 : (x - wh).toInt = x.toInt - wh.toInt := y_lsub (by omega) (by omega)
      have a2 : (su + (x - wh)).toInt = su.toInt + (x.toInt - wh.toInt) := by rw [y_add (by omega) (by omega), a1]
      refine w_go z_hl [92] [] 40 e.1 ?_
      refine ⟨fun _ => fun H hH => next (y_st e hH (by repeat (first | exact w_nil | refine w_cons (Or.inl (y_m rfl)) ?_ | refine w_cons (Or.inr (by assumption)) ?_)) (by repeat (first | exact w_nil | refine w_cons (Or.inl (y_m rfl)) ?_ | refine w_cons (Or.inr (by assumption)) ?_))) (by show _ ≤ (su + (x - wh)).toInt; omega) (by show (su + (x - wh)).toInt ≤ _; omega) x0, fun _ => fun H hH => next (y_st e hH (by repeat (first | exact w_nil | refine w_cons (Or.inl (y_m rfl)) ?_ | refine w_cons (Or.inr (by assumption)) ?_)) (by repeat (first | exact w_nil | refine w_cons (Or.inl (y_m rfl)) ?_ | refine w_cons (Or.inr (by assumption)) ?_))) (by show _ ≤ (su + (x - wh)).toInt; omega) (by show (su + (x - wh)).toInt ≤ _; omega) l0⟩
    have e0 : y_fr h h [19585, 19587, 19588] [154] := y_mo (y_rf s.1) rfl rfl
    have T64 : ∀ {G : aH}, y_fr h G [19585, 19587, 19588] [154] → aOK s_P X (d + 3) a_m217 64 [some (.ref 155), some (.int bits), some (.long wh), none, some (.long su), none, some (.long le), none, some (.int vI), o9, none] [] G C S K0 := by
      intro G e
      refine w_go z_hl [] [190] 30 e.1 ?_
      intro H hH
      have e2 := y_st e hH (by repeat (first | exact w_nil | refine w_cons (Or.inl (y_m rfl)) ?_ | refine w_cons (Or.inr (by assumption)) ?_)) (by repeat (first | exact w_nil | refine w_cons (Or.inl (y_m rfl)) ?_ | refine w_cons (Or.inr (by assumption)) ?_))
      refine q_nowWith (b := true) (y_wc_fr s e2 rfl rfl rfl) (fun r H2 e3 r0 r8 => ⟨fun n e => (by cases e), ?_⟩)
      exact T72 (y_sq e2 e3 rfl rfl) r0 r8
    refine w_go z_hl [46, 64, 92] [] 30 s.1 ?_
    intro x hx _ _
    obtain rfl := y_fi s.2.1 hx
    refine ⟨fun q => ?_, fun _ => ⟨fun _ => ⟨by decide, ⟨fun _ => fun H hH => next (y_st e0 hH (by repeat (first | exact w_nil | refine w_cons (Or.inl (y_m rfl)) ?_ | refine w_cons (Or.inr (by assumption)) ?_)) (by repeat (first | exact w_nil | refine w_cons (Or.inl (y_m rfl)) ?_ | refine w_cons (Or.inr (by assumption)) ?_))) (by omega) (by omega) l0, fun q => absurd q (by decide)⟩⟩, fun _ => ⟨by decide, ⟨fun q => absurd q (by decide), fun _ => fun H hH => T64 (y_st e0 hH (by repeat (first | exact w_nil | refine w_cons (Or.inl (y_m rfl)) ?_ | refine w_cons (Or.inr (by assumption)) ?_)) (by repeat (first | exact w_nil | refine w_cons (Or.inl (y_m rfl)) ?_ | refine w_cons (Or.inr (by assumption)) ?_)))⟩⟩⟩⟩
    have : nd.toInt ≤ vI.toInt := (y_ci .ge _ _).mp q
    omega
theorem p_bounds (hr : w_hr z_D h) (hJ : y_J h) {bits : Int32} (hk : ∀ (r : Int32) (H : aH), y_fr h H [19584, 19585, 19587, 19588] [154, 163] → y_J H → K0 (some (.int r)) H C S) : aOK s_P X (d + 4) a_m217 0 [some (.ref 155), some (.int bits), none, none, none, none, none, none, none, none, none] [] h C S K0 := by
  obtain ⟨nd, sm, so, sa, s1, s2, s3, s4, s5⟩ := id hJ.2.2.2.2.1
  obtain ⟨b1, b2⟩ := y_ndb hr s1
  have out : ∀ {G : aH} {r : Int32}, y_fr h G [19584] [] → K0 (some (.int r)) G C S := fun g => hk _ _ (y_mo g rfl rfl) (y_J_fr g rfl rfl hJ)
  have T27 : ∀ {G0 G : aH} {wl : List Int64} {wh : Int64}, y_fr h G0 [19584] [163] → y_J G0 → y_wl G0 wl → y_fr G0 G [] [] → 0 ≤ wh.toInt → wh.toInt ≤ 100000000 → aOK s_P X (d + 4) a_m217 27 [some (.ref 155), some (.int bits), none, none, none, none, none, none, none, none, none] [.long wh] G C S K0 := by
    intro G0 G wl wh e0 J0 hw e w0 w8
    refine w_go z_hl [46] [] 40 e.1 ?_
    refine ⟨fun q => fun H hH => ?_, fun _ => fun H hH => ?_⟩
    · have q2 : wh.toInt ≠ (Int64.ofNat 0).toInt := (y_cl .ne _ _).mp q
      rw [show (Int64.ofNat 0).toInt = 0 by decide] at q2
      have f : y_fr G0 H [19585, 19587, 19588] [154] := y_st (y_mo e rfl rfl) hH (by repeat (first | exact w_nil | refine w_cons (Or.inl (y_m rfl)) ?_ | refine w_cons (Or.inr (by assumption)) ?_)) (by repeat (first | exact w_nil | refine w_cons (Or.inl (y_m rfl)) ?_ | refine w_cons (Or.inr (by assumption)) ?_))
      have s0 : y_wc G0 nd sa wl := ⟨e0.1, (y_fe e0 rfl).trans s1, (y_ae e0 rfl).trans s4, hw⟩
      refine aOK_deep (d := d + 3) (by omega) (y_bounds_loop (by omega) w8 nd.toInt.toNat H _ _ _ 0 _ (y_wc_fr s0 f rfl rfl rfl) rfl (by omega) (by omega) (by omega) w0 (fun r H5 e5 => ?_))
      have f5 := y_sq f e5 rfl rfl
      exact hk r H5 (y_sq (y_mo e0 rfl rfl) f5 rfl rfl) (y_J_fr f5 rfl rfl J0)
    · have f : y_fr G0 H [] [] := y_st e hH (by repeat (first | exact w_nil | refine w_cons (Or.inl (y_m rfl)) ?_ | refine w_cons (Or.inr (by assumption)) ?_)) (by repeat (first | exact w_nil | refine w_cons (Or.inl (y_m rfl)) ?_ | refine w_cons (Or.inr (by assumption)) ?_))
      exact hk _ H (y_sq (y_mo e0 rfl rfl) f rfl rfl) (y_J_fr f rfl rfl J0)
  have T23 : ∀ {G0 : aH} {wl : List Int64}, y_fr h G0 [19584] [163] → y_J G0 → y_wl G0 wl → aOK s_P X (d + 4) a_m217 23 [some (.ref 155), some (.int bits), none, none, none, none, none, none, none, none, none] [] G0 C S K0 := by
    intro G0 wl e0 J0 hw
    refine w_go z_hl [] [189] 30 e0.1 ?_
    intro H hH
    have f : y_fr G0 H [] [] := y_st (y_rf e0.1) hH (by repeat (first | exact w_nil | refine w_cons (Or.inl (y_m rfl)) ?_ | refine w_cons (Or.inr (by assumption)) ?_)) (by repeat (first | exact w_nil | refine w_cons (Or.inl (y_m rfl)) ?_ | refine w_cons (Or.inr (by assumption)) ?_))
    have f1 : y_fr h H [19584] [163] := y_sq e0 f rfl rfl
    refine q_now ⟨f.1, (y_fe f1 rfl).trans s1, (y_ae f1 rfl).trans s4, y_wl_fr f (fun q => by cases q) hw⟩ (fun r H2 e3 r0 r8 => ⟨fun n e => (by cases e), ?_⟩)
    exact T27 e0 J0 hw (y_sq f e3 rfl rfl) r0 r8
  have T10 : ∀ {G : aH} {b : Bool}, y_fr h G [19584] [] → aOK s_P X (d + 4) a_m217 10 [some (.ref 155), some (.int bits), none, none, none, none, none, none, none, none, none] [.int (y_01 b)] G C S K0 := by
    intro G b e
    refine w_go z_hl [] [188] 30 e.1 ?_
    refine ⟨fun _ => fun H hH => out (y_st e hH (by repeat (first | exact w_nil | refine w_cons (Or.inl (y_m rfl)) ?_ | refine w_cons (Or.inr (by assumption)) ?_)) (by repeat (first | exact w_nil | refine w_cons (Or.inl (y_m rfl)) ?_ | refine w_cons (Or.inr (by assumption)) ?_))), fun _ => ⟨fun _ => fun H hH => ?_, fun _ => fun H hH => out (y_st e hH (by repeat (first | exact w_nil | refine w_cons (Or.inl (y_m rfl)) ?_ | refine w_cons (Or.inr (by assumption)) ?_)) (by repeat (first | exact w_nil | refine w_cons (Or.inl (y_m rfl)) ?_ | refine w_cons (Or.inr (by assumption)) ?_)))⟩⟩
    have e2 := y_st e hH (by repeat (first | exact w_nil | refine w_cons (Or.inl (y_m rfl)) ?_ | refine w_cons (Or.inr (by assumption)) ?_)) (by repeat (first | exact w_nil | refine w_cons (Or.inl (y_m rfl)) ?_ | refine w_cons (Or.inr (by assumption)) ?_))
    refine q_weighsUp e2.1 (y_J_fr e2 rfl rfl hJ) (fun wl H2 e3 J3 hw => ⟨fun n e => (by cases e), ?_⟩)
    exact T23 (y_sq (y_mo e2 rfl rfl) e3 rfl rfl) J3 hw
  refine w_go z_hl [] [174] 30 hr ?_
  refine ⟨rfl, y_zini (by decide) (by decide), fun H1 h1 => ?_⟩
  have e1 : y_fr h H1 [19584] [] := y_st (y_mo (y_rf hr) rfl rfl) h1 (by repeat (first | exact w_nil | refine w_cons (Or.inl (y_m rfl)) ?_ | refine w_cons (Or.inr (by assumption)) ?_)) (by repeat (first | exact w_nil | refine w_cons (Or.inl (y_m rfl)) ?_ | refine w_cons (Or.inr (by assumption)) ?_))
  refine q_isSet (v := bits) e1.1 ((y_fe e1 rfl).trans s1) (fun H2 v h2 hv hv2 hvc => ⟨fun n e => (by cases e), ?_⟩) (fun H2 h2 => ⟨fun n e => (by cases e), ?_⟩)
  · exact T10 (y_sq e1 h2 rfl rfl)
  · exact T10 (y_sq e1 h2 rfl rfl)
end WG
end PT30d
section PT30e
/-! ===== v3: the reference's reach, leans ===== -/
theorem y_shl6 {sp : Int32} (h1 : 0 ≤ sp.toInt) (h2 : sp.toInt ≤ 10) : (Int32.ofInt 1 <<< (sp &&& 31)).toInt = (y_ways sp : Int) := by
  rcases y_small h1 h2 with rfl | rfl | rfl | rfl | rfl | rfl | rfl | rfl | rfl | rfl | rfl <;> decide
theorem y_spE {h : aH} (hr : w_hr z_D h) : ∃ sp : Int32, w_f h 19619 = some (.int sp) ∧ 0 ≤ sp.toInt ∧ sp.toInt ≤ 6 := by
  obtain ⟨vs, w, z1, z2, z3, z4⟩ := w_get1 hr (o := 153) (ci := 12) rfl (k := 35) rfl
  have e := w_f_at z1 (k := 35) (by decide)
  rcases z4 with ⟨-, x, ex, c1, c2⟩ | ⟨q, -⟩
  · exact ⟨x, by rw [show (19619 : Nat) = 153 * 128 + 35 by decide, e, z3, ex], c1, c2⟩
  · cases q
def y_re (h G : aH) (sp : Int32) : Prop := y_fr h G [19584, 19585, 19587, 19588] [154, 155, 158, 163, 176] ∧ y_J G ∧ w_f G 19619 = some (.int sp)
theorem y_re_fr {h G H : aH} {sp : Int32} {fs as : List Nat} (s : y_re h G sp) (f : y_fr G H fs as) (h1 : fs.all (fun x => [19584, 19585, 19587, 19588].elem x) = true) (h2 : as.all (fun x => [154, 155, 158, 163, 176].elem x) = true) (h3 : fs.elem 19619 = false) (J : y_J H) : y_re h H sp := ⟨y_sq s.1 f h1 h2, J, (y_fe f h3).trans s.2.2⟩
theorem y_re_f0 {h G H : aH} {sp : Int32} (s : y_re h G sp) (f : y_fr G H [] []) : y_re h H sp := y_re_fr s f rfl rfl rfl (y_J_fr f rfl rfl s.2.1)
theorem y_wcJ {h : aH} {wl : List Int64} (hr : w_hr z_D h) (hJ : y_J h) (hw : y_wl h wl) : ∃ nd sa, y_wc h nd sa wl := by
  obtain ⟨nd, sm, so, sa, s1, s2, s3, s4, s5⟩ := id hJ.2.2.2.2.1
  exact ⟨nd, sa, hr, s1, s4, hw⟩
section WG
variable {X : aX} {C S d : Nat} {K0 : Option Value → aH → Nat → Nat → Prop} {h : aH}
theorem y_reach_in {sp node what so bI : Int32} {bu bl : Int64} (s0 : 0 ≤ sp.toInt) (s6 : sp.toInt ≤ 6) : ∀ (m : Nat) (G : aH) (kI : Int32) (k : Nat) (o10 o11 o12 o13 : Option Value), y_re h G sp → kI.toInt = k → (k : Int) + m = sp.toInt → (∀ (H : aH) (k' : Int32) (o10 o11 o12 o13 : Option Value), y_re h H sp → aOK s_P X (d + 5) a_m250 82 [some (.ref 155), some (.int node), some (.int what), some (.int so), some (.long bu), none, some (.long bl), none, some (.int bI), some (.int k'), o10, o11, o12, o13] [] H C S K0) → aOK s_P X (d + 5) a_m250 54 [some (.ref 155), some (.int node), some (.int what), some (.int so), some (.long bu), none, some (.long bl), none, some (.int bI), some (.int kI), o10, o11, o12, o13] [] G C S K0 := by
  intro m
  induction m with
  | zero =>
    intro G kI k o10 o11 o12 o13 re hk hm hK
    refine w_go z_hl [54, 82] [] 30 re.1.1 ?_
    intro x hx _ _
    obtain rfl := y_fi re.2.2 hx
    refine ⟨fun _ => fun H hH => hK H _ _ _ _ _ (y_re_f0 re (y_st (y_rf re.1.1) hH (by repeat (first | exact w_nil | refine w_cons (Or.inl (y_m rfl)) ?_ | refine w_cons (Or.inr (by assumption)) ?_)) (by repeat (first | exact w_nil | refine w_cons (Or.inl (y_m rfl)) ?_ | refine w_cons (Or.inr (by assumption)) ?_)))), fun q => ?_⟩
    have : ¬ (sp.toInt ≤ kI.toInt) := y_cif q
    omega
  | succ m ih =>
    intro G kI k o10 o11 o12 o13 re hk hm hK
    have ink : (kI + Int32.ofInt 1).toInt = ((k + 1 : Nat) : Int) := by rw [y_inc (by omega), hk]; rfl
    have T76 : ∀ {H : aH}, y_re h H sp → aOK s_P X (d + 5) a_m250 76 [some (.ref 155), some (.int node), some (.int what), some (.int so), some (.long bu), none, some (.long bl), none, some (.int bI), some (.int kI), o10, o11, o12, o13] [] H C S K0 := by
      intro H re2
      refine w_go z_hl [54] [] 30 re2.1.1 ?_
      intro H2 h2
      exact ih H2 _ (k + 1) _ _ _ _ (y_re_f0 re2 (y_st (y_rf re2.1.1) h2 (by repeat (first | exact w_nil | refine w_cons (Or.inl (y_m rfl)) ?_ | refine w_cons (Or.inr (by assumption)) ?_)) (by repeat (first | exact w_nil | refine w_cons (Or.inl (y_m rfl)) ?_ | refine w_cons (Or.inr (by assumption)) ?_)))) ink (by omega) hK
    have T73 : ∀ {H : aH} {b : Int32}, y_re h H sp → aOK s_P X (d + 5) a_m250 73 [some (.ref 155), some (.int node), some (.int what), some (.int so), some (.long bu), none, some (.long bl), none, some (.int bI), some (.int kI), o10, o11, o12, o13] [.int b, .int kI, .ref 155] H C S K0 := by
      intro H b re2
      refine w_go z_hl [] [252] 30 re2.1.1 ?_
      intro H2 h2
      have f : y_fr H H2 [] [] := y_st (y_rf re2.1.1) h2 (by repeat (first | exact w_nil | refine w_cons (Or.inl (y_m rfl)) ?_ | refine w_cons (Or.inr (by assumption)) ?_)) (by repeat (first | exact w_nil | refine w_cons (Or.inl (y_m rfl)) ?_ | refine w_cons (Or.inr (by assumption)) ?_))
      have re3 := y_re_f0 re2 f
      refine y_lays re3.1.1 re3.2.1 (by omega) (by omega) (fun H3 f3 J3 => ⟨fun n e => (by cases e), ?_⟩)
      exact T76 (y_re_fr re3 f3 rfl rfl rfl J3)
    refine w_go z_hl [54, 73] [] 30 re.1.1 ?_
    intro x hx _ _
    obtain rfl := y_fi re.2.2 hx
    refine ⟨fun q => ?_, fun _ => ⟨fun _ => ⟨by decide, fun H hH => T73 (y_re_f0 re (y_st (y_rf re.1.1) hH (by repeat (first | exact w_nil | refine w_cons (Or.inl (y_m rfl)) ?_ | refine w_cons (Or.inr (by assumption)) ?_)) (by repeat (first | exact w_nil | refine w_cons (Or.inl (y_m rfl)) ?_ | refine w_cons (Or.inr (by assumption)) ?_))))⟩, fun _ => ⟨by decide, fun H hH => T73 (y_re_f0 re (y_st (y_rf re.1.1) hH (by repeat (first | exact w_nil | refine w_cons (Or.inl (y_m rfl)) ?_ | refine w_cons (Or.inr (by assumption)) ?_)) (by repeat (first | exact w_nil | refine w_cons (Or.inl (y_m rfl)) ?_ | refine w_cons (Or.inr (by assumption)) ?_))))⟩⟩⟩
    have : sp.toInt ≤ kI.toInt := (y_ci .ge _ _).mp q
    omega
theorem y_reach_loop {sp node what : Int32} (s0 : 0 ≤ sp.toInt) (s6 : sp.toInt ≤ 6) (hK : ∀ (r : Int32) (H : aH), y_fr h H [19584, 19585, 19587, 19588] [154, 155, 158, 163, 176] → y_J H → K0 (some (.int r)) H C S) : ∀ (m : Nat) (G : aH) (so bI : Int32) (bu bl : Int64) (k : Nat) (o9 o10 o11 o12 o13 : Option Value), y_re h G sp → bI.toInt = k → k + m = y_ways sp → 0 ≤ bu.toInt → 1 ≤ bl.toInt → aOK s_P X (d + 5) a_m250 40 [some (.ref 155), some (.int node), some (.int what), some (.int so), some (.long bu), none, some (.long bl), none, some (.int bI), o9, o10, o11, o12, o13] [] G C S K0 := by
  obtain ⟨-, y1, y2⟩ := y_all s0 (by omega : sp.toInt ≤ 10)
  have sh := y_shl6 s0 (by omega : sp.toInt ≤ 10)
  intro m
  induction m with
  | zero =>
    intro G so bI bu bl k o9 o10 o11 o12 o13 re hk hm u0 l1
    have T198 : ∀ {H : aH}, y_re h H sp → aOK s_P X (d + 5) a_m250 198 [some (.ref 155), some (.int node), some (.int what), some (.int so), some (.long bu), none, some (.long bl), none, some (.int bI), o9, o10, o11, o12, o13] [] H C S K0 := by
      intro H re2
      refine w_go z_hl [] [] 30 re2.1.1 ?_
      intro H2 h2
      have r3 := y_re_f0 re2 (y_st (y_rf re2.1.1) h2 (by repeat (first | exact w_nil | refine w_cons (Or.inl (y_m rfl)) ?_ | refine w_cons (Or.inr (by assumption)) ?_)) (by repeat (first | exact w_nil | refine w_cons (Or.inl (y_m rfl)) ?_ | refine w_cons (Or.inr (by assumption)) ?_)))
      exact hK _ H2 r3.1 r3.2.1
    have T189 : ∀ {H : aH}, y_re h H sp → aOK s_P X (d + 5) a_m250 189 [some (.ref 155), some (.int node), some (.int what), some (.int so), some (.long bu), none, some (.long bl), none, some (.int bI), o9, o10, o11, o12, o13] [] H C S K0 := by
      intro H re2
      refine w_go z_hl [] [196] 30 re2.1.1 ?_
      refine ⟨rfl, y_zini (by decide) (by decide), fun H2 h2 => ?_⟩
      have f : y_fr H H2 [19585] [] := y_st (y_mo (y_rf re2.1.1) rfl rfl) h2 (by repeat (first | exact w_nil | refine w_cons (Or.inl (y_m rfl)) ?_ | refine w_cons (Or.inr (by assumption)) ?_)) (by repeat (first | exact w_nil | refine w_cons (Or.inl (y_m rfl)) ?_ | refine w_cons (Or.inr (by assumption)) ?_))
      refine y_tells f.1 (h2.2.1 19585 _ rfl) (by decide) (by decide) (fun H3 r2 e3 _ _ => ⟨fun n e => (by cases e), ?_⟩)
      have f2 : y_fr H H3 [19585] [154] := y_sq (y_mo f rfl rfl) e3 rfl rfl
      exact T198 (y_re_fr re2 f2 rfl rfl rfl (y_J_fr f2 rfl rfl re2.2.1))
    have T174 : ∀ {H : aH}, y_re h H sp → aOK s_P X (d + 5) a_m250 174 [some (.ref 155), some (.int node), some (.int what), some (.int so), some (.long bu), none, some (.long bl), none, some (.int bI), o9, o10, o11, o12, o13] [] H C S K0 := by
      intro H re2
      refine w_go z_hl [] [194] 30 re2.1.1 ?_
      refine ⟨fun _ => fun H2 h2 => ?_, fun _ => fun H2 h2 => ?_⟩
      · have f : y_fr H H2 [] [] := y_st (y_rf re2.1.1) h2 (by repeat (first | exact w_nil | refine w_cons (Or.inl (y_m rfl)) ?_ | refine w_cons (Or.inr (by assumption)) ?_)) (by repeat (first | exact w_nil | refine w_cons (Or.inl (y_m rfl)) ?_ | refine w_cons (Or.inr (by assumption)) ?_))
        refine q_lowest (n := bu) (m := bl) f.1 (by omega) l1 (fun u l H3 e3 _ _ _ _ _ _ _ => ⟨fun n e => (by cases e), ?_⟩)
        have f2 : y_fr H H3 [19587, 19588] [] := y_sq (y_mo f rfl rfl) e3 rfl rfl
        exact T189 (y_re_fr re2 f2 rfl rfl rfl (y_J_fr f2 rfl rfl re2.2.1))
      · have r3 := y_re_f0 re2 (y_st (y_rf re2.1.1) h2 (by repeat (first | exact w_nil | refine w_cons (Or.inl (y_m rfl)) ?_ | refine w_cons (Or.inr (by assumption)) ?_)) (by repeat (first | exact w_nil | refine w_cons (Or.inl (y_m rfl)) ?_ | refine w_cons (Or.inr (by assumption)) ?_)))
        exact hK _ H2 r3.1 r3.2.1
    have T170 : ∀ {H : aH}, y_re h H sp → aOK s_P X (d + 5) a_m250 170 [some (.ref 155), some (.int node), some (.int what), some (.int so), some (.long bu), none, some (.long bl), none, some (.int bI), o9, o10, o11, o12, o13] [] H C S K0 := by
      intro H re2
      refine w_go z_hl [] [253] 30 re2.1.1 ?_
      intro H2 h2
      have r3 := y_re_f0 re2 (y_st (y_rf re2.1.1) h2 (by repeat (first | exact w_nil | refine w_cons (Or.inl (y_m rfl)) ?_ | refine w_cons (Or.inr (by assumption)) ?_)) (by repeat (first | exact w_nil | refine w_cons (Or.inl (y_m rfl)) ?_ | refine w_cons (Or.inr (by assumption)) ?_)))
      refine y_restores r3.1.1 r3.2.1 (fun H3 f3 J3 => ⟨fun n e => (by cases e), ?_⟩)
      exact T174 (y_re_fr r3 f3 rfl rfl rfl J3)
    refine w_go z_hl [40, 170] [] 30 re.1.1 ?_
    intro x hx _ _
    obtain rfl := y_fi re.2.2 hx
    refine ⟨fun _ => fun H hH => T170 (y_re_f0 re (y_st (y_rf re.1.1) hH (by repeat (first | exact w_nil | refine w_cons (Or.inl (y_m rfl)) ?_ | refine w_cons (Or.inr (by assumption)) ?_)) (by repeat (first | exact w_nil | refine w_cons (Or.inl (y_m rfl)) ?_ | refine w_cons (Or.inr (by assumption)) ?_)))), fun q => ?_⟩
    have : ¬ ((Int32.ofInt 1 <<< (sp &&& 31)).toInt ≤ bI.toInt) := y_cif q
    omega
  | succ m ih =>
    intro G so bI bu bl k o9 o10 o11 o12 o13 re hk hm u0 l1
    have ink : (bI + Int32.ofInt 1).toInt = ((k + 1 : Nat) : Int) := by rw [y_inc (by omega), hk]; rfl
    have next : ∀ {H : aH} {so' : Int32} {bu' bl' : Int64} {o9 o10 o11 o12 o13 : Option Value}, y_re h H sp → 0 ≤ bu'.toInt → 1 ≤ bl'.toInt → aOK s_P X (d + 5) a_m250 164 [some (.ref 155), some (.int node), some (.int what), some (.int so'), some (.long bu'), none, some (.long bl'), none, some (.int bI), o9, o10, o11, o12, o13] [] H C S K0 := by
      intro H so' bu' bl' o9 o10 o11 o12 o13 re2 x0 x1
      refine w_go z_hl [40] [] 30 re2.1.1 ?_
      intro H2 h2
      exact ih H2 _ _ _ _ (k + 1) _ _ _ _ _ (y_re_f0 re2 (y_st (y_rf re2.1.1) h2 (by repeat (first | exact w_nil | refine w_cons (Or.inl (y_m rfl)) ?_ | refine w_cons (Or.inr (by assumption)) ?_)) (by repeat (first | exact w_nil | refine w_cons (Or.inl (y_m rfl)) ?_ | refine w_cons (Or.inr (by assumption)) ?_)))) ink (by omega) x0 x1
    have T131 : ∀ {H : aH} {wh its : Int64} {c : Int32} {o13 : Option Value}, y_re h H sp → 1 ≤ wh.toInt → 0 ≤ its.toInt → aOK s_P X (d + 5) a_m250 131 [some (.ref 155), some (.int node), some (.int what), some (.int so), some (.long bu), none, some (.long bl), none, some (.int bI), some (.long wh), none, some (.long its), none, o13] [.int c] H C S K0 := by
      intro H wh its c o13 re2 w1 i0
      have f0 : y_fr H H [] [] := y_rf re2.1.1
      refine w_go z_hl [164] [] 40 re2.1.1 ?_
      refine ⟨fun _ => fun H2 h2 => next (y_re_f0 re2 (y_st f0 h2 (by repeat (first | exact w_nil | refine w_cons (Or.inl (y_m rfl)) ?_ | refine w_cons (Or.inr (by assumption)) ?_)) (by repeat (first | exact w_nil | refine w_cons (Or.inl (y_m rfl)) ?_ | refine w_cons (Or.inr (by assumption)) ?_)))) i0 w1, fun _ => ⟨fun _ => ⟨fun _ => fun H2 h2 => next (y_re_f0 re2 (y_st f0 h2 (by repeat (first | exact w_nil | refine w_cons (Or.inl (y_m rfl)) ?_ | refine w_cons (Or.inr (by assumption)) ?_)) (by repeat (first | exact w_nil | refine w_cons (Or.inl (y_m rfl)) ?_ | refine w_cons (Or.inr (by assumption)) ?_)))) u0 l1, fun _ => fun H2 h2 => next (y_re_f0 re2 (y_st f0 h2 (by repeat (first | exact w_nil | refine w_cons (Or.inl (y_m rfl)) ?_ | refine w_cons (Or.inr (by assumption)) ?_)) (by repeat (first | exact w_nil | refine w_cons (Or.inl (y_m rfl)) ?_ | refine w_cons (Or.inr (by assumption)) ?_)))) i0 w1⟩, fun _ => ⟨fun _ => fun H2 h2 => next (y_re_f0 re2 (y_st f0 h2 (by repeat (first | exact w_nil | refine w_cons (Or.inl (y_m rfl)) ?_ | refine w_cons (Or.inr (by assumption)) ?_)) (by repeat (first | exact w_nil | refine w_cons (Or.inl (y_m rfl)) ?_ | refine w_cons (Or.inr (by assumption)) ?_)))) u0 l1, fun _ => fun H2 h2 => next (y_re_f0 re2 (y_st f0 h2 (by repeat (first | exact w_nil | refine w_cons (Or.inl (y_m rfl)) ?_ | refine w_cons (Or.inr (by assumption)) ?_)) (by repeat (first | exact w_nil | refine w_cons (Or.inl (y_m rfl)) ?_ | refine w_cons (Or.inr (by assumption)) ?_)))) i0 w1⟩⟩⟩
    have T127 : ∀ {H : aH} {wh its : Int64} {c : Int32} {o13 : Option Value}, y_re h H sp → 1 ≤ wh.toInt → 0 ≤ its.toInt → aOK s_P X (d + 5) a_m250 127 [some (.ref 155), some (.int node), some (.int what), some (.int so), some (.long bu), none, some (.long bl), none, some (.int bI), some (.long wh), none, some (.long its), none, o13] [.int c] H C S K0 := by
      intro H wh its c o13 re2 w1 i0
      refine w_go z_hl [131] [] 40 re2.1.1 ?_
      exact fun H2 h2 => T131 (y_re_f0 re2 (y_st (y_rf re2.1.1) h2 (by repeat (first | exact w_nil | refine w_cons (Or.inl (y_m rfl)) ?_ | refine w_cons (Or.inr (by assumption)) ?_)) (by repeat (first | exact w_nil | refine w_cons (Or.inl (y_m rfl)) ?_ | refine w_cons (Or.inr (by assumption)) ?_)))) w1 i0
    have T109 : ∀ {H : aH} {wh its : Int64} {o11 o12 o13 : Option Value}, y_re h H sp → 1 ≤ wh.toInt → 0 ≤ its.toInt → aOK s_P X (d + 5) a_m250 109 [some (.ref 155), some (.int node), some (.int what), some (.int so), some (.long bu), none, some (.long bl), none, some (.int bI), some (.long wh), none, o11, o12, o13] [.long its] H C S K0 := by
      intro H wh its o11 o12 o13 re2 w1 i0
      refine w_go z_hl [131] [203] 40 re2.1.1 ?_
      refine ⟨fun _ => fun H2 h2 => T131 (y_re_f0 re2 (y_st (y_rf re2.1.1) h2 (by repeat (first | exact w_nil | refine w_cons (Or.inl (y_m rfl)) ?_ | refine w_cons (Or.inr (by assumption)) ?_)) (by repeat (first | exact w_nil | refine w_cons (Or.inl (y_m rfl)) ?_ | refine w_cons (Or.inr (by assumption)) ?_)))) w1 i0, fun _ => fun H2 h2 => ?_⟩
      have r3 := y_re_f0 re2 (y_st (y_rf re2.1.1) h2 (by repeat (first | exact w_nil | refine w_cons (Or.inl (y_m rfl)) ?_ | refine w_cons (Or.inr (by assumption)) ?_)) (by repeat (first | exact w_nil | refine w_cons (Or.inl (y_m rfl)) ?_ | refine w_cons (Or.inr (by assumption)) ?_)))
      refine aOK_deep (d := d + 1) (by omega) (y_compares (b := wh) (e := bl) r3.1.1 (fun q => by rw [q] at w1; exact absurd w1 (by decide)) (fun q => by rw [q] at l1; exact absurd l1 (by decide)) (fun r H3 hr3 e3 => ⟨fun n e => (by cases e), ?_⟩))
      exact T127 (y_re_fr r3 e3 rfl rfl rfl (y_J_fr e3 rfl rfl r3.2.1)) w1 i0
    have T90 : ∀ {H : aH} {wl : List Int64} {wh : Int64} {x9 : Int32} {o10 o11 o12 o13 : Option Value}, y_re h H sp → y_wl H wl → 0 ≤ wh.toInt → aOK s_P X (d + 5) a_m250 90 [some (.ref 155), some (.int node), some (.int what), some (.int so), some (.long bu), none, some (.long bl), none, some (.int bI), some (.int x9), o10, o11, o12, o13] [.long wh] H C S K0 := by
      intro H wl wh x9 o10 o11 o12 o13 re2 hw w0
      refine w_go z_hl [164] [190] 40 re2.1.1 ?_
      refine ⟨fun q => fun H2 h2 => ?_, fun _ => fun H2 h2 => next (y_re_f0 re2 (y_st (y_rf re2.1.1) h2 (by repeat (first | exact w_nil | refine w_cons (Or.inl (y_m rfl)) ?_ | refine w_cons (Or.inr (by assumption)) ?_)) (by repeat (first | exact w_nil | refine w_cons (Or.inl (y_m rfl)) ?_ | refine w_cons (Or.inr (by assumption)) ?_)))) u0 l1⟩
      have q2 : wh.toInt ≠ (Int64.ofNat 0).toInt := (y_cl .ne _ _).mp q
      rw [show (Int64.ofNat 0).toInt = 0 by decide] at q2
      have f : y_fr H H2 [] [] := y_st (y_rf re2.1.1) h2 (by repeat (first | exact w_nil | refine w_cons (Or.inl (y_m rfl)) ?_ | refine w_cons (Or.inr (by assumption)) ?_)) (by repeat (first | exact w_nil | refine w_cons (Or.inl (y_m rfl)) ?_ | refine w_cons (Or.inr (by assumption)) ?_))
      have r3 := y_re_f0 re2 f
      obtain ⟨nd, sa, wc⟩ := y_wcJ r3.1.1 r3.2.1 (y_wl_fr f (fun q => by cases q) hw)
      refine aOK_deep (d := d + 2) (by omega) (q_nowWith (b := true) wc (fun r H3 e3 r0 _ => ⟨fun n e => (by cases e), ?_⟩))
      exact T109 (y_re_f0 r3 e3) (by omega) r0
    have T86 : ∀ {H : aH} {wl : List Int64} {x9 : Int32} {o10 o11 o12 o13 : Option Value}, y_re h H sp → y_wl H wl → aOK s_P X (d + 5) a_m250 86 [some (.ref 155), some (.int node), some (.int what), some (.int so), some (.long bu), none, some (.long bl), none, some (.int bI), some (.int x9), o10, o11, o12, o13] [] H C S K0 := by
      intro H wl x9 o10 o11 o12 o13 re2 hw
      refine w_go z_hl [] [189] 40 re2.1.1 ?_
      intro H2 h2
      have f : y_fr H H2 [] [] := y_st (y_rf re2.1.1) h2 (by repeat (first | exact w_nil | refine w_cons (Or.inl (y_m rfl)) ?_ | refine w_cons (Or.inr (by assumption)) ?_)) (by repeat (first | exact w_nil | refine w_cons (Or.inl (y_m rfl)) ?_ | refine w_cons (Or.inr (by assumption)) ?_))
      have r3 := y_re_f0 re2 f
      obtain ⟨nd, sa, wc⟩ := y_wcJ r3.1.1 r3.2.1 (y_wl_fr f (fun q => by cases q) hw)
      refine aOK_deep (d := d + 3) (by omega) (q_now wc (fun r H3 e3 r0 _ => ⟨fun n e => (by cases e), ?_⟩))
      exact T90 (y_re_f0 r3 e3) (y_wl_fr (y_sq f e3 rfl rfl : y_fr H H3 [] []) (fun q => by cases q) hw) r0
    have T82 : ∀ {H : aH} {x9 : Int32} {o10 o11 o12 o13 : Option Value}, y_re h H sp → aOK s_P X (d + 5) a_m250 82 [some (.ref 155), some (.int node), some (.int what), some (.int so), some (.long bu), none, some (.long bl), none, some (.int bI), some (.int x9), o10, o11, o12, o13] [] H C S K0 := by
      intro H x9 o10 o11 o12 o13 re2
      refine w_go z_hl [] [188] 40 re2.1.1 ?_
      intro H2 h2
      have r3 := y_re_f0 re2 (y_st (y_rf re2.1.1) h2 (by repeat (first | exact w_nil | refine w_cons (Or.inl (y_m rfl)) ?_ | refine w_cons (Or.inr (by assumption)) ?_)) (by repeat (first | exact w_nil | refine w_cons (Or.inl (y_m rfl)) ?_ | refine w_cons (Or.inr (by assumption)) ?_)))
      refine aOK_deep (d := d + 2) (by omega) (q_weighsUp r3.1.1 r3.2.1 (fun wl H3 e3 J3 hw => ⟨fun n e => (by cases e), ?_⟩))
      exact T86 (y_re_fr r3 e3 rfl rfl rfl J3) hw
    refine w_go z_hl [40, 54] [] 30 re.1.1 ?_
    intro x hx _ _
    obtain rfl := y_fi re.2.2 hx
    refine ⟨fun q => ?_, fun _ => fun H hH => ?_⟩
    · have : (Int32.ofInt 1 <<< (sp &&& 31)).toInt ≤ bI.toInt := (y_ci .ge _ _).mp q
      omega
    · exact y_reach_in s0 s6 sp.toInt.toNat H _ 0 _ _ _ _ (y_re_f0 re (y_st (y_rf re.1.1) hH (by repeat (first | exact w_nil | refine w_cons (Or.inl (y_m rfl)) ?_ | refine w_cons (Or.inr (by assumption)) ?_)) (by repeat (first | exact w_nil | refine w_cons (Or.inl (y_m rfl)) ?_ | refine w_cons (Or.inr (by assumption)) ?_)))) rfl (by omega) (fun H2 k' o10 o11 o12 o13 re2 => T82 re2)
theorem p_reach (hr : w_hr z_D h) (hJ : y_J h) {node what : Int32} (hk : ∀ (r : Int32) (H : aH), y_fr h H [19584, 19585, 19587, 19588] [154, 155, 158, 163, 176] → y_J H → K0 (some (.int r)) H C S) : aOK s_P X (d + 5) a_m250 0 [some (.ref 155), some (.int node), some (.int what), none, none, none, none, none, none, none, none, none, none, none] [] h C S K0 := by
  obtain ⟨nd, sm, so, sa, s1, s2, s3, s4, s5⟩ := id hJ.2.2.2.2.1
  obtain ⟨sp, g, sp0, sp6⟩ := y_spE hr
  have out : ∀ {G : aH} {r : Int32}, y_fr h G [19584] [] → K0 (some (.int r)) G C S := fun g => hk _ _ (y_mo g rfl rfl) (y_J_fr g rfl rfl hJ)
  have T29 : ∀ {G : aH}, y_re h G sp → aOK s_P X (d + 5) a_m250 29 [some (.ref 155), some (.int node), some (.int what), none, none, none, none, none, none, none, none, none, none, none] [] G C S K0 := by
    intro G re
    refine w_go z_hl [40] [] 30 re.1.1 ?_
    intro H hH
    exact y_reach_loop sp0 sp6 hk (y_ways sp) H _ _ _ _ 0 _ _ _ _ _ (y_re_f0 re (y_st (y_rf re.1.1) hH (by repeat (first | exact w_nil | refine w_cons (Or.inl (y_m rfl)) ?_ | refine w_cons (Or.inr (by assumption)) ?_)) (by repeat (first | exact w_nil | refine w_cons (Or.inl (y_m rfl)) ?_ | refine w_cons (Or.inr (by assumption)) ?_)))) rfl (by omega) (by decide) (by decide)
  have T20 : ∀ {G : aH}, y_fr h G [19584] [] → aOK s_P X (d + 5) a_m250 20 [some (.ref 155), some (.int node), some (.int what), none, none, none, none, none, none, none, none, none, none, none] [.int (y_01 true)] G C S K0 := by
    intro G e
    refine w_go z_hl [] [251] 30 e.1 ?_
    refine ⟨fun _ => fun H hH => ?_, fun q => absurd q (by decide)⟩
    have e2 := y_st e hH (by repeat (first | exact w_nil | refine w_cons (Or.inl (y_m rfl)) ?_ | refine w_cons (Or.inr (by assumption)) ?_)) (by repeat (first | exact w_nil | refine w_cons (Or.inl (y_m rfl)) ?_ | refine w_cons (Or.inr (by assumption)) ?_))
    refine aOK_deep (d := d + 1) (by omega) (y_remembers e2.1 (y_J_fr e2 rfl rfl hJ) (fun H3 f3 J3 => ⟨fun n e => (by cases e), ?_⟩))
    have e3 : y_fr h H3 [19584] [176] := y_sq (y_mo e2 rfl rfl) f3 rfl rfl
    exact T29 ⟨y_mo e3 rfl rfl, J3, (y_fe e3 rfl).trans g⟩
  have T20n : ∀ {G : aH}, y_fr h G [19584] [] → aOK s_P X (d + 5) a_m250 20 [some (.ref 155), some (.int node), some (.int what), none, none, none, none, none, none, none, none, none, none, none] [.int (y_01 false)] G C S K0 := by
    intro G e
    refine w_go z_hl [] [] 30 e.1 ?_
    exact ⟨fun q => absurd q (by decide), fun _ => fun H hH => out (y_st e hH (by repeat (first | exact w_nil | refine w_cons (Or.inl (y_m rfl)) ?_ | refine w_cons (Or.inr (by assumption)) ?_)) (by repeat (first | exact w_nil | refine w_cons (Or.inl (y_m rfl)) ?_ | refine w_cons (Or.inr (by assumption)) ?_)))⟩
  have T10 : ∀ {G : aH}, y_fr h G [19584] [] → aOK s_P X (d + 5) a_m250 10 [some (.ref 155), some (.int node), some (.int what), none, none, none, none, none, none, none, none, none, none, none] [.int (y_01 true)] G C S K0 := by
    intro G e
    refine w_go z_hl [] [176] 30 e.1 ?_
    refine ⟨fun q => absurd q (by decide), fun _ => fun H hH => ?_⟩
    have e2 := y_st e hH (by repeat (first | exact w_nil | refine w_cons (Or.inl (y_m rfl)) ?_ | refine w_cons (Or.inr (by assumption)) ?_)) (by repeat (first | exact w_nil | refine w_cons (Or.inl (y_m rfl)) ?_ | refine w_cons (Or.inr (by assumption)) ?_))
    refine q_in e2.1 (fun H3 h3 _ _ => ⟨fun n e => (by cases e), ?_⟩) (fun H3 h3 _ => ⟨fun n e => (by cases e), ?_⟩)
    · exact T20 (y_sq e2 h3 rfl rfl)
    · exact T20n (y_sq e2 h3 rfl rfl)
  have T10n : ∀ {G : aH}, y_fr h G [19584] [] → aOK s_P X (d + 5) a_m250 10 [some (.ref 155), some (.int node), some (.int what), none, none, none, none, none, none, none, none, none, none, none] [.int (y_01 false)] G C S K0 := by
    intro G e
    refine w_go z_hl [] [] 30 e.1 ?_
    exact ⟨fun _ => fun H hH => out (y_st e hH (by repeat (first | exact w_nil | refine w_cons (Or.inl (y_m rfl)) ?_ | refine w_cons (Or.inr (by assumption)) ?_)) (by repeat (first | exact w_nil | refine w_cons (Or.inl (y_m rfl)) ?_ | refine w_cons (Or.inr (by assumption)) ?_))), fun q => absurd q (by decide)⟩
  refine w_go z_hl [] [178] 30 hr ?_
  refine ⟨rfl, y_zini (by decide) (by decide), fun H1 h1 => ?_⟩
  have e1 : y_fr h H1 [19584] [] := y_st (y_mo (y_rf hr) rfl rfl) h1 (by repeat (first | exact w_nil | refine w_cons (Or.inl (y_m rfl)) ?_ | refine w_cons (Or.inr (by assumption)) ?_)) (by repeat (first | exact w_nil | refine w_cons (Or.inl (y_m rfl)) ?_ | refine w_cons (Or.inr (by assumption)) ?_))
  refine q_isNode (v := node) e1.1 ((y_fe e1 rfl).trans s1) (fun H2 v h2 hv hv2 hvc => ⟨fun n e => (by cases e), ?_⟩) (fun H2 h2 => ⟨fun n e => (by cases e), ?_⟩)
  · exact T10 (y_sq e1 h2 rfl rfl)
  · exact T10n (y_sq e1 h2 rfl rfl)
theorem y_leans_loop {sp node : Int32} (s0 : 0 ≤ sp.toInt) (s6 : sp.toInt ≤ 6) (hK : ∀ (r : Int32) (H : aH), y_fr h H [19584, 19585, 19587, 19588] [154, 155, 158, 163, 176] → y_J H → K0 (some (.int r)) H C S) : ∀ (m : Nat) (G : aH) (bi kI : Int32) (k : Nat) (o4 o6 o8 o10 : Option Value), y_re h G sp → kI.toInt = k → (k : Int) + m = sp.toInt → aOK s_P X (d + 5) a_m254 39 [some (.ref 155), some (.int node), some (.int bi), some (.int kI), o4, none, o6, none, o8, none, o10, none] [] G C S K0 := by
  intro m
  induction m with
  | zero =>
    intro G bi kI k o4 o6 o8 o10 re hk hm
    refine w_go z_hl [39] [] 30 re.1.1 ?_
    intro x hx _ _
    obtain rfl := y_fi re.2.2 hx
    refine ⟨fun _ => fun H hH => ?_, fun q => ?_⟩
    · have r3 := y_re_f0 re (y_st (y_rf re.1.1) hH (by repeat (first | exact w_nil | refine w_cons (Or.inl (y_m rfl)) ?_ | refine w_cons (Or.inr (by assumption)) ?_)) (by repeat (first | exact w_nil | refine w_cons (Or.inl (y_m rfl)) ?_ | refine w_cons (Or.inr (by assumption)) ?_)))
      exact hK _ H r3.1 r3.2.1
    · have : ¬ (sp.toInt ≤ kI.toInt) := y_cif q
      omega
  | succ m ih =>
    intro G bi kI k o4 o6 o8 o10 re hk hm
    have ink : (kI + Int32.ofInt 1).toInt = ((k + 1 : Nat) : Int) := by rw [y_inc (by omega), hk]; rfl
    have next : ∀ {H : aH} {x : Int32} {o4 o6 o8 o10 : Option Value}, y_re h H sp → aOK s_P X (d + 5) a_m254 138 [some (.ref 155), some (.int node), some (.int bi), some (.int kI), o4, none, o6, none, o8, none, o10, none] [.int x, .int bi] H C S K0 := by
      intro H x o4 o6 o8 o10 re2
      refine w_go z_hl [39] [] 30 re2.1.1 ?_
      intro H2 h2
      exact ih H2 _ _ (k + 1) _ _ _ _ (y_re_f0 re2 (y_st (y_rf re2.1.1) h2 (by repeat (first | exact w_nil | refine w_cons (Or.inl (y_m rfl)) ?_ | refine w_cons (Or.inr (by assumption)) ?_)) (by repeat (first | exact w_nil | refine w_cons (Or.inl (y_m rfl)) ?_ | refine w_cons (Or.inr (by assumption)) ?_)))) ink (by omega)
    have T128 : ∀ {H : aH} {c : Int32} {o4 o6 o8 o10 : Option Value}, y_re h H sp → aOK s_P X (d + 5) a_m254 128 [some (.ref 155), some (.int node), some (.int bi), some (.int kI), o4, none, o6, none, o8, none, o10, none] [.int c, .int bi] H C S K0 := by
      intro H c o4 o6 o8 o10 re2
      refine w_go z_hl [138] [] 30 re2.1.1 ?_
      exact ⟨fun _ => fun H2 h2 => next (y_re_f0 re2 (y_st (y_rf re2.1.1) h2 (by repeat (first | exact w_nil | refine w_cons (Or.inl (y_m rfl)) ?_ | refine w_cons (Or.inr (by assumption)) ?_)) (by repeat (first | exact w_nil | refine w_cons (Or.inl (y_m rfl)) ?_ | refine w_cons (Or.inr (by assumption)) ?_)))), fun _ => fun H2 h2 => next (y_re_f0 re2 (y_st (y_rf re2.1.1) h2 (by repeat (first | exact w_nil | refine w_cons (Or.inl (y_m rfl)) ?_ | refine w_cons (Or.inr (by assumption)) ?_)) (by repeat (first | exact w_nil | refine w_cons (Or.inl (y_m rfl)) ?_ | refine w_cons (Or.inr (by assumption)) ?_))))⟩
    have T101 : ∀ {H : aH} {a b c e : Int64}, y_re h H sp → aOK s_P X (d + 5) a_m254 101 [some (.ref 155), some (.int node), some (.int bi), some (.int kI), some (.long a), none, some (.long b), none, some (.long c), none, some (.long e), none] [] H C S K0 := by
      intro H a b c e re2
      refine w_go z_hl [138] [203] 40 re2.1.1 ?_
      refine ⟨fun _ => fun H2 h2 => next (y_re_f0 re2 (y_st (y_rf re2.1.1) h2 (by repeat (first | exact w_nil | refine w_cons (Or.inl (y_m rfl)) ?_ | refine w_cons (Or.inr (by assumption)) ?_)) (by repeat (first | exact w_nil | refine w_cons (Or.inl (y_m rfl)) ?_ | refine w_cons (Or.inr (by assumption)) ?_)))), fun q1 => ⟨fun _ => fun H2 h2 => next (y_re_f0 re2 (y_st (y_rf re2.1.1) h2 (by repeat (first | exact w_nil | refine w_cons (Or.inl (y_m rfl)) ?_ | refine w_cons (Or.inr (by assumption)) ?_)) (by repeat (first | exact w_nil | refine w_cons (Or.inl (y_m rfl)) ?_ | refine w_cons (Or.inr (by assumption)) ?_)))), fun q2 => fun H2 h2 => ?_⟩⟩
      have x1 : ¬ (b.toInt ≤ (Int64.ofNat 0).toInt) := y_clf q1
      have x2 : ¬ (e.toInt ≤ (Int64.ofNat 0).toInt) := y_clf q2
      have r3 := y_re_f0 re2 (y_st (y_rf re2.1.1) h2 (by repeat (first | exact w_nil | refine w_cons (Or.inl (y_m rfl)) ?_ | refine w_cons (Or.inr (by assumption)) ?_)) (by repeat (first | exact w_nil | refine w_cons (Or.inl (y_m rfl)) ?_ | refine w_cons (Or.inr (by assumption)) ?_)))
      refine aOK_deep (d := d + 1) (by omega) (y_compares (b := b) (e := e) r3.1.1 (fun q => by rw [q] at x1; exact x1 (by decide)) (fun q => by rw [q] at x2; exact x2 (by decide)) (fun r H3 hr3 e3 => ⟨fun n e => (by cases e), ?_⟩))
      exact T128 (y_re_fr r3 e3 rfl rfl rfl (y_J_fr e3 rfl rfl r3.2.1))
    have T95 : ∀ {H : aH} {a b c e : Int64} {o10 : Option Value}, y_re h H sp → aOK s_P X (d + 5) a_m254 95 [some (.ref 155), some (.int node), some (.int bi), some (.int kI), some (.long a), none, some (.long b), none, some (.long c), none, o10, none] [.long e] H C S K0 := by
      intro H a b c e o10 re2
      refine w_go z_hl [] [253] 30 re2.1.1 ?_
      intro H2 h2
      have r3 := y_re_f0 re2 (y_st (y_rf re2.1.1) h2 (by repeat (first | exact w_nil | refine w_cons (Or.inl (y_m rfl)) ?_ | refine w_cons (Or.inr (by assumption)) ?_)) (by repeat (first | exact w_nil | refine w_cons (Or.inl (y_m rfl)) ?_ | refine w_cons (Or.inr (by assumption)) ?_)))
      refine y_restores r3.1.1 r3.2.1 (fun H3 f3 J3 => ⟨fun n e => (by cases e), ?_⟩)
      exact T101 (y_re_fr r3 f3 rfl rfl rfl J3)
    have T89 : ∀ {H : aH} {wl : List Int64} {a b c : Int64} {o8 o10 : Option Value}, y_re h H sp → y_wl H wl → aOK s_P X (d + 5) a_m254 89 [some (.ref 155), some (.int node), some (.int bi), some (.int kI), some (.long a), none, some (.long b), none, o8, none, o10, none] [.long c] H C S K0 := by
      intro H wl a b c o8 o10 re2 hw
      refine w_go z_hl [] [189] 30 re2.1.1 ?_
      intro H2 h2
      have f : y_fr H H2 [] [] := y_st (y_rf re2.1.1) h2 (by repeat (first | exact w_nil | refine w_cons (Or.inl (y_m rfl)) ?_ | refine w_cons (Or.inr (by assumption)) ?_)) (by repeat (first | exact w_nil | refine w_cons (Or.inl (y_m rfl)) ?_ | refine w_cons (Or.inr (by assumption)) ?_))
      have r3 := y_re_f0 re2 f
      obtain ⟨nd, sa, wc⟩ := y_wcJ r3.1.1 r3.2.1 (y_wl_fr f (fun q => by cases q) hw)
      refine aOK_deep (d := d + 3) (by omega) (q_now wc (fun r H3 e3 r0 _ => ⟨fun n e => (by cases e), ?_⟩))
      exact T95 (y_re_f0 r3 e3)
    have T82 : ∀ {H : aH} {wl : List Int64} {a b : Int64} {o8 o10 : Option Value}, y_re h H sp → y_wl H wl → aOK s_P X (d + 5) a_m254 82 [some (.ref 155), some (.int node), some (.int bi), some (.int kI), some (.long a), none, some (.long b), none, o8, none, o10, none] [] H C S K0 := by
      intro H wl a b o8 o10 re2 hw
      refine w_go z_hl [] [190] 30 re2.1.1 ?_
      intro H2 h2
      have f : y_fr H H2 [] [] := y_st (y_rf re2.1.1) h2 (by repeat (first | exact w_nil | refine w_cons (Or.inl (y_m rfl)) ?_ | refine w_cons (Or.inr (by assumption)) ?_)) (by repeat (first | exact w_nil | refine w_cons (Or.inl (y_m rfl)) ?_ | refine w_cons (Or.inr (by assumption)) ?_))
      have r3 := y_re_f0 re2 f
      obtain ⟨nd, sa, wc⟩ := y_wcJ r3.1.1 r3.2.1 (y_wl_fr f (fun q => by cases q) hw)
      refine aOK_deep (d := d + 2) (by omega) (q_nowWith (b := true) wc (fun r H3 e3 r0 _ => ⟨fun n e => (by cases e), ?_⟩))
      exact T89 (y_re_f0 r3 e3) (y_wl_fr (y_sq f e3 rfl rfl : y_fr H H3 [] []) (fun q => by cases q) hw)
    have T78 : ∀ {H : aH} {a b : Int64} {o8 o10 : Option Value}, y_re h H sp → aOK s_P X (d + 5) a_m254 78 [some (.ref 155), some (.int node), some (.int bi), some (.int kI), some (.long a), none, some (.long b), none, o8, none, o10, none] [] H C S K0 := by
      intro H a b o8 o10 re2
      refine w_go z_hl [] [188] 40 re2.1.1 ?_
      intro H2 h2
      have r3 := y_re_f0 re2 (y_st (y_rf re2.1.1) h2 (by repeat (first | exact w_nil | refine w_cons (Or.inl (y_m rfl)) ?_ | refine w_cons (Or.inr (by assumption)) ?_)) (by repeat (first | exact w_nil | refine w_cons (Or.inl (y_m rfl)) ?_ | refine w_cons (Or.inr (by assumption)) ?_)))
      refine aOK_deep (d := d + 2) (by omega) (q_weighsUp r3.1.1 r3.2.1 (fun wl H3 e3 J3 hw => ⟨fun n e => (by cases e), ?_⟩))
      exact T82 (y_re_fr r3 e3 rfl rfl rfl J3) hw
    have T70 : ∀ {H : aH} {a b : Int64} {o6 o8 o10 : Option Value}, y_re h H sp → aOK s_P X (d + 5) a_m254 70 [some (.ref 155), some (.int node), some (.int bi), some (.int kI), some (.long a), none, o6, none, o8, none, o10, none] [.long b] H C S K0 := by
      intro H a b o6 o8 o10 re2
      refine w_go z_hl [] [252] 30 re2.1.1 ?_
      intro H2 h2
      have r3 := y_re_f0 re2 (y_st (y_rf re2.1.1) h2 (by repeat (first | exact w_nil | refine w_cons (Or.inl (y_m rfl)) ?_ | refine w_cons (Or.inr (by assumption)) ?_)) (by repeat (first | exact w_nil | refine w_cons (Or.inl (y_m rfl)) ?_ | refine w_cons (Or.inr (by assumption)) ?_)))
      refine y_lays r3.1.1 r3.2.1 (by omega) (by omega) (fun H3 f3 J3 => ⟨fun n e => (by cases e), ?_⟩)
      exact T78 (y_re_fr r3 f3 rfl rfl rfl J3)
    have T64 : ∀ {H : aH} {wl : List Int64} {a : Int64} {o4 o6 o8 o10 : Option Value}, y_re h H sp → y_wl H wl → aOK s_P X (d + 5) a_m254 64 [some (.ref 155), some (.int node), some (.int bi), some (.int kI), o4, none, o6, none, o8, none, o10, none] [.long a] H C S K0 := by
      intro H wl a o4 o6 o8 o10 re2 hw
      refine w_go z_hl [] [189] 30 re2.1.1 ?_
      intro H2 h2
      have f : y_fr H H2 [] [] := y_st (y_rf re2.1.1) h2 (by repeat (first | exact w_nil | refine w_cons (Or.inl (y_m rfl)) ?_ | refine w_cons (Or.inr (by assumption)) ?_)) (by repeat (first | exact w_nil | refine w_cons (Or.inl (y_m rfl)) ?_ | refine w_cons (Or.inr (by assumption)) ?_))
      have r3 := y_re_f0 re2 f
      obtain ⟨nd, sa, wc⟩ := y_wcJ r3.1.1 r3.2.1 (y_wl_fr f (fun q => by cases q) hw)
      refine aOK_deep (d := d + 3) (by omega) (q_now wc (fun r H3 e3 r0 _ => ⟨fun n e => (by cases e), ?_⟩))
      exact T70 (y_re_f0 r3 e3)
    have T57 : ∀ {H : aH} {wl : List Int64} {o4 o6 o8 o10 : Option Value}, y_re h H sp → y_wl H wl → aOK s_P X (d + 5) a_m254 57 [some (.ref 155), some (.int node), some (.int bi), some (.int kI), o4, none, o6, none, o8, none, o10, none] [] H C S K0 := by
      intro H wl o4 o6 o8 o10 re2 hw
      refine w_go z_hl [] [190] 30 re2.1.1 ?_
      intro H2 h2
      have f : y_fr H H2 [] [] := y_st (y_rf re2.1.1) h2 (by repeat (first | exact w_nil | refine w_cons (Or.inl (y_m rfl)) ?_ | refine w_cons (Or.inr (by assumption)) ?_)) (by repeat (first | exact w_nil | refine w_cons (Or.inl (y_m rfl)) ?_ | refine w_cons (Or.inr (by assumption)) ?_))
      have r3 := y_re_f0 re2 f
      obtain ⟨nd, sa, wc⟩ := y_wcJ r3.1.1 r3.2.1 (y_wl_fr f (fun q => by cases q) hw)
      refine aOK_deep (d := d + 2) (by omega) (q_nowWith (b := true) wc (fun r H3 e3 r0 _ => ⟨fun n e => (by cases e), ?_⟩))
      exact T64 (y_re_f0 r3 e3) (y_wl_fr (y_sq f e3 rfl rfl : y_fr H H3 [] []) (fun q => by cases q) hw)
    have T53 : ∀ {H : aH} {o4 o6 o8 o10 : Option Value}, y_re h H sp → aOK s_P X (d + 5) a_m254 53 [some (.ref 155), some (.int node), some (.int bi), some (.int kI), o4, none, o6, none, o8, none, o10, none] [] H C S K0 := by
      intro H o4 o6 o8 o10 re2
      refine w_go z_hl [] [188] 40 re2.1.1 ?_
      intro H2 h2
      have r3 := y_re_f0 re2 (y_st (y_rf re2.1.1) h2 (by repeat (first | exact w_nil | refine w_cons (Or.inl (y_m rfl)) ?_ | refine w_cons (Or.inr (by assumption)) ?_)) (by repeat (first | exact w_nil | refine w_cons (Or.inl (y_m rfl)) ?_ | refine w_cons (Or.inr (by assumption)) ?_)))
      refine aOK_deep (d := d + 2) (by omega) (q_weighsUp r3.1.1 r3.2.1 (fun wl H3 e3 J3 hw => ⟨fun n e => (by cases e), ?_⟩))
      exact T57 (y_re_fr r3 e3 rfl rfl rfl J3) hw
    refine w_go z_hl [39] [252] 30 re.1.1 ?_
    intro x hx _ _
    obtain rfl := y_fi re.2.2 hx
    refine ⟨fun q => ?_, fun _ => fun H hH => ?_⟩
    · have : sp.toInt ≤ kI.toInt := (y_ci .ge _ _).mp q
      omega
    · have r3 := y_re_f0 re (y_st (y_rf re.1.1) hH (by repeat (first | exact w_nil | refine w_cons (Or.inl (y_m rfl)) ?_ | refine w_cons (Or.inr (by assumption)) ?_)) (by repeat (first | exact w_nil | refine w_cons (Or.inl (y_m rfl)) ?_ | refine w_cons (Or.inr (by assumption)) ?_)))
      refine y_lays r3.1.1 r3.2.1 (by omega) (by omega) (fun H3 f3 J3 => ⟨fun n e => (by cases e), ?_⟩)
      exact T53 (y_re_fr r3 f3 rfl rfl rfl J3)
theorem p_leans (hr : w_hr z_D h) (hJ : y_J h) {node : Int32} (hk : ∀ (r : Int32) (H : aH), y_fr h H [19584, 19585, 19587, 19588] [154, 155, 158, 163, 176] → y_J H → K0 (some (.int r)) H C S) : aOK s_P X (d + 5) a_m254 0 [some (.ref 155), some (.int node), none, none, none, none, none, none, none, none, none, none] [] h C S K0 := by
  obtain ⟨nd, sm, so, sa, s1, s2, s3, s4, s5⟩ := id hJ.2.2.2.2.1
  obtain ⟨sp, g, sp0, sp6⟩ := y_spE hr
  have out : ∀ {G : aH} {r : Int32}, y_fr h G [19584] [] → K0 (some (.int r)) G C S := fun g => hk _ _ (y_mo g rfl rfl) (y_J_fr g rfl rfl hJ)
  have T35 : ∀ {G : aH}, y_re h G sp → aOK s_P X (d + 5) a_m254 35 [some (.ref 155), some (.int node), none, none, none, none, none, none, none, none, none, none] [] G C S K0 := by
    intro G re
    refine w_go z_hl [39] [] 30 re.1.1 ?_
    intro H hH
    exact y_leans_loop sp0 sp6 hk sp.toInt.toNat H _ _ 0 _ _ _ _ (y_re_f0 re (y_st (y_rf re.1.1) hH (by repeat (first | exact w_nil | refine w_cons (Or.inl (y_m rfl)) ?_ | refine w_cons (Or.inr (by assumption)) ?_)) (by repeat (first | exact w_nil | refine w_cons (Or.inl (y_m rfl)) ?_ | refine w_cons (Or.inr (by assumption)) ?_)))) rfl (by omega)
  have T23 : ∀ {G : aH} {x : Int64}, y_re h G sp → aOK s_P X (d + 5) a_m254 23 [some (.ref 155), some (.int node), none, none, none, none, none, none, none, none, none, none] [.long x] G C S K0 := by
    intro G x re
    refine w_go z_hl [] [251] 30 re.1.1 ?_
    refine ⟨fun _ => fun H hH => ?_, fun _ => fun H hH => ?_⟩
    · have r3 := y_re_f0 re (y_st (y_rf re.1.1) hH (by repeat (first | exact w_nil | refine w_cons (Or.inl (y_m rfl)) ?_ | refine w_cons (Or.inr (by assumption)) ?_)) (by repeat (first | exact w_nil | refine w_cons (Or.inl (y_m rfl)) ?_ | refine w_cons (Or.inr (by assumption)) ?_)))
      refine y_remembers r3.1.1 r3.2.1 (fun H3 f3 J3 => ⟨fun n e => (by cases e), ?_⟩)
      exact T35 (y_re_fr r3 f3 rfl rfl rfl J3)
    · have r3 := y_re_f0 re (y_st (y_rf re.1.1) hH (by repeat (first | exact w_nil | refine w_cons (Or.inl (y_m rfl)) ?_ | refine w_cons (Or.inr (by assumption)) ?_)) (by repeat (first | exact w_nil | refine w_cons (Or.inl (y_m rfl)) ?_ | refine w_cons (Or.inr (by assumption)) ?_)))
      exact hk _ H r3.1 r3.2.1
  have T19 : ∀ {G : aH} {wl : List Int64}, y_re h G sp → y_wl G wl → aOK s_P X (d + 5) a_m254 19 [some (.ref 155), some (.int node), none, none, none, none, none, none, none, none, none, none] [] G C S K0 := by
    intro G wl re hw
    refine w_go z_hl [] [189] 30 re.1.1 ?_
    intro H hH
    have f : y_fr G H [] [] := y_st (y_rf re.1.1) hH (by repeat (first | exact w_nil | refine w_cons (Or.inl (y_m rfl)) ?_ | refine w_cons (Or.inr (by assumption)) ?_)) (by repeat (first | exact w_nil | refine w_cons (Or.inl (y_m rfl)) ?_ | refine w_cons (Or.inr (by assumption)) ?_))
    have r3 := y_re_f0 re f
    obtain ⟨nd, sa, wc⟩ := y_wcJ r3.1.1 r3.2.1 (y_wl_fr f (fun q => by cases q) hw)
    refine aOK_deep (d := d + 3) (by omega) (q_now wc (fun r H3 e3 r0 _ => ⟨fun n e => (by cases e), ?_⟩))
    exact T23 (y_re_f0 r3 e3)
  have T10 : ∀ {G : aH} {b : Bool}, y_fr h G [19584] [] → aOK s_P X (d + 5) a_m254 10 [some (.ref 155), some (.int node), none, none, none, none, none, none, none, none, none, none] [.int (y_01 b)] G C S K0 := by
    intro G b e
    refine w_go z_hl [] [188] 30 e.1 ?_
    refine ⟨fun _ => fun H hH => ?_, fun _ => fun H hH => out (y_st e hH (by repeat (first | exact w_nil | refine w_cons (Or.inl (y_m rfl)) ?_ | refine w_cons (Or.inr (by assumption)) ?_)) (by repeat (first | exact w_nil | refine w_cons (Or.inl (y_m rfl)) ?_ | refine w_cons (Or.inr (by assumption)) ?_)))⟩
    have e2 := y_st e hH (by repeat (first | exact w_nil | refine w_cons (Or.inl (y_m rfl)) ?_ | refine w_cons (Or.inr (by assumption)) ?_)) (by repeat (first | exact w_nil | refine w_cons (Or.inl (y_m rfl)) ?_ | refine w_cons (Or.inr (by assumption)) ?_))
    refine aOK_deep (d := d + 2) (by omega) (q_weighsUp e2.1 (y_J_fr e2 rfl rfl hJ) (fun wl H3 e3 J3 hw => ⟨fun n e => (by cases e), ?_⟩))
    have e4 : y_fr h H3 [19584] [163] := y_sq (y_mo e2 rfl rfl) e3 rfl rfl
    exact T19 ⟨y_mo e4 rfl rfl, J3, (y_fe e4 rfl).trans g⟩ hw
  refine w_go z_hl [] [178] 30 hr ?_
  refine ⟨rfl, y_zini (by decide) (by decide), fun H1 h1 => ?_⟩
  have e1 : y_fr h H1 [19584] [] := y_st (y_mo (y_rf hr) rfl rfl) h1 (by repeat (first | exact w_nil | refine w_cons (Or.inl (y_m rfl)) ?_ | refine w_cons (Or.inr (by assumption)) ?_)) (by repeat (first | exact w_nil | refine w_cons (Or.inl (y_m rfl)) ?_ | refine w_cons (Or.inr (by assumption)) ?_))
  refine q_isNode (v := node) e1.1 ((y_fe e1 rfl).trans s1) (fun H2 v h2 hv hv2 hvc => ⟨fun n e => (by cases e), ?_⟩) (fun H2 h2 => ⟨fun n e => (by cases e), ?_⟩)
  · exact T10 (y_sq e1 h2 rfl rfl)
  · exact T10 (y_sq e1 h2 rfl rfl)
end WG
end PT30e
section PT30f
/-! ===== v3: the reference's hearing ===== -/
def y_od (H : aH) : Prop := ∃ u l : Int64, w_f H 19630 = some (.long u) ∧ w_f H 19631 = some (.long l) ∧ 0 ≤ u.toInt ∧ 1 ≤ l.toInt
theorem y_od_fr {h H : aH} {fs as : List Nat} (q : y_od h) (e : y_fr h H fs as) (h1 : fs.elem 19630 = false) (h2 : fs.elem 19631 = false) : y_od H := by
  obtain ⟨u, l, q1, q2, q3⟩ := q
  exact ⟨u, l, (y_fe e h1).trans q1, (y_fe e h2).trans q2, q3⟩
theorem i_orM (a x : Int32) : (a ||| x) ||| a = a ||| x := by
  calc (a ||| x) ||| a = (a ||| a) ||| x := by ac_rfl
    _ = a ||| x := by rw [i_orI]
theorem y_or10 {x y : Int32} (x0 : 0 ≤ x.toInt) (x1 : x.toInt ≤ 1023) (y0 : 0 ≤ y.toInt) (y1 : y.toInt ≤ 1023) : 0 ≤ (x ||| y).toInt ∧ (x ||| y).toInt ≤ 1023 := by
  have := z_t_or (x := x) (y := y) (a := (0, 1023)) (b := (0, 1023)) ⟨x0, x1⟩ ⟨y0, y1⟩ (by decide)
  exact ⟨this.1, Int.le_trans this.2 (by decide)⟩
theorem y_bit10 {v : Int32} (h1 : 0 ≤ v.toInt) (h2 : v.toInt ≤ 9) : 0 ≤ (Int32.ofInt 1 <<< (v &&& 31)).toInt ∧ (Int32.ofInt 1 <<< (v &&& 31)).toInt ≤ 1023 := by
  rcases y_small h1 (by omega : v.toInt ≤ 10) with rfl | rfl | rfl | rfl | rfl | rfl | rfl | rfl | rfl | rfl | rfl
  all_goals first | decide | exact absurd h2 (by decide)
section WG
variable {X : aX} {C S d : Nat} {K0 : Option Value → aH → Nat → Nat → Prop} {h : aH} {nd : Int32} {sa : List Int32} {wl : List Int64}
theorem y_habit (hr : w_hr z_D h) {hd b : Int32} (h0 : 0 ≤ hd.toInt) (h5 : hd.toInt ≤ 5) (hK : ∀ (c : Bool) (H : aH), y_fr h H [] [] → K0 (some (.int (y_01 c))) H C S) : aOK s_P X d a_m260 0 [some (.ref 155), some (.int hd), some (.int b)] [] h C S K0 := by
  refine w_go z_hl [] [] 30 hr ?_
  refine ⟨⟨by omega, by omega⟩, fun l hl len bb => ⟨fun _ => ⟨by decide, fun H hH => hK false H (y_st (y_rf hr) hH (by repeat (first | exact w_nil | refine w_cons (Or.inl (y_m rfl)) ?_ | refine w_cons (Or.inr (by assumption)) ?_)) (by repeat (first | exact w_nil | refine w_cons (Or.inl (y_m rfl)) ?_ | refine w_cons (Or.inr (by assumption)) ?_)))⟩, fun _ => ⟨by decide, fun H hH => hK true H (y_st (y_rf hr) hH (by repeat (first | exact w_nil | refine w_cons (Or.inl (y_m rfl)) ?_ | refine w_cons (Or.inr (by assumption)) ?_)) (by repeat (first | exact w_nil | refine w_cons (Or.inl (y_m rfl)) ?_ | refine w_cons (Or.inr (by assumption)) ?_)))⟩⟩⟩
set_option maxRecDepth 20000 in
theorem y_hearsOne (s : y_wc h nd sa wl) (od : y_od h) {hd cl th : Int32} (h0 : 0 ≤ hd.toInt) (h5 : hd.toInt ≤ 5) (t0 : 0 ≤ th.toInt) (t9 : th.toInt ≤ 9) (hK : ∀ (x : Int32) (H : aH), y_fr h H [19587, 19588, 19589, 19630, 19631, 19632, 19633] [] → y_od H → K0 (some (.int x)) H C S) : aOK s_P X (d + 3) a_m261 0 [some (.ref 155), some (.int hd), some (.int cl), some (.int th), none, none, none, none, none, none, none, none, none, none, none, none, none, none, none, none, none, none, none, none, none, none, none, none, none, none] [] h C S K0 := by
  obtain ⟨nb0, nb10⟩ := y_ndb s.1 s.2.1
  generalize hbt : Int32.ofInt 1 <<< (th &&& 31) = bt
  have hb10 : 0 ≤ bt.toInt ∧ bt.toInt ≤ 1023 := by rw [← hbt]; exact y_bit10 t0 t9
  have T388 : ∀ {G : aH} {as : Bool} {o6 o7 o8 o10 o12 o14 o16 o18 o20 o22 o24 o26 o28 : Option Value} {u l : Int64}, y_fr h G [19587, 19588, 19589, 19630, 19631, 19632, 19633] [] → w_f G 19587 = some (.long u) → w_f G 19588 = some (.long l) → 0 ≤ u.toInt → 1 ≤ l.toInt → aOK s_P X (d + 3) a_m261 388 [some (.ref 155), some (.int hd), some (.int cl), some (.int th), some (.int bt), some (.int (y_01 as)), o6, o7, o8, none, o10, none, o12, none, o14, none, o16, none, o18, none, o20, none, o22, none, o24, none, o26, none, o28, none] [] G C S K0 := by
    intro G as o6 o7 o8 o10 o12 o14 o16 o18 o20 o22 o24 o26 o28 u l e f1 f2 u0 l1
    refine w_go z_hl [] [] 60 e.1 ?_
    intro x hx _ _
    obtain rfl := y_fl f1 hx
    refine ⟨rfl, y_zin u0 (y_l64 u).2, ?_⟩
    intro y hy _ _
    obtain rfl := y_fl f2 hy
    refine ⟨rfl, y_zin (by omega) (y_l64 l).2, ?_⟩
    intro a ha a0 a1
    have a0' : 0 ≤ a.toInt := a0
    have a1' : a.toInt ≤ 1023 := a1
    have fin : ∀ {H : aH} {v1 v2 : Value} {hf : wF}, w_rel z_D G hf [] H → hf.lookup 19630 = some (.long u) → hf.lookup 19631 = some (.long l) → y_fr h H [19587, 19588, 19589, 19630, 19631, 19632, 19633] [] → K0 (some (.int (Int32.ofInt 0))) H C S := fun hH l1' l2' e2 => hK _ _ e2 ⟨u, l, hH.2.1 19630 _ l1', hH.2.1 19631 _ l2', u0, l1⟩
    have bz : 0 ≤ (Int32.ofInt 0).toInt ∧ (Int32.ofInt 0).toInt ≤ 1023 := by decide
    cases as with
    | true =>
      have r1 := y_or10 a0' a1' hb10.1 hb10.2
      refine ⟨fun q => absurd q (by decide), fun _ => ⟨rfl, y_zini r1.1 r1.2, ?_⟩⟩
      intro b hb b0 b1
      have b0' : 0 ≤ b.toInt := b0
      have b1' : b.toInt ≤ 1023 := b1
      have r2 := y_or10 b0' b1' bz.1 bz.2
      refine ⟨fun q => absurd q (by decide), fun _ => ⟨rfl, y_zini r2.1 r2.2, fun H hH => ?_⟩⟩
      exact fin (v1 := .int a) (v2 := .int b) hH rfl rfl (y_st e hH (by repeat (first | exact w_nil | refine w_cons (Or.inl (y_m rfl)) ?_ | refine w_cons (Or.inr (by assumption)) ?_)) (by repeat (first | exact w_nil | refine w_cons (Or.inl (y_m rfl)) ?_ | refine w_cons (Or.inr (by assumption)) ?_)))
    | false =>
      have r1 := y_or10 a0' a1' bz.1 bz.2
      refine ⟨fun _ => ⟨rfl, y_zini r1.1 r1.2, ?_⟩, fun q => absurd q (by decide)⟩
      intro b hb b0 b1
      have b0' : 0 ≤ b.toInt := b0
      have b1' : b.toInt ≤ 1023 := b1
      have r2 := y_or10 b0' b1' hb10.1 hb10.2
      refine ⟨fun _ => ⟨rfl, y_zini r2.1 r2.2, fun H hH => ?_⟩, fun q => absurd q (by decide)⟩
      exact fin (v1 := .int a) (v2 := .int b) hH rfl rfl (y_st e hH (by repeat (first | exact w_nil | refine w_cons (Or.inl (y_m rfl)) ?_ | refine w_cons (Or.inr (by assumption)) ?_)) (by repeat (first | exact w_nil | refine w_cons (Or.inl (y_m rfl)) ?_ | refine w_cons (Or.inr (by assumption)) ?_)))
  have T378 : ∀ {G : aH} {as : Bool} {w wo : Int32} {oc on p q nv pu pl n dd bu bl u l : Int64}, y_fr h G [19587, 19588, 19589, 19630, 19631, 19632, 19633] [] → y_od G → w_f G 19587 = some (.long u) → w_f G 19588 = some (.long l) → 0 ≤ u.toInt → 1 ≤ l.toInt → aOK s_P X (d + 3) a_m261 378 [some (.ref 155), some (.int hd), some (.int cl), some (.int th), some (.int bt), some (.int (y_01 as)), some (.int w), some (.int wo), some (.long oc), none, some (.long on), none, some (.long p), none, some (.long q), none, some (.long nv), none, some (.long pu), none, some (.long pl), none, some (.long n), none, some (.long dd), none, some (.long bu), none, some (.long bl), none] [] G C S K0 := by
    intro G as w wo oc on p q nv pu pl n dd bu bl u l e od2 f1 f2 u0 l1
    refine w_go z_hl [388] [] 40 e.1 ?_
    intro x hx _ _
    refine ⟨fun _ => fun H hH => ?_, fun _ => fun H hH => ?_⟩
    · have f : y_fr G H [] [] := y_st (y_rf e.1) hH (by repeat (first | exact w_nil | refine w_cons (Or.inl (y_m rfl)) ?_ | refine w_cons (Or.inr (by assumption)) ?_)) (by repeat (first | exact w_nil | refine w_cons (Or.inl (y_m rfl)) ?_ | refine w_cons (Or.inr (by assumption)) ?_))
      exact T388 (y_sq e f rfl rfl) ((y_fe f rfl).trans f1) ((y_fe f rfl).trans f2) u0 l1
    · have f : y_fr G H [] [] := y_st (y_rf e.1) hH (by repeat (first | exact w_nil | refine w_cons (Or.inl (y_m rfl)) ?_ | refine w_cons (Or.inr (by assumption)) ?_)) (by repeat (first | exact w_nil | refine w_cons (Or.inl (y_m rfl)) ?_ | refine w_cons (Or.inr (by assumption)) ?_))
      exact hK _ H (y_sq e f rfl rfl) (y_od_fr od2 f rfl rfl)
  have T346 : ∀ {G : aH} {as : Bool} {w wo : Int32} {oc on p q nv pu pl n dd u l : Int64}, y_fr h G [19587, 19588, 19589, 19630, 19631, 19632, 19633] [] → y_od G → w_f G 19587 = some (.long u) → w_f G 19588 = some (.long l) → 0 ≤ u.toInt → 1 ≤ l.toInt → 0 ≤ n.toInt → 1 ≤ dd.toInt → aOK s_P X (d + 3) a_m261 346 [some (.ref 155), some (.int hd), some (.int cl), some (.int th), some (.int bt), some (.int (y_01 as)), some (.int w), some (.int wo), some (.long oc), none, some (.long on), none, some (.long p), none, some (.long q), none, some (.long nv), none, some (.long pu), none, some (.long pl), none, some (.long n), none, some (.long dd), none, none, none, none, none] [] G C S K0 := by
    intro G as w wo oc on p q nv pu pl n dd u l e od2 f1 f2 u0 l1 n0 d1
    refine w_go z_hl [] [215] 40 e.1 ?_
    intro x hx _ _
    obtain rfl := y_fl f1 hx
    intro y hy _ _
    obtain rfl := y_fl f2 hy
    refine ⟨rfl, y_zin (y_l64 n).1 (y_l64 n).2, rfl, y_zin (by show 0 ≤ dd.toInt; omega) (y_l64 dd).2, fun H hH => ?_⟩
    have f : y_fr G H [19587, 19588] [] := y_st (y_mo (y_rf e.1) rfl rfl) hH (by repeat (first | exact w_nil | refine w_cons (Or.inl (y_m rfl)) ?_ | refine w_cons (Or.inr (by assumption)) ?_)) (by repeat (first | exact w_nil | refine w_cons (Or.inl (y_m rfl)) ?_ | refine w_cons (Or.inr (by assumption)) ?_))
    have e2 : y_fr h H [19587, 19588, 19589, 19630, 19631, 19632, 19633] [] := y_sq e f rfl rfl
    refine y_times (n := u) (m := l) e2.1 u0 l1 (hH.2.1 19587 _ rfl) (hH.2.1 19588 _ rfl) n0 d1 (fun u' l' H2 a0 b0 a1 b1 g1 g2 e3 => ⟨fun n e => (by cases e), ?_⟩)
    exact T378 (y_sq e2 e3 rfl rfl) (y_od_fr (y_od_fr od2 f rfl rfl) e3 rfl rfl) g1 g2 a0 b0
  have T294 : ∀ {G : aH} {as : Bool} {w wo : Int32} {oc on p q nv pu pl u l : Int64}, y_fr h G [19587, 19588, 19589, 19630, 19631, 19632, 19633] [] → y_od G → w_f G 19587 = some (.long u) → w_f G 19588 = some (.long l) → 0 ≤ u.toInt → 1 ≤ l.toInt → 0 ≤ on.toInt → 0 ≤ nv.toInt → aOK s_P X (d + 3) a_m261 294 [some (.ref 155), some (.int hd), some (.int cl), some (.int th), some (.int bt), some (.int (y_01 as)), some (.int w), some (.int wo), some (.long oc), none, some (.long on), none, some (.long p), none, some (.long q), none, some (.long nv), none, some (.long pu), none, some (.long pl), none, none, none, none, none, none, none, none, none] [] G C S K0 := by
    intro G as w wo oc on p q nv pu pl u l e od2 f1 f2 u0 l1 on0 nv0
    refine w_go z_hl [] [194] 40 e.1 ?_
    intro x hx _ _
    have fin : ∀ {H : aH} {v : Int32}, y_fr G H [] [] → K0 (some (.int v)) H C S := fun f => hK _ _ (y_sq e f rfl rfl) (y_od_fr od2 f rfl rfl)
    have f0 : y_fr G G [] [] := y_rf e.1
    refine ⟨fun _ => ⟨fun q => ?_, fun _ => ?_⟩, fun _ => fun H hH => fin (y_st f0 hH (by repeat (first | exact w_nil | refine w_cons (Or.inl (y_m rfl)) ?_ | refine w_cons (Or.inr (by assumption)) ?_)) (by repeat (first | exact w_nil | refine w_cons (Or.inl (y_m rfl)) ?_ | refine w_cons (Or.inr (by assumption)) ?_)))⟩
    · have q2 : nv.toInt ≠ (Int64.ofNat 0).toInt := (y_cl .ne _ _).mp q
      rw [show (Int64.ofNat 0).toInt = 0 by decide] at q2
      intro y hy _ _
      obtain rfl := y_fl f1 hy
      intro z hz _ _
      obtain rfl := y_fl f2 hz
      intro H hH
      have f : y_fr G H [] [] := y_st f0 hH (by repeat (first | exact w_nil | refine w_cons (Or.inl (y_m rfl)) ?_ | refine w_cons (Or.inr (by assumption)) ?_)) (by repeat (first | exact w_nil | refine w_cons (Or.inl (y_m rfl)) ?_ | refine w_cons (Or.inr (by assumption)) ?_))
      refine q_lowest (n := on) (m := nv) f.1 (by omega) (by omega) (fun u' l' H2 e3 g1 g2 g3 g4 g5 g6 g7 => ⟨fun n e => (by cases e), ?_⟩)
      exact T346 (y_sq (y_sq e f rfl rfl) e3 rfl rfl) (y_od_fr (y_od_fr od2 f rfl rfl) e3 rfl rfl) g1 g2 (g7 on0) g3 u0 l1
    · intro y hy _ _
      exact ⟨fun _ => fun H hH => fin (y_st f0 hH (by repeat (first | exact w_nil | refine w_cons (Or.inl (y_m rfl)) ?_ | refine w_cons (Or.inr (by assumption)) ?_)) (by repeat (first | exact w_nil | refine w_cons (Or.inl (y_m rfl)) ?_ | refine w_cons (Or.inr (by assumption)) ?_))), fun _ => fun H hH => fin (y_st f0 hH (by repeat (first | exact w_nil | refine w_cons (Or.inl (y_m rfl)) ?_ | refine w_cons (Or.inr (by assumption)) ?_)) (by repeat (first | exact w_nil | refine w_cons (Or.inl (y_m rfl)) ?_ | refine w_cons (Or.inr (by assumption)) ?_)))⟩
  have T258 : ∀ {G : aH} {as : Bool} {w wo : Int32} {oc on p q nv u l : Int64}, y_fr h G [19587, 19588, 19589, 19630, 19631, 19632, 19633] [] → y_od G → w_f G 19587 = some (.long u) → w_f G 19588 = some (.long l) → 0 ≤ u.toInt → 1 ≤ l.toInt → 0 ≤ on.toInt → 0 ≤ nv.toInt → aOK s_P X (d + 3) a_m261 258 [some (.ref 155), some (.int hd), some (.int cl), some (.int th), some (.int bt), some (.int (y_01 as)), some (.int w), some (.int wo), some (.long oc), none, some (.long on), none, some (.long p), none, some (.long q), none, some (.long nv), none, none, none, none, none, none, none, none, none, none, none, none, none] [] G C S K0 := by
    intro G as w wo oc on p q nv u l e od2 f1 f2 u0 l1 on0 nv0
    obtain ⟨ou, ol, o1, o2, o3, o4⟩ := id od2
    refine w_go z_hl [] [215] 40 e.1 ?_
    intro x hx _ _
    obtain rfl := y_fl f1 hx
    intro y hy _ _
    obtain rfl := y_fl f2 hy
    intro z hz _ _
    obtain rfl := y_fl o1 hz
    refine ⟨rfl, y_zin (y_l64 ou).1 (y_l64 ou).2, ?_⟩
    intro v hv _ _
    obtain rfl := y_fl o2 hv
    refine ⟨rfl, y_zin (by show 0 ≤ ol.toInt; omega) (y_l64 ol).2, fun H hH => ?_⟩
    have f : y_fr G H [19587, 19588] [] := y_st (y_mo (y_rf e.1) rfl rfl) hH (by repeat (first | exact w_nil | refine w_cons (Or.inl (y_m rfl)) ?_ | refine w_cons (Or.inr (by assumption)) ?_)) (by repeat (first | exact w_nil | refine w_cons (Or.inl (y_m rfl)) ?_ | refine w_cons (Or.inr (by assumption)) ?_))
    have e2 : y_fr h H [19587, 19588, 19589, 19630, 19631, 19632, 19633] [] := y_sq e f rfl rfl
    refine y_times (n := u) (m := l) e2.1 u0 l1 (hH.2.1 19587 _ rfl) (hH.2.1 19588 _ rfl) o3 o4 (fun u' l' H2 a0 b0 a1 b1 g1 g2 e3 => ⟨fun n e => (by cases e), ?_⟩)
    exact T294 (y_sq e2 e3 rfl rfl) (y_od_fr (y_od_fr od2 f rfl rfl) e3 rfl rfl) g1 g2 a0 b0 on0 nv0
  have T247 : ∀ {G : aH} {as : Bool} {w wo : Int32} {oc on p q nv u l : Int64}, y_fr h G [19587, 19588, 19589, 19630, 19631, 19632, 19633] [] → w_f G 19587 = some (.long u) → w_f G 19588 = some (.long l) → 0 ≤ u.toInt → 1 ≤ l.toInt → aOK s_P X (d + 3) a_m261 247 [some (.ref 155), some (.int hd), some (.int cl), some (.int th), some (.int bt), some (.int (y_01 as)), some (.int w), some (.int wo), some (.long oc), none, some (.long on), none, some (.long p), none, some (.long q), none, some (.long nv), none, none, none, none, none, none, none, none, none, none, none, none, none] [] G C S K0 := by
    intro G as w wo oc on p q nv u l e f1 f2 u0 l1
    refine w_go z_hl [388] [] 40 e.1 ?_
    intro H hH
    have f : y_fr G H [] [] := y_st (y_rf e.1) hH (by repeat (first | exact w_nil | refine w_cons (Or.inl (y_m rfl)) ?_ | refine w_cons (Or.inr (by assumption)) ?_)) (by repeat (first | exact w_nil | refine w_cons (Or.inl (y_m rfl)) ?_ | refine w_cons (Or.inr (by assumption)) ?_))
    exact T388 (y_sq e f rfl rfl) ((y_fe f rfl).trans f1) ((y_fe f rfl).trans f2) u0 l1
  have T224 : ∀ {G : aH} {as c : Bool} {w wo : Int32} {oc on p q nv : Int64}, y_fr h G [19587, 19588, 19589, 19630, 19631, 19632, 19633] [] → y_od G → 1 ≤ oc.toInt → 0 ≤ on.toInt → on.toInt ≤ 100000000 → 0 ≤ p.toInt → 0 ≤ nv.toInt → nv.toInt ≤ on.toInt → aOK s_P X (d + 3) a_m261 224 [some (.ref 155), some (.int hd), some (.int cl), some (.int th), some (.int bt), some (.int (y_01 as)), some (.int w), some (.int wo), some (.long oc), none, some (.long on), none, some (.long p), none, some (.long q), none, some (.long nv), none, none, none, none, none, none, none, none, none, none, none, none, none] [.int (y_01 c)] G C S K0 := by
    intro G as c w wo oc on p q nv e od2 oc1 on0 on8 p0 nv0 nvo
    have sb : (on - nv).toInt = on.toInt - nv.toInt := y_lsub (by omega) (by omega)
    have f0 : y_fr G G [] [] := y_rf e.1
    refine w_go z_hl [] [194] 40 e.1 ?_
    refine ⟨fun _ => fun H hH => ?_, fun _ => ⟨fun q => fun H hH => ?_, fun _ => fun H hH => hK _ H (y_sq e (y_st f0 hH (by repeat (first | exact w_nil | refine w_cons (Or.inl (y_m rfl)) ?_ | refine w_cons (Or.inr (by assumption)) ?_)) (by repeat (first | exact w_nil | refine w_cons (Or.inl (y_m rfl)) ?_ | refine w_cons (Or.inr (by assumption)) ?_))) rfl rfl) (y_od_fr od2 (y_st f0 hH (by repeat (first | exact w_nil | refine w_cons (Or.inl (y_m rfl)) ?_ | refine w_cons (Or.inr (by assumption)) ?_)) (by repeat (first | exact w_nil | refine w_cons (Or.inl (y_m rfl)) ?_ | refine w_cons (Or.inr (by assumption)) ?_))) rfl rfl)⟩⟩
    · have f : y_fr G H [] [] := y_st f0 hH (by repeat (first | exact w_nil | refine w_cons (Or.inl (y_m rfl)) ?_ | refine w_cons (Or.inr (by assumption)) ?_)) (by repeat (first | exact w_nil | refine w_cons (Or.inl (y_m rfl)) ?_ | refine w_cons (Or.inr (by assumption)) ?_))
      refine q_lowest (n := p) (m := oc) f.1 (by omega) oc1 (fun u' l' H2 e3 g1 g2 g3 g4 g5 g6 g7 => ⟨fun n e => (by cases e), ?_⟩)
      exact T258 (y_sq (y_sq e f rfl rfl) e3 rfl rfl) (y_od_fr (y_od_fr od2 f rfl rfl) e3 rfl rfl) g1 g2 (g7 p0) g3 on0 nv0
    · have q2 : nv.toInt ≠ (Int64.ofNat 0).toInt := (y_cl .ne _ _).mp q
      rw [show (Int64.ofNat 0).toInt = 0 by decide] at q2
      have f : y_fr G H [] [] := y_st f0 hH (by repeat (first | exact w_nil | refine w_cons (Or.inl (y_m rfl)) ?_ | refine w_cons (Or.inr (by assumption)) ?_)) (by repeat (first | exact w_nil | refine w_cons (Or.inl (y_m rfl)) ?_ | refine w_cons (Or.inr (by assumption)) ?_))
      refine q_lowest (n := on - nv) (m := nv) f.1 (by omega) (by omega) (fun u' l' H2 e3 g1 g2 g3 g4 g5 g6 g7 => ⟨fun n e => (by cases e), ?_⟩)
      exact T247 (y_sq (y_sq e f rfl rfl) e3 rfl rfl) g1 g2 (g7 (by omega)) g3
  have T216 : ∀ {G : aH} {as : Bool} {w wo : Int32} {oc on p q nv : Int64}, y_fr h G [19587, 19588, 19589, 19630, 19631, 19632, 19633] [] → y_od G → 1 ≤ oc.toInt → 0 ≤ on.toInt → on.toInt ≤ 100000000 → 0 ≤ p.toInt → 0 ≤ nv.toInt → nv.toInt ≤ on.toInt → aOK s_P X (d + 3) a_m261 216 [some (.ref 155), some (.int hd), some (.int cl), some (.int th), some (.int bt), some (.int (y_01 as)), some (.int w), some (.int wo), some (.long oc), none, some (.long on), none, some (.long p), none, some (.long q), none, none, none, none, none, none, none, none, none, none, none, none, none, none, none] [.long nv] G C S K0 := by
    intro G as w wo oc on p q nv e od2 oc1 on0 on8 p0 nv0 nvo
    refine w_go z_hl [] [260] 40 e.1 ?_
    intro H hH
    have f : y_fr G H [] [] := y_st (y_rf e.1) hH (by repeat (first | exact w_nil | refine w_cons (Or.inl (y_m rfl)) ?_ | refine w_cons (Or.inr (by assumption)) ?_)) (by repeat (first | exact w_nil | refine w_cons (Or.inl (y_m rfl)) ?_ | refine w_cons (Or.inr (by assumption)) ?_))
    refine y_habit f.1 h0 h5 (fun c H2 e3 => ⟨fun n e => (by cases e), ?_⟩)
    exact T224 (y_sq (y_sq e f rfl rfl) e3 rfl rfl) (y_od_fr (y_od_fr od2 f rfl rfl) e3 rfl rfl) oc1 on0 on8 p0 nv0 nvo
  have T187 : ∀ {G : aH} {as c : Bool} {w wo : Int32} {oc on p q : Int64}, y_fr h G [19587, 19588, 19589, 19630, 19631, 19632, 19633] [] → y_od G → 1 ≤ oc.toInt → 0 ≤ on.toInt → on.toInt ≤ 100000000 → 0 ≤ p.toInt → 0 ≤ q.toInt → q.toInt ≤ on.toInt → aOK s_P X (d + 3) a_m261 187 [some (.ref 155), some (.int hd), some (.int cl), some (.int th), some (.int bt), some (.int (y_01 as)), some (.int w), some (.int wo), some (.long oc), none, some (.long on), none, some (.long p), none, some (.long q), none, none, none, none, none, none, none, none, none, none, none, none, none, none, none] [.int (y_01 c)] G C S K0 := by
    intro G as c w wo oc on p q e od2 oc1 on0 on8 p0 q0 qo
    have f0 : y_fr G G [] [] := y_rf e.1
    refine w_go z_hl [216] [] 40 e.1 ?_
    refine ⟨fun _ => fun H hH => T216 (y_sq e (y_st f0 hH (by repeat (first | exact w_nil | refine w_cons (Or.inl (y_m rfl)) ?_ | refine w_cons (Or.inr (by assumption)) ?_)) (by repeat (first | exact w_nil | refine w_cons (Or.inl (y_m rfl)) ?_ | refine w_cons (Or.inr (by assumption)) ?_))) rfl rfl) (y_od_fr od2 (y_st f0 hH (by repeat (first | exact w_nil | refine w_cons (Or.inl (y_m rfl)) ?_ | refine w_cons (Or.inr (by assumption)) ?_)) (by repeat (first | exact w_nil | refine w_cons (Or.inl (y_m rfl)) ?_ | refine w_cons (Or.inr (by assumption)) ?_))) rfl rfl) oc1 on0 on8 p0 q0 qo, fun _ => ⟨⟨by omega, by omega⟩, fun l hl len bb => ⟨fun _ => fun H hH => T216 (y_sq e (y_st f0 hH (by repeat (first | exact w_nil | refine w_cons (Or.inl (y_m rfl)) ?_ | refine w_cons (Or.inr (by assumption)) ?_)) (by repeat (first | exact w_nil | refine w_cons (Or.inl (y_m rfl)) ?_ | refine w_cons (Or.inr (by assumption)) ?_))) rfl rfl) (y_od_fr od2 (y_st f0 hH (by repeat (first | exact w_nil | refine w_cons (Or.inl (y_m rfl)) ?_ | refine w_cons (Or.inr (by assumption)) ?_)) (by repeat (first | exact w_nil | refine w_cons (Or.inl (y_m rfl)) ?_ | refine w_cons (Or.inr (by assumption)) ?_))) rfl rfl) oc1 on0 on8 p0 q0 qo, fun _ => fun H hH => T216 (y_sq e (y_st f0 hH (by repeat (first | exact w_nil | refine w_cons (Or.inl (y_m rfl)) ?_ | refine w_cons (Or.inr (by assumption)) ?_)) (by repeat (first | exact w_nil | refine w_cons (Or.inl (y_m rfl)) ?_ | refine w_cons (Or.inr (by assumption)) ?_))) rfl rfl) (y_od_fr od2 (y_st f0 hH (by repeat (first | exact w_nil | refine w_cons (Or.inl (y_m rfl)) ?_ | refine w_cons (Or.inr (by assumption)) ?_)) (by repeat (first | exact w_nil | refine w_cons (Or.inl (y_m rfl)) ?_ | refine w_cons (Or.inr (by assumption)) ?_))) rfl rfl) oc1 on0 on8 p0 (by decide) on0⟩⟩⟩
  have T178 : ∀ {G : aH} {as : Bool} {w wo : Int32} {oc on p q : Int64}, y_fr h G [19587, 19588, 19589, 19630, 19631, 19632, 19633] [] → y_od G → 1 ≤ oc.toInt → 0 ≤ on.toInt → on.toInt ≤ 100000000 → 0 ≤ p.toInt → 0 ≤ q.toInt → q.toInt ≤ on.toInt → aOK s_P X (d + 3) a_m261 178 [some (.ref 155), some (.int hd), some (.int cl), some (.int th), some (.int bt), some (.int (y_01 as)), some (.int w), some (.int wo), some (.long oc), none, some (.long on), none, some (.long p), none, none, none, none, none, none, none, none, none, none, none, none, none, none, none, none, none] [.long q] G C S K0 := by
    intro G as w wo oc on p q e od2 oc1 on0 on8 p0 q0 qo
    refine w_go z_hl [] [260] 40 e.1 ?_
    intro H hH
    have f : y_fr G H [] [] := y_st (y_rf e.1) hH (by repeat (first | exact w_nil | refine w_cons (Or.inl (y_m rfl)) ?_ | refine w_cons (Or.inr (by assumption)) ?_)) (by repeat (first | exact w_nil | refine w_cons (Or.inl (y_m rfl)) ?_ | refine w_cons (Or.inr (by assumption)) ?_))
    refine y_habit f.1 h0 h5 (fun c H2 e3 => ⟨fun n e => (by cases e), ?_⟩)
    exact T187 (y_sq (y_sq e f rfl rfl) e3 rfl rfl) (y_od_fr (y_od_fr od2 f rfl rfl) e3 rfl rfl) oc1 on0 on8 p0 q0 qo
  have T175 : ∀ {G : aH} {as : Bool} {w wo x y : Int32} {oc on p : Int64}, y_fr h G [19587, 19588, 19589, 19630, 19631, 19632, 19633] [] → y_od G → 1 ≤ oc.toInt → on.toInt = y_ws wl w (wo ||| Int32.ofInt 1 <<< (cl &&& 31)) (y_ways nd) → 0 ≤ p.toInt → aOK s_P X (d + 3) a_m261 175 [some (.ref 155), some (.int hd), some (.int cl), some (.int th), some (.int bt), some (.int (y_01 as)), some (.int w), some (.int wo), some (.long oc), none, some (.long on), none, some (.long p), none, none, none, none, none, none, none, none, none, none, none, none, none, none, none, none, none] [.int ((wo ||| Int32.ofInt 1 <<< (cl &&& 31)) ||| y), .int (w ||| x), .ref 155] G C S K0 := by
    intro G as w wo x y oc on p e od2 oc1 hon p0
    refine w_go z_hl [] [193] 40 e.1 ?_
    intro H hH
    have f : y_fr G H [] [] := y_st (y_rf e.1) hH (by repeat (first | exact w_nil | refine w_cons (Or.inl (y_m rfl)) ?_ | refine w_cons (Or.inr (by assumption)) ?_)) (by repeat (first | exact w_nil | refine w_cons (Or.inl (y_m rfl)) ?_ | refine w_cons (Or.inr (by assumption)) ?_))
    have e2 := y_sq e f rfl rfl
    have s2 := y_wc_fr s e2 rfl rfl rfl
    refine aOK_deep (d := d + 1) (by omega) (y_weighs s2.1 s2.2.1 s2.2.2.2 (fun r H2 e3 hr => ⟨fun n e => (by cases e), ?_⟩))
    have bb := y_ws_b s.2.2.2.2.1 (a := w ||| x) (b := (wo ||| Int32.ofInt 1 <<< (cl &&& 31)) ||| y) (y_ways nd)
    have bo := y_ws_b s.2.2.2.2.1 (a := w) (b := wo ||| Int32.ofInt 1 <<< (cl &&& 31)) (y_ways nd)
    have t := y_tot_m s.2.2.2.2.1 (y_all nb0 nb10).2.2
    have tw := s.2.2.2.2.2
    have mm := y_ws_m s.2.2.2.2.1 (i_orM w x) (i_orM (wo ||| Int32.ofInt 1 <<< (cl &&& 31)) y) (y_ways nd)
    exact T178 (y_sq e2 e3 rfl rfl) (y_od_fr (y_od_fr od2 f rfl rfl) e3 rfl rfl) oc1 (by omega) (by omega) p0 (by omega) (by omega)
  have T140 : ∀ {G : aH} {as : Bool} {w wo : Int32} {oc on p : Int64}, y_fr h G [19587, 19588, 19589, 19630, 19631, 19632, 19633] [] → y_od G → 1 ≤ oc.toInt → on.toInt = y_ws wl w (wo ||| Int32.ofInt 1 <<< (cl &&& 31)) (y_ways nd) → 0 ≤ p.toInt → aOK s_P X (d + 3) a_m261 140 [some (.ref 155), some (.int hd), some (.int cl), some (.int th), some (.int bt), some (.int (y_01 as)), some (.int w), some (.int wo), some (.long oc), none, some (.long on), none, none, none, none, none, none, none, none, none, none, none, none, none, none, none, none, none, none, none] [.long p] G C S K0 := by
    intro G as w wo oc on p e od2 oc1 hon p0
    have f0 : y_fr G G [] [] := y_rf e.1
    refine w_go z_hl [175] [] 40 e.1 ?_
    cases as with
    | true => exact ⟨fun q => absurd q (by decide), fun _ => ⟨fun q => absurd q (by decide), fun _ => fun H hH => T175 (as := true) (y_sq e (y_st f0 hH (by repeat (first | exact w_nil | refine w_cons (Or.inl (y_m rfl)) ?_ | refine w_cons (Or.inr (by assumption)) ?_)) (by repeat (first | exact w_nil | refine w_cons (Or.inl (y_m rfl)) ?_ | refine w_cons (Or.inr (by assumption)) ?_))) rfl rfl) (y_od_fr od2 (y_st f0 hH (by repeat (first | exact w_nil | refine w_cons (Or.inl (y_m rfl)) ?_ | refine w_cons (Or.inr (by assumption)) ?_)) (by repeat (first | exact w_nil | refine w_cons (Or.inl (y_m rfl)) ?_ | refine w_cons (Or.inr (by assumption)) ?_))) rfl rfl) oc1 hon p0⟩⟩
    | false => exact ⟨fun _ => ⟨fun _ => fun H hH => T175 (as := false) (y_sq e (y_st f0 hH (by repeat (first | exact w_nil | refine w_cons (Or.inl (y_m rfl)) ?_ | refine w_cons (Or.inr (by assumption)) ?_)) (by repeat (first | exact w_nil | refine w_cons (Or.inl (y_m rfl)) ?_ | refine w_cons (Or.inr (by assumption)) ?_))) rfl rfl) (y_od_fr od2 (y_st f0 hH (by repeat (first | exact w_nil | refine w_cons (Or.inl (y_m rfl)) ?_ | refine w_cons (Or.inr (by assumption)) ?_)) (by repeat (first | exact w_nil | refine w_cons (Or.inl (y_m rfl)) ?_ | refine w_cons (Or.inr (by assumption)) ?_))) rfl rfl) oc1 hon p0, fun q => absurd q (by decide)⟩, fun q => absurd q (by decide)⟩
  have T137 : ∀ {G : aH} {as : Bool} {w wo x y : Int32} {oc on : Int64}, y_fr h G [19587, 19588, 19589, 19630, 19631, 19632, 19633] [] → y_od G → 1 ≤ oc.toInt → on.toInt = y_ws wl w (wo ||| Int32.ofInt 1 <<< (cl &&& 31)) (y_ways nd) → aOK s_P X (d + 3) a_m261 137 [some (.ref 155), some (.int hd), some (.int cl), some (.int th), some (.int bt), some (.int (y_01 as)), some (.int w), some (.int wo), some (.long oc), none, some (.long on), none, none, none, none, none, none, none, none, none, none, none, none, none, none, none, none, none, none, none] [.int y, .int x, .ref 155] G C S K0 := by
    intro G as w wo x y oc on e od2 oc1 hon
    refine w_go z_hl [] [193] 40 e.1 ?_
    intro H hH
    have f : y_fr G H [] [] := y_st (y_rf e.1) hH (by repeat (first | exact w_nil | refine w_cons (Or.inl (y_m rfl)) ?_ | refine w_cons (Or.inr (by assumption)) ?_)) (by repeat (first | exact w_nil | refine w_cons (Or.inl (y_m rfl)) ?_ | refine w_cons (Or.inr (by assumption)) ?_))
    have e2 := y_sq e f rfl rfl
    refine aOK_deep (d := d + 1) (by omega) (q_weighs (y_wc_fr s e2 rfl rfl rfl) (fun r H2 e3 r0 r8 => ⟨fun n e => (by cases e), ?_⟩))
    exact T140 (y_sq e2 e3 rfl rfl) (y_od_fr (y_od_fr od2 f rfl rfl) e3 rfl rfl) oc1 hon r0
  have T86 : ∀ {G : aH} {as : Bool} {w wo : Int32} {oc on : Int64}, y_fr h G [19587, 19588, 19589, 19630, 19631, 19632, 19633] [] → y_od G → 0 ≤ oc.toInt → on.toInt = y_ws wl w (wo ||| Int32.ofInt 1 <<< (cl &&& 31)) (y_ways nd) → aOK s_P X (d + 3) a_m261 86 [some (.ref 155), some (.int hd), some (.int cl), some (.int th), some (.int bt), some (.int (y_01 as)), some (.int w), some (.int wo), some (.long oc), none, none, none, none, none, none, none, none, none, none, none, none, none, none, none, none, none, none, none, none, none] [.long on] G C S K0 := by
    intro G as w wo oc on e od2 oc0 hon
    have f0 : y_fr G G [] [] := y_rf e.1
    have fin : ∀ {H : aH} {v : Int32}, y_fr G H [] [] → K0 (some (.int v)) H C S := fun f => hK _ _ (y_sq e f rfl rfl) (y_od_fr od2 f rfl rfl)
    refine w_go z_hl [137] [] 60 e.1 ?_
    refine ⟨fun _ => fun H hH => fin (y_st f0 hH (by repeat (first | exact w_nil | refine w_cons (Or.inl (y_m rfl)) ?_ | refine w_cons (Or.inr (by assumption)) ?_)) (by repeat (first | exact w_nil | refine w_cons (Or.inl (y_m rfl)) ?_ | refine w_cons (Or.inr (by assumption)) ?_))), fun q => ⟨fun _ => ?_, fun _ => fun H hH => fin (y_st f0 hH (by repeat (first | exact w_nil | refine w_cons (Or.inl (y_m rfl)) ?_ | refine w_cons (Or.inr (by assumption)) ?_)) (by repeat (first | exact w_nil | refine w_cons (Or.inl (y_m rfl)) ?_ | refine w_cons (Or.inr (by assumption)) ?_)))⟩⟩
    have q2 : ¬ (oc.toInt = (Int64.ofNat 0).toInt) := y_clf q
    rw [show (Int64.ofNat 0).toInt = 0 by decide] at q2
    cases as with
    | true => exact ⟨fun q => absurd q (by decide), fun _ => ⟨fun q => absurd q (by decide), fun _ => fun H hH => T137 (as := true) (y_sq e (y_st f0 hH (by repeat (first | exact w_nil | refine w_cons (Or.inl (y_m rfl)) ?_ | refine w_cons (Or.inr (by assumption)) ?_)) (by repeat (first | exact w_nil | refine w_cons (Or.inl (y_m rfl)) ?_ | refine w_cons (Or.inr (by assumption)) ?_))) rfl rfl) (y_od_fr od2 (y_st f0 hH (by repeat (first | exact w_nil | refine w_cons (Or.inl (y_m rfl)) ?_ | refine w_cons (Or.inr (by assumption)) ?_)) (by repeat (first | exact w_nil | refine w_cons (Or.inl (y_m rfl)) ?_ | refine w_cons (Or.inr (by assumption)) ?_))) rfl rfl) (by omega) hon⟩⟩
    | false => exact ⟨fun _ => ⟨fun _ => fun H hH => T137 (as := false) (y_sq e (y_st f0 hH (by repeat (first | exact w_nil | refine w_cons (Or.inl (y_m rfl)) ?_ | refine w_cons (Or.inr (by assumption)) ?_)) (by repeat (first | exact w_nil | refine w_cons (Or.inl (y_m rfl)) ?_ | refine w_cons (Or.inr (by assumption)) ?_))) rfl rfl) (y_od_fr od2 (y_st f0 hH (by repeat (first | exact w_nil | refine w_cons (Or.inl (y_m rfl)) ?_ | refine w_cons (Or.inr (by assumption)) ?_)) (by repeat (first | exact w_nil | refine w_cons (Or.inl (y_m rfl)) ?_ | refine w_cons (Or.inr (by assumption)) ?_))) rfl rfl) (by omega) hon, fun q => absurd q (by decide)⟩, fun q => absurd q (by decide)⟩
  have T72 : ∀ {G : aH} {as : Bool} {w wo : Int32} {oc : Int64}, y_fr h G [19587, 19588, 19589, 19630, 19631, 19632, 19633] [] → y_od G → 0 ≤ oc.toInt → aOK s_P X (d + 3) a_m261 72 [some (.ref 155), some (.int hd), some (.int cl), some (.int th), some (.int bt), some (.int (y_01 as)), some (.int w), some (.int wo), none, none, none, none, none, none, none, none, none, none, none, none, none, none, none, none, none, none, none, none, none, none] [.long oc] G C S K0 := by
    intro G as w wo oc e od2 oc0
    refine w_go z_hl [] [193] 40 e.1 ?_
    intro H hH
    have f : y_fr G H [] [] := y_st (y_rf e.1) hH (by repeat (first | exact w_nil | refine w_cons (Or.inl (y_m rfl)) ?_ | refine w_cons (Or.inr (by assumption)) ?_)) (by repeat (first | exact w_nil | refine w_cons (Or.inl (y_m rfl)) ?_ | refine w_cons (Or.inr (by assumption)) ?_))
    have e2 := y_sq e f rfl rfl
    have s2 := y_wc_fr s e2 rfl rfl rfl
    refine aOK_deep (d := d + 1) (by omega) (y_weighs s2.1 s2.2.1 s2.2.2.2 (fun r H2 e3 hr => ⟨fun n e => (by cases e), ?_⟩))
    exact T86 (y_sq e2 e3 rfl rfl) (y_od_fr (y_od_fr od2 f rfl rfl) e3 rfl rfl) oc0 hr
  have T58 : ∀ {G : aH} {as : Bool} {w wo : Int32}, y_fr h G [19587, 19588, 19589, 19630, 19631, 19632, 19633] [] → y_od G → aOK s_P X (d + 3) a_m261 58 [some (.ref 155), some (.int hd), some (.int cl), some (.int th), some (.int bt), some (.int (y_01 as)), some (.int w), none, none, none, none, none, none, none, none, none, none, none, none, none, none, none, none, none, none, none, none, none, none, none] [.int wo] G C S K0 := by
    intro G as w wo e od2
    refine w_go z_hl [] [193] 40 e.1 ?_
    intro H hH
    have f : y_fr G H [] [] := y_st (y_rf e.1) hH (by repeat (first | exact w_nil | refine w_cons (Or.inl (y_m rfl)) ?_ | refine w_cons (Or.inr (by assumption)) ?_)) (by repeat (first | exact w_nil | refine w_cons (Or.inl (y_m rfl)) ?_ | refine w_cons (Or.inr (by assumption)) ?_))
    have e2 := y_sq e f rfl rfl
    refine aOK_deep (d := d + 1) (by omega) (q_weighs (y_wc_fr s e2 rfl rfl rfl) (fun r H2 e3 r0 r8 => ⟨fun n e => (by cases e), ?_⟩))
    exact T72 (y_sq e2 e3 rfl rfl) (y_od_fr (y_od_fr od2 f rfl rfl) e3 rfl rfl) r0
  have T47 : ∀ {G : aH} {as c : Bool} {w : Int32}, y_fr h G [19587, 19588, 19589, 19630, 19631, 19632, 19633] [] → y_od G → aOK s_P X (d + 3) a_m261 47 [some (.ref 155), some (.int hd), some (.int cl), some (.int th), some (.int bt), some (.int (y_01 as)), some (.int w), none, none, none, none, none, none, none, none, none, none, none, none, none, none, none, none, none, none, none, none, none, none, none] [.int (y_01 c)] G C S K0 := by
    intro G as c w e od2
    have f0 : y_fr G G [] [] := y_rf e.1
    refine w_go z_hl [58] [] 40 e.1 ?_
    refine ⟨fun _ => ?_, fun _ => fun H hH => T58 (y_sq e (y_st f0 hH (by repeat (first | exact w_nil | refine w_cons (Or.inl (y_m rfl)) ?_ | refine w_cons (Or.inr (by assumption)) ?_)) (by repeat (first | exact w_nil | refine w_cons (Or.inl (y_m rfl)) ?_ | refine w_cons (Or.inr (by assumption)) ?_))) rfl rfl) (y_od_fr od2 (y_st f0 hH (by repeat (first | exact w_nil | refine w_cons (Or.inl (y_m rfl)) ?_ | refine w_cons (Or.inr (by assumption)) ?_)) (by repeat (first | exact w_nil | refine w_cons (Or.inl (y_m rfl)) ?_ | refine w_cons (Or.inr (by assumption)) ?_))) rfl rfl)⟩
    intro x hx _ _
    exact fun H hH => T58 (y_sq e (y_st f0 hH (by repeat (first | exact w_nil | refine w_cons (Or.inl (y_m rfl)) ?_ | refine w_cons (Or.inr (by assumption)) ?_)) (by repeat (first | exact w_nil | refine w_cons (Or.inl (y_m rfl)) ?_ | refine w_cons (Or.inr (by assumption)) ?_))) rfl rfl) (y_od_fr od2 (y_st f0 hH (by repeat (first | exact w_nil | refine w_cons (Or.inl (y_m rfl)) ?_ | refine w_cons (Or.inr (by assumption)) ?_)) (by repeat (first | exact w_nil | refine w_cons (Or.inl (y_m rfl)) ?_ | refine w_cons (Or.inr (by assumption)) ?_))) rfl rfl)
  have T39 : ∀ {G : aH} {as : Bool} {w : Int32}, y_fr h G [19587, 19588, 19589, 19630, 19631, 19632, 19633] [] → y_od G → aOK s_P X (d + 3) a_m261 39 [some (.ref 155), some (.int hd), some (.int cl), some (.int th), some (.int bt), some (.int (y_01 as)), none, none, none, none, none, none, none, none, none, none, none, none, none, none, none, none, none, none, none, none, none, none, none, none] [.int w] G C S K0 := by
    intro G as w e od2
    refine w_go z_hl [] [260] 40 e.1 ?_
    intro H hH
    have f : y_fr G H [] [] := y_st (y_rf e.1) hH (by repeat (first | exact w_nil | refine w_cons (Or.inl (y_m rfl)) ?_ | refine w_cons (Or.inr (by assumption)) ?_)) (by repeat (first | exact w_nil | refine w_cons (Or.inl (y_m rfl)) ?_ | refine w_cons (Or.inr (by assumption)) ?_))
    refine y_habit f.1 h0 h5 (fun c H2 e3 => ⟨fun n e => (by cases e), ?_⟩)
    exact T47 (y_sq (y_sq e f rfl rfl) e3 rfl rfl) (y_od_fr (y_od_fr od2 f rfl rfl) e3 rfl rfl)
  have T28 : ∀ {G : aH} {as c : Bool}, y_fr h G [19587, 19588, 19589, 19630, 19631, 19632, 19633] [] → y_od G → aOK s_P X (d + 3) a_m261 28 [some (.ref 155), some (.int hd), some (.int cl), some (.int th), some (.int bt), some (.int (y_01 as)), none, none, none, none, none, none, none, none, none, none, none, none, none, none, none, none, none, none, none, none, none, none, none, none] [.int (y_01 c)] G C S K0 := by
    intro G as c e od2
    have f0 : y_fr G G [] [] := y_rf e.1
    refine w_go z_hl [39] [] 40 e.1 ?_
    refine ⟨fun _ => ?_, fun _ => fun H hH => T39 (y_sq e (y_st f0 hH (by repeat (first | exact w_nil | refine w_cons (Or.inl (y_m rfl)) ?_ | refine w_cons (Or.inr (by assumption)) ?_)) (by repeat (first | exact w_nil | refine w_cons (Or.inl (y_m rfl)) ?_ | refine w_cons (Or.inr (by assumption)) ?_))) rfl rfl) (y_od_fr od2 (y_st f0 hH (by repeat (first | exact w_nil | refine w_cons (Or.inl (y_m rfl)) ?_ | refine w_cons (Or.inr (by assumption)) ?_)) (by repeat (first | exact w_nil | refine w_cons (Or.inl (y_m rfl)) ?_ | refine w_cons (Or.inr (by assumption)) ?_))) rfl rfl)⟩
    intro x hx _ _
    exact fun H hH => T39 (y_sq e (y_st f0 hH (by repeat (first | exact w_nil | refine w_cons (Or.inl (y_m rfl)) ?_ | refine w_cons (Or.inr (by assumption)) ?_)) (by repeat (first | exact w_nil | refine w_cons (Or.inl (y_m rfl)) ?_ | refine w_cons (Or.inr (by assumption)) ?_))) rfl rfl) (y_od_fr od2 (y_st f0 hH (by repeat (first | exact w_nil | refine w_cons (Or.inl (y_m rfl)) ?_ | refine w_cons (Or.inr (by assumption)) ?_)) (by repeat (first | exact w_nil | refine w_cons (Or.inl (y_m rfl)) ?_ | refine w_cons (Or.inr (by assumption)) ?_))) rfl rfl)
  have T20 : ∀ {G : aH} {as : Bool}, y_fr h G [19587, 19588, 19589, 19630, 19631, 19632, 19633] [] → y_od G → aOK s_P X (d + 3) a_m261 20 [some (.ref 155), some (.int hd), some (.int cl), some (.int th), some (.int bt), none, none, none, none, none, none, none, none, none, none, none, none, none, none, none, none, none, none, none, none, none, none, none, none, none] [.int (y_01 as)] G C S K0 := by
    intro G as e od2
    refine w_go z_hl [] [260] 40 e.1 ?_
    intro H hH
    have f : y_fr G H [] [] := y_st (y_rf e.1) hH (by repeat (first | exact w_nil | refine w_cons (Or.inl (y_m rfl)) ?_ | refine w_cons (Or.inr (by assumption)) ?_)) (by repeat (first | exact w_nil | refine w_cons (Or.inl (y_m rfl)) ?_ | refine w_cons (Or.inr (by assumption)) ?_))
    refine y_habit f.1 h0 h5 (fun c H2 e3 => ⟨fun n e => (by cases e), ?_⟩)
    exact T28 (y_sq (y_sq e f rfl rfl) e3 rfl rfl) (y_od_fr (y_od_fr od2 f rfl rfl) e3 rfl rfl)
  have e0 : y_fr h h [19587, 19588, 19589, 19630, 19631, 19632, 19633] [] := y_mo (y_rf s.1) rfl rfl
  have f0 : y_fr h h [] [] := y_rf s.1
  refine w_go z_hl [20] [] 40 s.1 ?_
  refine ⟨⟨by omega, by omega⟩, fun l hl len bb => ⟨fun _ => fun H hH => ?_, fun _ => fun H hH => ?_⟩⟩
  · have := T20 (as := false) (y_st e0 hH (by repeat (first | exact w_nil | refine w_cons (Or.inl (y_m rfl)) ?_ | refine w_cons (Or.inr (by assumption)) ?_)) (by repeat (first | exact w_nil | refine w_cons (Or.inl (y_m rfl)) ?_ | refine w_cons (Or.inr (by assumption)) ?_))) (y_od_fr od (y_st f0 hH (by repeat (first | exact w_nil | refine w_cons (Or.inl (y_m rfl)) ?_ | refine w_cons (Or.inr (by assumption)) ?_)) (by repeat (first | exact w_nil | refine w_cons (Or.inl (y_m rfl)) ?_ | refine w_cons (Or.inr (by assumption)) ?_))) rfl rfl)
    rw [← hbt] at this
    exact this
  · have := T20 (as := true) (y_st e0 hH (by repeat (first | exact w_nil | refine w_cons (Or.inl (y_m rfl)) ?_ | refine w_cons (Or.inr (by assumption)) ?_)) (by repeat (first | exact w_nil | refine w_cons (Or.inl (y_m rfl)) ?_ | refine w_cons (Or.inr (by assumption)) ?_))) (y_od_fr od (y_st f0 hH (by repeat (first | exact w_nil | refine w_cons (Or.inl (y_m rfl)) ?_ | refine w_cons (Or.inr (by assumption)) ?_)) (by repeat (first | exact w_nil | refine w_cons (Or.inl (y_m rfl)) ?_ | refine w_cons (Or.inr (by assumption)) ?_))) rfl rfl)
    rw [← hbt] at this
    exact this
end WG
end PT30f
section PT30g
/-! ===== v3: the reference's hears, hear, errs ===== -/
section WG
variable {X : aX} {C S d : Nat} {K0 : Option Value → aH → Nat → Nat → Prop} {h : aH} {nd : Int32} {sa : List Int32} {wl : List Int64}
theorem y_hears_loop {hd cl tm : Int32} (h0 : 0 ≤ hd.toInt) (h5 : hd.toInt ≤ 5) (m0 : 0 ≤ tm.toInt) (m10 : tm.toInt ≤ 10) : ∀ (m : Nat) (h : aH) (kI : Int32) (k : Nat) (o4 o5 o6 : Option Value), y_wc h nd sa wl → y_od h → w_f h 19629 = some (.int tm) → kI.toInt = k → (k : Int) + m = tm.toInt → (∀ (x : Int32) (H : aH), y_fr h H [19587, 19588, 19589, 19630, 19631, 19632, 19633] [] → y_od H → K0 (some (.int x)) H C S) → aOK s_P X (d + 4) a_m259 87 [some (.ref 155), some (.int hd), some (.int cl), some (.int kI), o4, o5, o6] [] h C S K0 := by
  intro m
  induction m with
  | zero =>
    intro h kI k o4 o5 o6 s od g hk hm hK
    refine w_go z_hl [87] [] 30 s.1 ?_
    intro x hx _ _
    obtain rfl := y_fi g hx
    refine ⟨fun _ => fun H hH => ?_, fun q => ?_⟩
    · have f : y_fr h H [] [] := y_st (y_rf s.1) hH (by repeat (first | exact w_nil | refine w_cons (Or.inl (y_m rfl)) ?_ | refine w_cons (Or.inr (by assumption)) ?_)) (by repeat (first | exact w_nil | refine w_cons (Or.inl (y_m rfl)) ?_ | refine w_cons (Or.inr (by assumption)) ?_))
      exact hK _ H (y_mo f rfl rfl) (y_od_fr od f rfl rfl)
    · have : ¬ (tm.toInt ≤ kI.toInt) := y_cif q
      omega
  | succ m ih =>
    intro h kI k o4 o5 o6 s od g hk hm hK
    have ink : (kI + Int32.ofInt 1).toInt = ((k + 1 : Nat) : Int) := by rw [y_inc (by omega), hk]; rfl
    have T129 : ∀ {G : aH} {x : Int32}, y_fr h G [19587, 19588, 19589, 19630, 19631, 19632, 19633] [] → y_od G → aOK s_P X (d + 4) a_m259 129 [some (.ref 155), some (.int hd), some (.int cl), some (.int kI), o4, o5, o6] [.int x] G C S K0 := by
      intro G x e od2
      have f0 : y_fr G G [] [] := y_rf e.1
      refine w_go z_hl [87] [] 30 e.1 ?_
      refine ⟨fun _ => fun H hH => ?_, fun _ => fun H hH => hK _ H (y_sq e (y_st f0 hH (by repeat (first | exact w_nil | refine w_cons (Or.inl (y_m rfl)) ?_ | refine w_cons (Or.inr (by assumption)) ?_)) (by repeat (first | exact w_nil | refine w_cons (Or.inl (y_m rfl)) ?_ | refine w_cons (Or.inr (by assumption)) ?_))) rfl rfl) (y_od_fr od2 (y_st f0 hH (by repeat (first | exact w_nil | refine w_cons (Or.inl (y_m rfl)) ?_ | refine w_cons (Or.inr (by assumption)) ?_)) (by repeat (first | exact w_nil | refine w_cons (Or.inl (y_m rfl)) ?_ | refine w_cons (Or.inr (by assumption)) ?_))) rfl rfl)⟩
      have f : y_fr G H [] [] := y_st f0 hH (by repeat (first | exact w_nil | refine w_cons (Or.inl (y_m rfl)) ?_ | refine w_cons (Or.inr (by assumption)) ?_)) (by repeat (first | exact w_nil | refine w_cons (Or.inl (y_m rfl)) ?_ | refine w_cons (Or.inr (by assumption)) ?_))
      have e2 := y_sq e f rfl rfl
      exact ih H _ (k + 1) _ _ _ (y_wc_fr s e2 rfl rfl rfl) (y_od_fr od2 f rfl rfl) ((y_fe e2 rfl).trans g) ink (by omega) (fun x H' f' o => hK x H' (y_sq e2 f' rfl rfl) o)
    have T117 : ∀ {G : aH}, y_fr h G [] [] → aOK s_P X (d + 4) a_m259 117 [some (.ref 155), some (.int hd), some (.int cl), some (.int kI), o4, o5, o6] [] G C S K0 := by
      intro G e
      refine w_go z_hl [] [261] 30 e.1 ?_
      refine ⟨⟨by omega, by omega⟩, fun l hl len bb => fun H hH => ?_⟩
      have hm := bb _ (z_gd (0 : Int32) (show kI.toNatClampNeg < l.length by have := y_cl1 hk; omega))
      have e2 := y_st e hH (by repeat (first | exact w_nil | refine w_cons (Or.inl (y_m rfl)) ?_ | refine w_cons (Or.inr (by assumption)) ?_)) (by repeat (first | exact w_nil | refine w_cons (Or.inl (y_m rfl)) ?_ | refine w_cons (Or.inr (by assumption)) ?_))
      refine y_hearsOne (y_wc_fr s e2 rfl rfl rfl) (y_od_fr od e2 rfl rfl) h0 h5 hm.1 hm.2 (fun x H2 f2 o2 => ⟨fun n e => (by cases e), ?_⟩)
      exact T129 (y_sq (y_mo e2 rfl rfl) f2 rfl rfl) o2
    have T102 : ∀ {G : aH} {c : Bool}, y_fr h G [] [] → aOK s_P X (d + 4) a_m259 102 [some (.ref 155), some (.int hd), some (.int cl), some (.int kI), o4, o5, o6] [.int (y_01 c)] G C S K0 := by
      intro G c e
      refine w_go z_hl [117] [] 30 e.1 ?_
      refine ⟨fun _ => fun H hH => T117 (y_st e hH (by repeat (first | exact w_nil | refine w_cons (Or.inl (y_m rfl)) ?_ | refine w_cons (Or.inr (by assumption)) ?_)) (by repeat (first | exact w_nil | refine w_cons (Or.inl (y_m rfl)) ?_ | refine w_cons (Or.inr (by assumption)) ?_))), fun _ => ⟨⟨by omega, by omega⟩, fun l hl len bb => ⟨fun _ => fun H hH => T117 (y_st e hH (by repeat (first | exact w_nil | refine w_cons (Or.inl (y_m rfl)) ?_ | refine w_cons (Or.inr (by assumption)) ?_)) (by repeat (first | exact w_nil | refine w_cons (Or.inl (y_m rfl)) ?_ | refine w_cons (Or.inr (by assumption)) ?_))), fun _ => fun H hH => hK _ H (y_mo (y_st e hH (by repeat (first | exact w_nil | refine w_cons (Or.inl (y_m rfl)) ?_ | refine w_cons (Or.inr (by assumption)) ?_)) (by repeat (first | exact w_nil | refine w_cons (Or.inl (y_m rfl)) ?_ | refine w_cons (Or.inr (by assumption)) ?_)) : y_fr h H [] []) rfl rfl) (y_od_fr od (y_st e hH (by repeat (first | exact w_nil | refine w_cons (Or.inl (y_m rfl)) ?_ | refine w_cons (Or.inr (by assumption)) ?_)) (by repeat (first | exact w_nil | refine w_cons (Or.inl (y_m rfl)) ?_ | refine w_cons (Or.inr (by assumption)) ?_)) : y_fr h H [] []) rfl rfl)⟩⟩⟩
    refine w_go z_hl [87] [260] 30 s.1 ?_
    intro x hx _ _
    obtain rfl := y_fi g hx
    refine ⟨fun q => ?_, fun _ => fun H hH => ?_⟩
    · have : tm.toInt ≤ kI.toInt := (y_ci .ge _ _).mp q
      omega
    · have e : y_fr h H [] [] := y_st (y_rf s.1) hH (by repeat (first | exact w_nil | refine w_cons (Or.inl (y_m rfl)) ?_ | refine w_cons (Or.inr (by assumption)) ?_)) (by repeat (first | exact w_nil | refine w_cons (Or.inl (y_m rfl)) ?_ | refine w_cons (Or.inr (by assumption)) ?_))
      refine y_habit e.1 h0 h5 (fun c H2 e3 => ⟨fun n e => (by cases e), ?_⟩)
      exact T102 (y_sq e e3 rfl rfl)
theorem y_hears (s : y_wc h nd sa wl) {hd cl tm : Int32} (h0 : 0 ≤ hd.toInt) (h5 : hd.toInt ≤ 5) (g : w_f h 19629 = some (.int tm)) (m0 : 0 ≤ tm.toInt) (m10 : tm.toInt ≤ 10) (hK : ∀ (x : Int32) (H : aH), y_fr h H [19587, 19588, 19589, 19630, 19631, 19632, 19633] [] → y_od H → K0 (some (.int x)) H C S) : aOK s_P X (d + 4) a_m259 0 [some (.ref 155), some (.int hd), some (.int cl), none, none, none, none] [] h C S K0 := by
  have T85 : ∀ {G : aH} {o3 o4 o5 o6 : Option Value}, y_fr h G [19587, 19588, 19589, 19630, 19631, 19632, 19633] [] → y_od G → aOK s_P X (d + 4) a_m259 85 [some (.ref 155), some (.int hd), some (.int cl), o3, o4, o5, o6] [] G C S K0 := by
    intro G o3 o4 o5 o6 e od2
    refine w_go z_hl [87] [] 30 e.1 ?_
    intro H hH
    have f : y_fr G H [] [] := y_st (y_rf e.1) hH (by repeat (first | exact w_nil | refine w_cons (Or.inl (y_m rfl)) ?_ | refine w_cons (Or.inr (by assumption)) ?_)) (by repeat (first | exact w_nil | refine w_cons (Or.inl (y_m rfl)) ?_ | refine w_cons (Or.inr (by assumption)) ?_))
    have e2 := y_sq e f rfl rfl
    exact y_hears_loop h0 h5 m0 m10 tm.toInt.toNat H _ 0 _ _ _ (y_wc_fr s e2 rfl rfl rfl) (y_od_fr od2 f rfl rfl) ((y_fe e2 rfl).trans g) rfl (by omega) (fun x H' f' o => hK x H' (y_sq e2 f' rfl rfl) o)
  have T69 : ∀ {G : aH} {a b u l : Int64}, y_fr h G [19587, 19588, 19589, 19630, 19631, 19632, 19633] [] → w_f G 19587 = some (.long u) → w_f G 19588 = some (.long l) → 0 ≤ u.toInt → 1 ≤ l.toInt → aOK s_P X (d + 4) a_m259 69 [some (.ref 155), some (.int hd), some (.int cl), some (.long a), none, some (.long b), none] [] G C S K0 := by
    intro G a b u l e f1 f2 u0 l1
    refine w_go z_hl [85] [] 30 e.1 ?_
    intro x hx _ _
    obtain rfl := y_fl f1 hx
    refine ⟨rfl, y_zin u0 (y_l64 u).2, ?_⟩
    intro y hy _ _
    obtain rfl := y_fl f2 hy
    refine ⟨rfl, y_zin (by show 0 ≤ l.toInt; omega) (y_l64 l).2, fun H hH => ?_⟩
    exact T85 (y_st e hH (by repeat (first | exact w_nil | refine w_cons (Or.inl (y_m rfl)) ?_ | refine w_cons (Or.inr (by assumption)) ?_)) (by repeat (first | exact w_nil | refine w_cons (Or.inl (y_m rfl)) ?_ | refine w_cons (Or.inr (by assumption)) ?_))) ⟨u, l, hH.2.1 19630 _ rfl, hH.2.1 19631 _ rfl, u0, l1⟩
  have T51 : ∀ {G : aH} {a b : Int64}, y_fr h G [19587, 19588, 19589, 19630, 19631, 19632, 19633] [] → y_od G → 0 ≤ a.toInt → 0 ≤ b.toInt → aOK s_P X (d + 4) a_m259 51 [some (.ref 155), some (.int hd), some (.int cl), some (.long a), none, none, none] [.long b] G C S K0 := by
    intro G a b e od2 a0 b0
    have f0 : y_fr G G [] [] := y_rf e.1
    refine w_go z_hl [] [194] 30 e.1 ?_
    refine ⟨fun q => fun H hH => ?_, fun _ => fun H hH => hK _ H (y_sq e (y_st f0 hH (by repeat (first | exact w_nil | refine w_cons (Or.inl (y_m rfl)) ?_ | refine w_cons (Or.inr (by assumption)) ?_)) (by repeat (first | exact w_nil | refine w_cons (Or.inl (y_m rfl)) ?_ | refine w_cons (Or.inr (by assumption)) ?_))) rfl rfl) (y_od_fr od2 (y_st f0 hH (by repeat (first | exact w_nil | refine w_cons (Or.inl (y_m rfl)) ?_ | refine w_cons (Or.inr (by assumption)) ?_)) (by repeat (first | exact w_nil | refine w_cons (Or.inl (y_m rfl)) ?_ | refine w_cons (Or.inr (by assumption)) ?_))) rfl rfl)⟩
    have q2 : b.toInt ≠ (Int64.ofNat 0).toInt := (y_cl .ne _ _).mp q
    rw [show (Int64.ofNat 0).toInt = 0 by decide] at q2
    have e2 := y_st e hH (by repeat (first | exact w_nil | refine w_cons (Or.inl (y_m rfl)) ?_ | refine w_cons (Or.inr (by assumption)) ?_)) (by repeat (first | exact w_nil | refine w_cons (Or.inl (y_m rfl)) ?_ | refine w_cons (Or.inr (by assumption)) ?_))
    refine q_lowest (n := a) (m := b) e2.1 (by omega) (by omega) (fun u' l' H2 e3 g1 g2 g3 g4 g5 g6 g7 => ⟨fun n e => (by cases e), ?_⟩)
    exact T69 (y_sq e2 e3 rfl rfl) g1 g2 (g7 a0) g3
  have T42 : ∀ {G : aH} {a : Int64}, y_fr h G [19587, 19588, 19589, 19630, 19631, 19632, 19633] [] → y_od G → 0 ≤ a.toInt → aOK s_P X (d + 4) a_m259 42 [some (.ref 155), some (.int hd), some (.int cl), none, none, none, none] [.long a] G C S K0 := by
    intro G a e od2 a0
    refine w_go z_hl [] [193] 30 e.1 ?_
    intro H hH
    have f : y_fr G H [] [] := y_st (y_rf e.1) hH (by repeat (first | exact w_nil | refine w_cons (Or.inl (y_m rfl)) ?_ | refine w_cons (Or.inr (by assumption)) ?_)) (by repeat (first | exact w_nil | refine w_cons (Or.inl (y_m rfl)) ?_ | refine w_cons (Or.inr (by assumption)) ?_))
    have e2 := y_sq e f rfl rfl
    refine aOK_deep (d := d + 1) (by omega) (q_weighs (y_wc_fr s e2 rfl rfl rfl) (fun r H2 e3 r0 r8 => ⟨fun n e => (by cases e), ?_⟩))
    exact T51 (y_sq e2 e3 rfl rfl) (y_od_fr (y_od_fr od2 f rfl rfl) e3 rfl rfl) a0 r0
  have T31 : ∀ {G : aH} {c : Bool}, y_fr h G [19587, 19588, 19589, 19630, 19631, 19632, 19633] [] → y_od G → aOK s_P X (d + 4) a_m259 31 [some (.ref 155), some (.int hd), some (.int cl), none, none, none, none] [.int (y_01 c)] G C S K0 := by
    intro G c e od2
    have f0 : y_fr G G [] [] := y_rf e.1
    refine w_go z_hl [85] [193] 30 e.1 ?_
    refine ⟨fun _ => fun H hH => T85 (y_sq e (y_st f0 hH (by repeat (first | exact w_nil | refine w_cons (Or.inl (y_m rfl)) ?_ | refine w_cons (Or.inr (by assumption)) ?_)) (by repeat (first | exact w_nil | refine w_cons (Or.inl (y_m rfl)) ?_ | refine w_cons (Or.inr (by assumption)) ?_))) rfl rfl) (y_od_fr od2 (y_st f0 hH (by repeat (first | exact w_nil | refine w_cons (Or.inl (y_m rfl)) ?_ | refine w_cons (Or.inr (by assumption)) ?_)) (by repeat (first | exact w_nil | refine w_cons (Or.inl (y_m rfl)) ?_ | refine w_cons (Or.inr (by assumption)) ?_))) rfl rfl), fun _ => fun H hH => ?_⟩
    have f : y_fr G H [] [] := y_st f0 hH (by repeat (first | exact w_nil | refine w_cons (Or.inl (y_m rfl)) ?_ | refine w_cons (Or.inr (by assumption)) ?_)) (by repeat (first | exact w_nil | refine w_cons (Or.inl (y_m rfl)) ?_ | refine w_cons (Or.inr (by assumption)) ?_))
    have e2 := y_sq e f rfl rfl
    refine aOK_deep (d := d + 1) (by omega) (q_weighs (y_wc_fr s e2 rfl rfl rfl) (fun r H2 e3 r0 r8 => ⟨fun n e => (by cases e), ?_⟩))
    exact T42 (y_sq e2 e3 rfl rfl) (y_od_fr (y_od_fr od2 f rfl rfl) e3 rfl rfl) r0
  refine w_go z_hl [] [260] 30 s.1 ?_
  refine ⟨rfl, y_zini (by decide) (by decide), rfl, y_zin (by decide) (by decide), rfl, y_zin (by decide) (by decide), rfl, y_zini (by decide) (by decide), rfl, y_zini (by decide) (by decide), fun H hH => ?_⟩
  have e : y_fr h H [19587, 19588, 19589, 19630, 19631, 19632, 19633] [] := y_st (y_mo (y_rf s.1) rfl rfl) hH (by repeat (first | exact w_nil | refine w_cons (Or.inl (y_m rfl)) ?_ | refine w_cons (Or.inr (by assumption)) ?_)) (by repeat (first | exact w_nil | refine w_cons (Or.inl (y_m rfl)) ?_ | refine w_cons (Or.inr (by assumption)) ?_))
  have od1 : y_od H := ⟨_, _, hH.2.1 19630 _ rfl, hH.2.1 19631 _ rfl, by decide, by decide⟩
  refine y_habit e.1 h0 h5 (fun c H2 e3 => ⟨fun n e => (by cases e), ?_⟩)
  exact T31 (y_sq e e3 rfl rfl) (y_od_fr od1 e3 rfl rfl)
theorem y_tells_loop {cl sm : Int32} (m0 : 0 ≤ sm.toInt) (m10 : sm.toInt ≤ 10) : ∀ (m : Nat) (h : aH) (kI tI : Int32) (k t : Nat), w_hr z_D h → w_f h 19598 = some (.int sm) → w_f h 19629 = some (.int tI) → kI.toInt = k → tI.toInt = t → t ≤ k → (k : Int) + m = sm.toInt → (∀ (H : aH) (t' : Int32), y_fr h H [19629] [179] → w_f H 19629 = some (.int t') → 0 ≤ t'.toInt → t'.toInt ≤ 10 → K0 none H C S) → aOK s_P X d a_m258 7 [some (.ref 155), some (.int cl), some (.int kI)] [] h C S K0 := by
  intro m
  induction m with
  | zero =>
    intro h kI tI k t hr g1 g2 hk ht tk hm hK
    refine w_go z_hl [7] [] 30 hr ?_
    intro x hx _ _
    obtain rfl := y_fi g1 hx
    refine ⟨fun _ => fun H hH => ?_, fun q => ?_⟩
    · have f : y_fr h H [] [] := y_st (y_rf hr) hH (by repeat (first | exact w_nil | refine w_cons (Or.inl (y_m rfl)) ?_ | refine w_cons (Or.inr (by assumption)) ?_)) (by repeat (first | exact w_nil | refine w_cons (Or.inl (y_m rfl)) ?_ | refine w_cons (Or.inr (by assumption)) ?_))
      exact hK H tI (y_mo f rfl rfl) ((y_fe f rfl).trans g2) (by omega) (by omega)
    · have : ¬ (sm.toInt ≤ kI.toInt) := y_cif q
      omega
  | succ m ih =>
    intro h kI tI k t hr g1 g2 hk ht tk hm hK
    have ink : (kI + Int32.ofInt 1).toInt = ((k + 1 : Nat) : Int) := by rw [y_inc (by omega), hk]; rfl
    have int : (tI + Int32.ofInt 1).toInt = ((t + 1 : Nat) : Int) := by rw [y_inc (by omega), ht]; rfl
    refine w_go z_hl [7] [] 40 hr ?_
    intro x hx _ _
    obtain rfl := y_fi g1 hx
    refine ⟨fun q => ?_, fun _ => ⟨⟨by omega, by omega⟩, fun l hl len bb => ⟨fun _ => fun H hH => ?_, fun _ => ?_⟩⟩⟩
    · have : sm.toInt ≤ kI.toInt := (y_ci .ge _ _).mp q
      omega
    · have f : y_fr h H [] [] := y_st (y_rf hr) hH (by repeat (first | exact w_nil | refine w_cons (Or.inl (y_m rfl)) ?_ | refine w_cons (Or.inr (by assumption)) ?_)) (by repeat (first | exact w_nil | refine w_cons (Or.inl (y_m rfl)) ?_ | refine w_cons (Or.inr (by assumption)) ?_))
      exact ih H _ tI (k + 1) t f.1 ((y_fe f rfl).trans g1) ((y_fe f rfl).trans g2) ink ht (by omega) (by omega) (fun H' t' f' x1 x2 x3 => hK H' t' (y_sq (y_mo f rfl rfl) f' rfl rfl) x1 x2 x3)
    · intro y hy _ _
      obtain rfl := y_fi g2 hy
      have hmm := bb _ (z_gd (0 : Int32) (show kI.toNatClampNeg < l.length by have := y_cl1 hk; omega))
      refine ⟨⟨by omega, by omega⟩, ⟨by omega, by omega⟩, hmm, fun l2 hl2 len2 bb2 => ⟨rfl, y_zini (by show 0 ≤ (tI + Int32.ofInt 1).toInt; omega) (by show (tI + Int32.ofInt 1).toInt ≤ 10; omega), fun H hH => ?_⟩⟩
      have f : y_fr h H [19629] [179] := y_st (y_mo (y_rf hr) rfl rfl) hH (by repeat (first | exact w_nil | refine w_cons (Or.inl (y_m rfl)) ?_ | refine w_cons (Or.inr (by assumption)) ?_)) (by repeat (first | exact w_nil | refine w_cons (Or.inl (y_m rfl)) ?_ | refine w_cons (Or.inr (by assumption)) ?_))
      exact ih H _ _ (k + 1) (t + 1) f.1 ((y_fe f rfl).trans g1) (hH.2.1 19629 _ rfl) ink int (by omega) (by omega) (fun H' t' f' x1 x2 x3 => hK H' t' (y_sq f f' rfl rfl) x1 x2 x3)
theorem y_tellsAll (hr : w_hr z_D h) {cl sm : Int32} (g1 : w_f h 19598 = some (.int sm)) (hK : ∀ (H : aH) (t' : Int32), y_fr h H [19629] [179] → w_f H 19629 = some (.int t') → 0 ≤ t'.toInt → t'.toInt ≤ 10 → K0 none H C S) : aOK s_P X d a_m258 0 [some (.ref 155), some (.int cl), none] [] h C S K0 := by
  obtain ⟨m0, m10⟩ := y_smb hr g1
  refine w_go z_hl [7] [] 30 hr ?_
  refine ⟨rfl, y_zini (by decide) (by decide), fun H hH => ?_⟩
  have f : y_fr h H [19629] [179] := y_st (y_mo (y_rf hr) rfl rfl) hH (by repeat (first | exact w_nil | refine w_cons (Or.inl (y_m rfl)) ?_ | refine w_cons (Or.inr (by assumption)) ?_)) (by repeat (first | exact w_nil | refine w_cons (Or.inl (y_m rfl)) ?_ | refine w_cons (Or.inr (by assumption)) ?_))
  exact y_tells_loop m0 m10 sm.toInt.toNat H _ _ 0 0 f.1 ((y_fe f rfl).trans g1) (hH.2.1 19629 _ rfl) rfl rfl (by omega) (by omega) (fun H' t' f' x1 x2 x3 => hK H' t' (y_sq f f' rfl rfl) x1 x2 x3)
theorem y_isHead (hr : w_hr z_D h) {v : Int32} (yes : ∀ H, y_fr h H [] [] → 0 ≤ v.toInt → v.toInt ≤ 5 → K0 (some (.int (y_01 true))) H C S) (no : ∀ H, y_fr h H [] [] → K0 (some (.int (y_01 false))) H C S) : aOK s_P X (d + 1) a_m257 0 [some (.ref 155), some (.int v)] [] h C S K0 := by
  have T13 : ∀ {G : aH} {b : Bool}, y_fr h G [] [] → (b = true → 0 ≤ v.toInt ∧ v.toInt ≤ 5) → aOK s_P X (d + 1) a_m257 13 [some (.ref 155), some (.int v)] [.int (y_01 b)] G C S K0 := by
    intro G b e hb
    refine w_go z_hl [] [] 30 e.1 ?_
    refine ⟨y_01b b, fun H hH => ?_⟩
    cases b with
    | true => exact yes H (y_st e hH (by repeat (first | exact w_nil | refine w_cons (Or.inl (y_m rfl)) ?_ | refine w_cons (Or.inr (by assumption)) ?_)) (by repeat (first | exact w_nil | refine w_cons (Or.inl (y_m rfl)) ?_ | refine w_cons (Or.inr (by assumption)) ?_))) (hb rfl).1 (hb rfl).2
    | false => exact no H (y_st e hH (by repeat (first | exact w_nil | refine w_cons (Or.inl (y_m rfl)) ?_ | refine w_cons (Or.inr (by assumption)) ?_)) (by repeat (first | exact w_nil | refine w_cons (Or.inl (y_m rfl)) ?_ | refine w_cons (Or.inr (by assumption)) ?_)))
  refine w_go z_hl [] [176] 30 hr ?_
  intro x hx x0 x6
  have x0' : 0 ≤ x.toInt := x0
  have x6' : x.toInt ≤ 6 := x6
  intro H hH
  have e : y_fr h H [] [] := y_st (y_rf hr) hH (by repeat (first | exact w_nil | refine w_cons (Or.inl (y_m rfl)) ?_ | refine w_cons (Or.inr (by assumption)) ?_)) (by repeat (first | exact w_nil | refine w_cons (Or.inl (y_m rfl)) ?_ | refine w_cons (Or.inr (by assumption)) ?_))
  refine q_in (v := v.toInt64) (lo := Int64.ofNat 0) (hi := (x - Int32.ofInt 1).toInt64) e.1 (fun H2 e2 l1 l2 => ⟨fun n e => (by cases e), ?_⟩) (fun H2 e2 _ => ⟨fun n e => (by cases e), ?_⟩)
  · rw [y_i2l] at l1
    rw [y_i2l, y_i2l, y_sub1 x0'] at l2
    have l1 : 0 ≤ v.toInt := l1
    exact T13 (b := true) (y_sq e e2 rfl rfl) (fun _ => ⟨l1, by omega⟩)
  · exact T13 (b := false) (y_sq e e2 rfl rfl) (fun q => by cases q)
theorem y_hear_tail (s : y_wc h nd sa wl) {hd cl sm : Int32} (g : w_f h 19598 = some (.int sm)) (h0 : 0 ≤ hd.toInt) (h5 : hd.toInt ≤ 5) (hk : ∀ (r : Int32) (H : aH), y_fr h H [19585, 19587, 19588, 19589, 19629, 19630, 19631, 19632, 19633] [154, 179] → K0 (some (.int r)) H C S) : aOK s_P X (d + 5) a_m256 27 [some (.ref 155), some (.int hd), some (.int cl), none] [] h C S K0 := by
  have T64 : ∀ {G : aH} {x : Int32}, y_fr h G [19585, 19587, 19588, 19589, 19629, 19630, 19631, 19632, 19633] [154, 179] → aOK s_P X (d + 5) a_m256 64 [some (.ref 155), some (.int hd), some (.int cl), some (.int x)] [] G C S K0 := by
    intro G x e
    refine w_go z_hl [] [] 30 e.1 ?_
    exact fun H hH => hk _ H (y_st e hH (by repeat (first | exact w_nil | refine w_cons (Or.inl (y_m rfl)) ?_ | refine w_cons (Or.inr (by assumption)) ?_)) (by repeat (first | exact w_nil | refine w_cons (Or.inl (y_m rfl)) ?_ | refine w_cons (Or.inr (by assumption)) ?_)))
  have T56 : ∀ {G : aH} {x r1 : Int32}, y_fr h G [19585, 19587, 19588, 19589, 19629, 19630, 19631, 19632, 19633] [154, 179] → w_f G 19585 = some (.int r1) → r1.toInt = 1 → aOK s_P X (d + 5) a_m256 56 [some (.ref 155), some (.int hd), some (.int cl), some (.int x)] [] G C S K0 := by
    intro G x r1 e g1 hr1
    refine w_go z_hl [] [197] 30 e.1 ?_
    intro y hy _ _
    intro H hH
    have f : y_fr G H [] [] := y_st (y_rf e.1) hH (by repeat (first | exact w_nil | refine w_cons (Or.inl (y_m rfl)) ?_ | refine w_cons (Or.inr (by assumption)) ?_)) (by repeat (first | exact w_nil | refine w_cons (Or.inl (y_m rfl)) ?_ | refine w_cons (Or.inr (by assumption)) ?_))
    refine y_enters f.1 ((y_fe f rfl).trans g1) (by omega) (by omega) (fun H2 r2 e3 _ _ => ⟨fun n e => (by cases e), ?_⟩)
    exact T64 (y_sq (y_sq e f rfl rfl) e3 rfl rfl)
  have T38 : ∀ {G : aH} {x : Int32}, y_fr h G [19585, 19587, 19588, 19589, 19629, 19630, 19631, 19632, 19633] [154, 179] → aOK s_P X (d + 5) a_m256 38 [some (.ref 155), some (.int hd), some (.int cl), none] [.int x] G C S K0 := by
    intro G x e
    refine w_go z_hl [64] [197] 30 e.1 ?_
    refine ⟨fun _ => fun H hH => T64 (y_st e hH (by repeat (first | exact w_nil | refine w_cons (Or.inl (y_m rfl)) ?_ | refine w_cons (Or.inr (by assumption)) ?_)) (by repeat (first | exact w_nil | refine w_cons (Or.inl (y_m rfl)) ?_ | refine w_cons (Or.inr (by assumption)) ?_))), fun _ => ⟨rfl, y_zini (by decide) (by decide), ?_⟩⟩
    intro y hy _ _
    intro H hH
    have e2 := y_st e hH (by repeat (first | exact w_nil | refine w_cons (Or.inl (y_m rfl)) ?_ | refine w_cons (Or.inr (by assumption)) ?_)) (by repeat (first | exact w_nil | refine w_cons (Or.inl (y_m rfl)) ?_ | refine w_cons (Or.inr (by assumption)) ?_))
    refine y_enters e2.1 (hH.2.1 19585 _ rfl) (by decide) (by decide) (fun H2 r2 e3 g3 hr3 => ⟨fun n e => (by cases e), ?_⟩)
    exact T56 (y_sq e2 e3 rfl rfl) g3 (by rw [hr3]; decide)
  have T32 : ∀ {G : aH} {t : Int32}, y_fr h G [19585, 19587, 19588, 19589, 19629, 19630, 19631, 19632, 19633] [154, 179] → w_f G 19629 = some (.int t) → 0 ≤ t.toInt → t.toInt ≤ 10 → aOK s_P X (d + 5) a_m256 32 [some (.ref 155), some (.int hd), some (.int cl), none] [] G C S K0 := by
    intro G t e g1 t0 t10
    refine w_go z_hl [] [259] 30 e.1 ?_
    intro H hH
    have f : y_fr G H [] [] := y_st (y_rf e.1) hH (by repeat (first | exact w_nil | refine w_cons (Or.inl (y_m rfl)) ?_ | refine w_cons (Or.inr (by assumption)) ?_)) (by repeat (first | exact w_nil | refine w_cons (Or.inl (y_m rfl)) ?_ | refine w_cons (Or.inr (by assumption)) ?_))
    have e2 := y_sq e f rfl rfl
    refine y_hears (y_wc_fr s e2 rfl rfl rfl) h0 h5 ((y_fe f rfl).trans g1) t0 t10 (fun x H2 f2 _ => ⟨fun n e => (by cases e), ?_⟩)
    exact T38 (y_sq e2 f2 rfl rfl)
  have e0 : y_fr h h [19585, 19587, 19588, 19589, 19629, 19630, 19631, 19632, 19633] [154, 179] := y_mo (y_rf s.1) rfl rfl
  refine w_go z_hl [] [258] 30 s.1 ?_
  intro H hH
  have f : y_fr h H [] [] := y_st (y_rf s.1) hH (by repeat (first | exact w_nil | refine w_cons (Or.inl (y_m rfl)) ?_ | refine w_cons (Or.inr (by assumption)) ?_)) (by repeat (first | exact w_nil | refine w_cons (Or.inl (y_m rfl)) ?_ | refine w_cons (Or.inr (by assumption)) ?_))
  refine y_tellsAll f.1 ((y_fe f rfl).trans g) (fun H2 t' f2 g2 x0 x1 => ⟨fun n e => (by cases e), ?_⟩)
  exact T32 (y_sq (y_mo f rfl rfl) f2 rfl rfl) g2 x0 x1
theorem p_hear (hr : w_hr z_D h) (hJ : y_J h) {hd cl : Int32} (hk : ∀ (r : Int32) (H : aH), y_fr h H [19584, 19585, 19587, 19588, 19589, 19629, 19630, 19631, 19632, 19633] [154, 163, 179] → y_J H → K0 (some (.int r)) H C S) : aOK s_P X (d + 5) a_m256 0 [some (.ref 155), some (.int hd), some (.int cl), none] [] h C S K0 := by
  obtain ⟨nd, sm, so, sa, s1, s2, s3, s4, s5⟩ := id hJ.2.2.2.2.1
  obtain ⟨b1, b2⟩ := y_ndb hr s1
  have out : ∀ {G : aH} {r : Int32}, y_fr h G [19584] [] → K0 (some (.int r)) G C S := fun g => hk _ _ (y_mo g rfl rfl) (y_J_fr g rfl rfl hJ)
  have T18 : ∀ {G : aH} {v : Nat}, y_fr h G [19584] [] → 0 ≤ hd.toInt → hd.toInt ≤ 5 → cl.toInt = v → v < 10 → aOK s_P X (d + 5) a_m256 18 [some (.ref 155), some (.int hd), some (.int cl), none] [.int (y_01 true)] G C S K0 := by
    intro G v e x0 x5 hv v10
    refine w_go z_hl [] [188] 30 e.1 ?_
    refine ⟨fun _ => fun H hH => ?_, fun q => absurd q (by decide)⟩
    have e2 := y_st e hH (by repeat (first | exact w_nil | refine w_cons (Or.inl (y_m rfl)) ?_ | refine w_cons (Or.inr (by assumption)) ?_)) (by repeat (first | exact w_nil | refine w_cons (Or.inl (y_m rfl)) ?_ | refine w_cons (Or.inr (by assumption)) ?_))
    refine aOK_deep (d := d + 2) (by omega) (q_weighsUp e2.1 (y_J_fr e2 rfl rfl hJ) (fun wl H2 e3 J3 hw => ⟨fun n e => (by cases e), ?_⟩))
    have e4 : y_fr h H2 [19584] [163] := y_sq (y_mo e2 rfl rfl) e3 rfl rfl
    refine y_hear_tail ⟨e4.1, (y_fe e4 rfl).trans s1, (y_ae e4 rfl).trans s4, hw⟩ ((y_fe e4 rfl).trans s2) x0 x5 (fun r H5 e5 => ?_)
    exact hk r H5 (y_sq (y_mo e4 rfl rfl) e5 rfl rfl) (y_J_fr e5 rfl rfl J3)
  have T18n : ∀ {G : aH}, y_fr h G [19584] [] → aOK s_P X (d + 5) a_m256 18 [some (.ref 155), some (.int hd), some (.int cl), none] [.int (y_01 false)] G C S K0 := by
    intro G e
    refine w_go z_hl [] [] 30 e.1 ?_
    exact ⟨fun q => absurd q (by decide), fun _ => fun H hH => out (y_st e hH (by repeat (first | exact w_nil | refine w_cons (Or.inl (y_m rfl)) ?_ | refine w_cons (Or.inr (by assumption)) ?_)) (by repeat (first | exact w_nil | refine w_cons (Or.inl (y_m rfl)) ?_ | refine w_cons (Or.inr (by assumption)) ?_)))⟩
  have T10 : ∀ {G : aH}, y_fr h G [19584] [] → 0 ≤ hd.toInt → hd.toInt ≤ 5 → aOK s_P X (d + 5) a_m256 10 [some (.ref 155), some (.int hd), some (.int cl), none] [.int (y_01 true)] G C S K0 := by
    intro G e x0 x5
    refine w_go z_hl [] [178] 30 e.1 ?_
    refine ⟨fun q => absurd q (by decide), fun _ => fun H hH => ?_⟩
    have e2 := y_st e hH (by repeat (first | exact w_nil | refine w_cons (Or.inl (y_m rfl)) ?_ | refine w_cons (Or.inr (by assumption)) ?_)) (by repeat (first | exact w_nil | refine w_cons (Or.inl (y_m rfl)) ?_ | refine w_cons (Or.inr (by assumption)) ?_))
    refine q_isNode (v := cl) e2.1 ((y_fe e2 rfl).trans s1) (fun H2 v h2 hv hv2 hvc => ⟨fun n e => (by cases e), ?_⟩) (fun H2 h2 => ⟨fun n e => (by cases e), ?_⟩)
    · exact T18 (y_sq e2 h2 rfl rfl) x0 x5 hv (by omega)
    · exact T18n (y_sq e2 h2 rfl rfl)
  have T10n : ∀ {G : aH}, y_fr h G [19584] [] → aOK s_P X (d + 5) a_m256 10 [some (.ref 155), some (.int hd), some (.int cl), none] [.int (y_01 false)] G C S K0 := by
    intro G e
    refine w_go z_hl [] [] 30 e.1 ?_
    exact ⟨fun _ => fun H hH => out (y_st e hH (by repeat (first | exact w_nil | refine w_cons (Or.inl (y_m rfl)) ?_ | refine w_cons (Or.inr (by assumption)) ?_)) (by repeat (first | exact w_nil | refine w_cons (Or.inl (y_m rfl)) ?_ | refine w_cons (Or.inr (by assumption)) ?_))), fun q => absurd q (by decide)⟩
  refine w_go z_hl [] [257] 30 hr ?_
  refine ⟨rfl, y_zini (by decide) (by decide), fun H1 h1 => ?_⟩
  have e1 : y_fr h H1 [19584] [] := y_st (y_mo (y_rf hr) rfl rfl) h1 (by repeat (first | exact w_nil | refine w_cons (Or.inl (y_m rfl)) ?_ | refine w_cons (Or.inr (by assumption)) ?_)) (by repeat (first | exact w_nil | refine w_cons (Or.inl (y_m rfl)) ?_ | refine w_cons (Or.inr (by assumption)) ?_))
  refine y_isHead e1.1 (fun H2 h2 x0 x5 => ⟨fun n e => (by cases e), ?_⟩) (fun H2 h2 => ⟨fun n e => (by cases e), ?_⟩)
  · exact T10 (y_sq e1 h2 rfl rfl) x0 x5
  · exact T10n (y_sq e1 h2 rfl rfl)
theorem y_errs_tail (s : y_wc h nd sa wl) {hd cl sm : Int32} (g : w_f h 19598 = some (.int sm)) (h0 : 0 ≤ hd.toInt) (h5 : hd.toInt ≤ 5) (hk : ∀ (r : Int32) (H : aH), y_fr h H [19587, 19588, 19589, 19629, 19630, 19631, 19632, 19633] [155, 179] → K0 (some (.int r)) H C S) : aOK s_P X (d + 5) a_m262 27 [some (.ref 155), some (.int hd), some (.int cl), none, none, none, none, none, none, none, none] [] h C S K0 := by
  have T163 : ∀ {G : aH} {w wo x c : Int32} {a b : Int64}, y_fr h G [19587, 19588, 19589, 19629, 19630, 19631, 19632, 19633] [155, 179] → aOK s_P X (d + 5) a_m262 163 [some (.ref 155), some (.int hd), some (.int cl), some (.int w), some (.int wo), some (.int x), some (.long a), none, some (.long b), none, none] [.int c] G C S K0 := by
    intro G w wo x c a b e
    refine w_go z_hl [] [] 30 e.1 ?_
    exact ⟨fun _ => ⟨fun _ => fun H hH => hk _ H (y_st e hH (by repeat (first | exact w_nil | refine w_cons (Or.inl (y_m rfl)) ?_ | refine w_cons (Or.inr (by assumption)) ?_)) (by repeat (first | exact w_nil | refine w_cons (Or.inl (y_m rfl)) ?_ | refine w_cons (Or.inr (by assumption)) ?_))), fun _ => fun H hH => hk _ H (y_st e hH (by repeat (first | exact w_nil | refine w_cons (Or.inl (y_m rfl)) ?_ | refine w_cons (Or.inr (by assumption)) ?_)) (by repeat (first | exact w_nil | refine w_cons (Or.inl (y_m rfl)) ?_ | refine w_cons (Or.inr (by assumption)) ?_)))⟩, fun _ => fun H hH => hk _ H (y_st e hH (by repeat (first | exact w_nil | refine w_cons (Or.inl (y_m rfl)) ?_ | refine w_cons (Or.inr (by assumption)) ?_)) (by repeat (first | exact w_nil | refine w_cons (Or.inl (y_m rfl)) ?_ | refine w_cons (Or.inr (by assumption)) ?_)))⟩
  have T147 : ∀ {G : aH} {w wo x : Int32} {a b : Int64}, y_fr h G [19587, 19588, 19589, 19629, 19630, 19631, 19632, 19633] [155, 179] → y_od G → 1 ≤ b.toInt → aOK s_P X (d + 5) a_m262 147 [some (.ref 155), some (.int hd), some (.int cl), some (.int w), some (.int wo), some (.int x), some (.long a), none, some (.long b), none, none] [] G C S K0 := by
    intro G w wo x a b e od b1
    obtain ⟨u, l, o1, o2, o3, o4⟩ := od
    refine w_go z_hl [] [203] 30 e.1 ?_
    intro y hy _ _
    obtain rfl := y_fl o1 hy
    intro z hz _ _
    obtain rfl := y_fl o2 hz
    intro H hH
    have e2 := y_st e hH (by repeat (first | exact w_nil | refine w_cons (Or.inl (y_m rfl)) ?_ | refine w_cons (Or.inr (by assumption)) ?_)) (by repeat (first | exact w_nil | refine w_cons (Or.inl (y_m rfl)) ?_ | refine w_cons (Or.inr (by assumption)) ?_))
    refine aOK_deep (d := d + 1) (by omega) (y_compares (b := l) (e := b) e2.1 (fun q => by rw [q] at o4; exact absurd o4 (by decide)) (fun q => by rw [q] at b1; exact absurd b1 (by decide)) (fun r H3 hr3 e3 => ⟨fun n e => (by cases e), ?_⟩))
    exact T163 (y_sq e2 e3 rfl rfl)
  have T102 : ∀ {G : aH} {w wo x : Int32} {a b : Int64}, y_fr h G [19587, 19588, 19589, 19629, 19630, 19631, 19632, 19633] [155, 179] → y_od G → 0 ≤ b.toInt → aOK s_P X (d + 5) a_m262 102 [some (.ref 155), some (.int hd), some (.int cl), some (.int w), some (.int wo), some (.int x), some (.long a), none, none, none, none] [.long b] G C S K0 := by
    intro G w wo x a b e od b0
    have f0 : y_fr G G [] [] := y_rf e.1
    have T117 : ∀ {H : aH}, y_fr h H [19587, 19588, 19589, 19629, 19630, 19631, 19632, 19633] [155, 179] → aOK s_P X (d + 5) a_m262 117 [some (.ref 155), some (.int hd), some (.int cl), some (.int w), some (.int wo), some (.int x), some (.long a), none, some (.long b), none, none] [] H C S K0 := by
      intro H f
      refine w_go z_hl [] [] 30 f.1 ?_
      exact ⟨fun _ => ⟨fun _ => fun H hH => hk _ H (y_st f hH (by repeat (first | exact w_nil | refine w_cons (Or.inl (y_m rfl)) ?_ | refine w_cons (Or.inr (by assumption)) ?_)) (by repeat (first | exact w_nil | refine w_cons (Or.inl (y_m rfl)) ?_ | refine w_cons (Or.inr (by assumption)) ?_))), fun _ => fun H hH => hk _ H (y_st f hH (by repeat (first | exact w_nil | refine w_cons (Or.inl (y_m rfl)) ?_ | refine w_cons (Or.inr (by assumption)) ?_)) (by repeat (first | exact w_nil | refine w_cons (Or.inl (y_m rfl)) ?_ | refine w_cons (Or.inr (by assumption)) ?_)))⟩, fun _ => ⟨fun _ => ⟨fun _ => fun H hH => hk _ H (y_st f hH (by repeat (first | exact w_nil | refine w_cons (Or.inl (y_m rfl)) ?_ | refine w_cons (Or.inr (by assumption)) ?_)) (by repeat (first | exact w_nil | refine w_cons (Or.inl (y_m rfl)) ?_ | refine w_cons (Or.inr (by assumption)) ?_))), fun _ => fun H hH => hk _ H (y_st f hH (by repeat (first | exact w_nil | refine w_cons (Or.inl (y_m rfl)) ?_ | refine w_cons (Or.inr (by assumption)) ?_)) (by repeat (first | exact w_nil | refine w_cons (Or.inl (y_m rfl)) ?_ | refine w_cons (Or.inr (by assumption)) ?_)))⟩, fun _ => fun H hH => hk _ H (y_st f hH (by repeat (first | exact w_nil | refine w_cons (Or.inl (y_m rfl)) ?_ | refine w_cons (Or.inr (by assumption)) ?_)) (by repeat (first | exact w_nil | refine w_cons (Or.inl (y_m rfl)) ?_ | refine w_cons (Or.inr (by assumption)) ?_)))⟩⟩
    refine w_go z_hl [117, 147] [] 40 e.1 ?_
    refine ⟨fun _ => fun H hH => T117 (y_st e hH (by repeat (first | exact w_nil | refine w_cons (Or.inl (y_m rfl)) ?_ | refine w_cons (Or.inr (by assumption)) ?_)) (by repeat (first | exact w_nil | refine w_cons (Or.inl (y_m rfl)) ?_ | refine w_cons (Or.inr (by assumption)) ?_))), fun _ => ⟨fun q => fun H hH => ?_, fun _ => fun H hH => T117 (y_st e hH (by repeat (first | exact w_nil | refine w_cons (Or.inl (y_m rfl)) ?_ | refine w_cons (Or.inr (by assumption)) ?_)) (by repeat (first | exact w_nil | refine w_cons (Or.inl (y_m rfl)) ?_ | refine w_cons (Or.inr (by assumption)) ?_)))⟩⟩
    have q2 : b.toInt ≠ (Int64.ofNat 0).toInt := (y_cl .ne _ _).mp q
    rw [show (Int64.ofNat 0).toInt = 0 by decide] at q2
    exact T147 (y_st e hH (by repeat (first | exact w_nil | refine w_cons (Or.inl (y_m rfl)) ?_ | refine w_cons (Or.inr (by assumption)) ?_)) (by repeat (first | exact w_nil | refine w_cons (Or.inl (y_m rfl)) ?_ | refine w_cons (Or.inr (by assumption)) ?_))) (y_od_fr od (y_st f0 hH (by repeat (first | exact w_nil | refine w_cons (Or.inl (y_m rfl)) ?_ | refine w_cons (Or.inr (by assumption)) ?_)) (by repeat (first | exact w_nil | refine w_cons (Or.inl (y_m rfl)) ?_ | refine w_cons (Or.inr (by assumption)) ?_))) rfl rfl) (by omega)
  have T89 : ∀ {G : aH} {w wo x : Int32} {a : Int64}, y_fr h G [19587, 19588, 19589, 19629, 19630, 19631, 19632, 19633] [155, 179] → y_od G → aOK s_P X (d + 5) a_m262 89 [some (.ref 155), some (.int hd), some (.int cl), some (.int w), some (.int wo), some (.int x), none, none, none, none, none] [.long a] G C S K0 := by
    intro G w wo x a e od
    refine w_go z_hl [] [193] 30 e.1 ?_
    intro H hH
    have f : y_fr G H [] [] := y_st (y_rf e.1) hH (by repeat (first | exact w_nil | refine w_cons (Or.inl (y_m rfl)) ?_ | refine w_cons (Or.inr (by assumption)) ?_)) (by repeat (first | exact w_nil | refine w_cons (Or.inl (y_m rfl)) ?_ | refine w_cons (Or.inr (by assumption)) ?_))
    have e2 := y_sq e f rfl rfl
    refine aOK_deep (d := d + 1) (by omega) (q_weighs (y_wc_fr s e2 rfl rfl rfl) (fun r H2 e3 r0 r8 => ⟨fun n e => (by cases e), ?_⟩))
    exact T102 (y_sq e2 e3 rfl rfl) (y_od_fr (y_od_fr od f rfl rfl) e3 rfl rfl) r0
  have T66 : ∀ {G : aH} {w wo x : Int32}, y_fr h G [19587, 19588, 19589, 19629, 19630, 19631, 19632, 19633] [155, 179] → y_od G → aOK s_P X (d + 5) a_m262 66 [some (.ref 155), some (.int hd), some (.int cl), some (.int w), some (.int wo), none, none, none, none, none, none] [.int x] G C S K0 := by
    intro G w wo x e od
    refine w_go z_hl [] [193] 30 e.1 ?_
    refine ⟨fun _ => fun H hH => ?_, fun _ => fun H hH => hk _ H (y_st e hH (by repeat (first | exact w_nil | refine w_cons (Or.inl (y_m rfl)) ?_ | refine w_cons (Or.inr (by assumption)) ?_)) (by repeat (first | exact w_nil | refine w_cons (Or.inl (y_m rfl)) ?_ | refine w_cons (Or.inr (by assumption)) ?_)))⟩
    have f : y_fr G H [] [] := y_st (y_rf e.1) hH (by repeat (first | exact w_nil | refine w_cons (Or.inl (y_m rfl)) ?_ | refine w_cons (Or.inr (by assumption)) ?_)) (by repeat (first | exact w_nil | refine w_cons (Or.inl (y_m rfl)) ?_ | refine w_cons (Or.inr (by assumption)) ?_))
    have e2 := y_sq e f rfl rfl
    refine aOK_deep (d := d + 1) (by omega) (q_weighs (y_wc_fr s e2 rfl rfl rfl) (fun r H2 e3 r0 r8 => ⟨fun n e => (by cases e), ?_⟩))
    exact T89 (y_sq e2 e3 rfl rfl) (y_od_fr (y_od_fr od f rfl rfl) e3 rfl rfl)
  have T60 : ∀ {G : aH} {w wo t : Int32}, y_fr h G [19587, 19588, 19589, 19629, 19630, 19631, 19632, 19633] [155, 179] → w_f G 19629 = some (.int t) → 0 ≤ t.toInt → t.toInt ≤ 10 → aOK s_P X (d + 5) a_m262 60 [some (.ref 155), some (.int hd), some (.int cl), some (.int w), some (.int wo), none, none, none, none, none, none] [] G C S K0 := by
    intro G w wo t e g1 t0 t10
    refine w_go z_hl [] [259] 30 e.1 ?_
    intro H hH
    have f : y_fr G H [] [] := y_st (y_rf e.1) hH (by repeat (first | exact w_nil | refine w_cons (Or.inl (y_m rfl)) ?_ | refine w_cons (Or.inr (by assumption)) ?_)) (by repeat (first | exact w_nil | refine w_cons (Or.inl (y_m rfl)) ?_ | refine w_cons (Or.inr (by assumption)) ?_))
    have e2 := y_sq e f rfl rfl
    refine y_hears (y_wc_fr s e2 rfl rfl rfl) h0 h5 ((y_fe f rfl).trans g1) t0 t10 (fun x H2 f2 od2 => ⟨fun n e => (by cases e), ?_⟩)
    exact T66 (y_sq e2 f2 rfl rfl) od2
  have T47 : ∀ {G : aH} {w wo : Int32} {a : Int64}, y_fr h G [] [] → aOK s_P X (d + 5) a_m262 47 [some (.ref 155), some (.int hd), some (.int cl), some (.int w), some (.int wo), none, none, none, none, none, none] [.long a] G C S K0 := by
    intro G w wo a e
    refine w_go z_hl [] [258] 30 e.1 ?_
    refine ⟨fun _ => fun H hH => ?_, fun _ => fun H hH => hk _ H (y_st (y_mo e rfl rfl) hH (by repeat (first | exact w_nil | refine w_cons (Or.inl (y_m rfl)) ?_ | refine w_cons (Or.inr (by assumption)) ?_)) (by repeat (first | exact w_nil | refine w_cons (Or.inl (y_m rfl)) ?_ | refine w_cons (Or.inr (by assumption)) ?_)))⟩
    have e2 := y_st e hH (by repeat (first | exact w_nil | refine w_cons (Or.inl (y_m rfl)) ?_ | refine w_cons (Or.inr (by assumption)) ?_)) (by repeat (first | exact w_nil | refine w_cons (Or.inl (y_m rfl)) ?_ | refine w_cons (Or.inr (by assumption)) ?_))
    refine y_tellsAll e2.1 ((y_fe e2 rfl).trans g) (fun H2 t' f2 g2 x0 x1 => ⟨fun n e => (by cases e), ?_⟩)
    exact T60 (y_sq (y_mo e2 rfl rfl) f2 rfl rfl) g2 x0 x1
  have T38 : ∀ {G : aH} {w wo : Int32}, y_fr h G [] [] → aOK s_P X (d + 5) a_m262 38 [some (.ref 155), some (.int hd), some (.int cl), some (.int w), none, none, none, none, none, none, none] [.int wo] G C S K0 := by
    intro G w wo e
    refine w_go z_hl [] [193] 30 e.1 ?_
    intro H hH
    have e2 := y_st e hH (by repeat (first | exact w_nil | refine w_cons (Or.inl (y_m rfl)) ?_ | refine w_cons (Or.inr (by assumption)) ?_)) (by repeat (first | exact w_nil | refine w_cons (Or.inl (y_m rfl)) ?_ | refine w_cons (Or.inr (by assumption)) ?_))
    refine aOK_deep (d := d + 1) (by omega) (q_weighs (y_wc_fr s e2 rfl rfl rfl) (fun r H2 e3 r0 r8 => ⟨fun n e => (by cases e), ?_⟩))
    exact T47 (y_sq e2 e3 rfl rfl)
  have T32 : ∀ {G : aH} {w : Int32}, y_fr h G [] [] → aOK s_P X (d + 5) a_m262 32 [some (.ref 155), some (.int hd), some (.int cl), none, none, none, none, none, none, none, none] [.int w] G C S K0 := by
    intro G w e
    refine w_go z_hl [] [192] 30 e.1 ?_
    intro H hH
    have e2 := y_st e hH (by repeat (first | exact w_nil | refine w_cons (Or.inl (y_m rfl)) ?_ | refine w_cons (Or.inr (by assumption)) ?_)) (by repeat (first | exact w_nil | refine w_cons (Or.inl (y_m rfl)) ?_ | refine w_cons (Or.inr (by assumption)) ?_))
    have s2 := y_wc_fr s e2 rfl rfl rfl
    refine y_seenNot s2.1 s2.2.1 s2.2.2.1 (fun H2 e3 => ⟨fun n e => (by cases e), ?_⟩)
    exact T38 (y_sq e2 e3 rfl rfl)
  refine w_go z_hl [] [191] 30 s.1 ?_
  intro H hH
  have e2 : y_fr h H [] [] := y_st (y_rf s.1) hH (by repeat (first | exact w_nil | refine w_cons (Or.inl (y_m rfl)) ?_ | refine w_cons (Or.inr (by assumption)) ?_)) (by repeat (first | exact w_nil | refine w_cons (Or.inl (y_m rfl)) ?_ | refine w_cons (Or.inr (by assumption)) ?_))
  have s2 := y_wc_fr s e2 rfl rfl rfl
  refine y_seenSo s2.1 s2.2.1 s2.2.2.1 (fun H2 e3 => ⟨fun n e => (by cases e), ?_⟩)
  exact T32 (y_sq e2 e3 rfl rfl)
theorem p_errs (hr : w_hr z_D h) (hJ : y_J h) {hd cl : Int32} (hk : ∀ (r : Int32) (H : aH), y_fr h H [19584, 19587, 19588, 19589, 19629, 19630, 19631, 19632, 19633] [155, 163, 179] → y_J H → K0 (some (.int r)) H C S) : aOK s_P X (d + 5) a_m262 0 [some (.ref 155), some (.int hd), some (.int cl), none, none, none, none, none, none, none, none] [] h C S K0 := by
  obtain ⟨nd, sm, so, sa, s1, s2, s3, s4, s5⟩ := id hJ.2.2.2.2.1
  obtain ⟨b1, b2⟩ := y_ndb hr s1
  have out : ∀ {G : aH} {r : Int32}, y_fr h G [19584] [] → K0 (some (.int r)) G C S := fun g => hk _ _ (y_mo g rfl rfl) (y_J_fr g rfl rfl hJ)
  have T18 : ∀ {G : aH} {v : Nat}, y_fr h G [19584] [] → 0 ≤ hd.toInt → hd.toInt ≤ 5 → cl.toInt = v → v < 10 → aOK s_P X (d + 5) a_m262 18 [some (.ref 155), some (.int hd), some (.int cl), none, none, none, none, none, none, none, none] [.int (y_01 true)] G C S K0 := by
    intro G v e x0 x5 hv v10
    refine w_go z_hl [] [188] 30 e.1 ?_
    refine ⟨fun _ => fun H hH => ?_, fun q => absurd q (by decide)⟩
    have e2 := y_st e hH (by repeat (first | exact w_nil | refine w_cons (Or.inl (y_m rfl)) ?_ | refine w_cons (Or.inr (by assumption)) ?_)) (by repeat (first | exact w_nil | refine w_cons (Or.inl (y_m rfl)) ?_ | refine w_cons (Or.inr (by assumption)) ?_))
    refine aOK_deep (d := d + 2) (by omega) (q_weighsUp e2.1 (y_J_fr e2 rfl rfl hJ) (fun wl H2 e3 J3 hw => ⟨fun n e => (by cases e), ?_⟩))
    have e4 : y_fr h H2 [19584] [163] := y_sq (y_mo e2 rfl rfl) e3 rfl rfl
    refine y_errs_tail ⟨e4.1, (y_fe e4 rfl).trans s1, (y_ae e4 rfl).trans s4, hw⟩ ((y_fe e4 rfl).trans s2) x0 x5 (fun r H5 e5 => ?_)
    exact hk r H5 (y_sq (y_mo e4 rfl rfl) e5 rfl rfl) (y_J_fr e5 rfl rfl J3)
  have T18n : ∀ {G : aH}, y_fr h G [19584] [] → aOK s_P X (d + 5) a_m262 18 [some (.ref 155), some (.int hd), some (.int cl), none, none, none, none, none, none, none, none] [.int (y_01 false)] G C S K0 := by
    intro G e
    refine w_go z_hl [] [] 30 e.1 ?_
    exact ⟨fun q => absurd q (by decide), fun _ => fun H hH => out (y_st e hH (by repeat (first | exact w_nil | refine w_cons (Or.inl (y_m rfl)) ?_ | refine w_cons (Or.inr (by assumption)) ?_)) (by repeat (first | exact w_nil | refine w_cons (Or.inl (y_m rfl)) ?_ | refine w_cons (Or.inr (by assumption)) ?_)))⟩
  have T10 : ∀ {G : aH}, y_fr h G [19584] [] → 0 ≤ hd.toInt → hd.toInt ≤ 5 → aOK s_P X (d + 5) a_m262 10 [some (.ref 155), some (.int hd), some (.int cl), none, none, none, none, none, none, none, none] [.int (y_01 true)] G C S K0 := by
    intro G e x0 x5
    refine w_go z_hl [] [178] 30 e.1 ?_
    refine ⟨fun q => absurd q (by decide), fun _ => fun H hH => ?_⟩
    have e2 := y_st e hH (by repeat (first | exact w_nil | refine w_cons (Or.inl (y_m rfl)) ?_ | refine w_cons (Or.inr (by assumption)) ?_)) (by repeat (first | exact w_nil | refine w_cons (Or.inl (y_m rfl)) ?_ | refine w_cons (Or.inr (by assumption)) ?_))
    refine q_isNode (v := cl) e2.1 ((y_fe e2 rfl).trans s1) (fun H2 v h2 hv hv2 hvc => ⟨fun n e => (by cases e), ?_⟩) (fun H2 h2 => ⟨fun n e => (by cases e), ?_⟩)
    · exact T18 (y_sq e2 h2 rfl rfl) x0 x5 hv (by omega)
    · exact T18n (y_sq e2 h2 rfl rfl)
  have T10n : ∀ {G : aH}, y_fr h G [19584] [] → aOK s_P X (d + 5) a_m262 10 [some (.ref 155), some (.int hd), some (.int cl), none, none, none, none, none, none, none, none] [.int (y_01 false)] G C S K0 := by
    intro G e
    refine w_go z_hl [] [] 30 e.1 ?_
    exact ⟨fun _ => fun H hH => out (y_st e hH (by repeat (first | exact w_nil | refine w_cons (Or.inl (y_m rfl)) ?_ | refine w_cons (Or.inr (by assumption)) ?_)) (by repeat (first | exact w_nil | refine w_cons (Or.inl (y_m rfl)) ?_ | refine w_cons (Or.inr (by assumption)) ?_))), fun q => absurd q (by decide)⟩
  refine w_go z_hl [] [257] 30 hr ?_
  refine ⟨rfl, y_zini (by decide) (by decide), fun H1 h1 => ?_⟩
  have e1 : y_fr h H1 [19584] [] := y_st (y_mo (y_rf hr) rfl rfl) h1 (by repeat (first | exact w_nil | refine w_cons (Or.inl (y_m rfl)) ?_ | refine w_cons (Or.inr (by assumption)) ?_)) (by repeat (first | exact w_nil | refine w_cons (Or.inl (y_m rfl)) ?_ | refine w_cons (Or.inr (by assumption)) ?_))
  refine y_isHead e1.1 (fun H2 h2 x0 x5 => ⟨fun n e => (by cases e), ?_⟩) (fun H2 h2 => ⟨fun n e => (by cases e), ?_⟩)
  · exact T10 (y_sq e1 h2 rfl rfl) x0 x5
  · exact T10n (y_sq e1 h2 rfl rfl)
end WG
end PT30g
section PT30h
/-! ===== v3: the reference's orders, order ===== -/
def y_bf (H : aH) : Prop := ∃ (f : Int32) (bl : Int64), w_f H 19636 = some (.int f) ∧ w_f H 19639 = some (.long bl) ∧ (f ≠ 0 → 1 ≤ bl.toInt)
theorem y_bf_fr {h H : aH} {fs as : List Nat} (q : y_bf h) (e : y_fr h H fs as) (h1 : fs.elem 19636 = false) (h2 : fs.elem 19639 = false) : y_bf H := by
  obtain ⟨u, l, q1, q2, q3⟩ := q
  exact ⟨u, l, (y_fe e h1).trans q1, (y_fe e h2).trans q2, q3⟩
section WG
variable {X : aX} {C S d : Nat} {h : aH} {nd : Int32} {sa : List Int32} {wl : List Int64} {K0 : Option Value → aH → Nat → Nat → Prop}
theorem y_ord_cp {hd cl nI mI us x8 : Int32} {o6 o7 : Option Value} (m0 : 0 ≤ mI.toInt) (m5 : mI.toInt ≤ 5) : ∀ (m : Nat) (h : aH) (kI : Int32) (k : Nat), w_hr z_D h → kI.toInt = k → (k : Int) + m = mI.toInt → (∀ (H : aH), y_fr h H [] [181] → K0 none H C S) → aOK s_P X d a_m264 125 [some (.ref 155), some (.int hd), some (.int cl), some (.int nI), some (.int mI), some (.int us), o6, o7, some (.int x8), some (.int kI)] [] h C S K0 := by
  intro m
  induction m with
  | zero =>
    intro h kI k hr hk hm hK
    refine w_go z_hl [125] [] 30 hr ?_
    refine ⟨fun _ => fun H hH => hK H (y_st (y_mo (y_rf hr) rfl rfl) hH (by repeat (first | exact w_nil | refine w_cons (Or.inl (y_m rfl)) ?_ | refine w_cons (Or.inr (by assumption)) ?_)) (by repeat (first | exact w_nil | refine w_cons (Or.inl (y_m rfl)) ?_ | refine w_cons (Or.inr (by assumption)) ?_))), fun q => ?_⟩
    have : ¬ (mI.toInt ≤ kI.toInt) := y_cif q
    omega
  | succ m ih =>
    intro h kI k hr hk hm hK
    have ink : (kI + Int32.ofInt 1).toInt = ((k + 1 : Nat) : Int) := by rw [y_inc (by omega), hk]; rfl
    refine w_go z_hl [125] [] 30 hr ?_
    refine ⟨fun q => ?_, fun _ => ⟨⟨by omega, by omega⟩, fun l hl len bb => ⟨⟨by omega, by omega⟩, bb _ (z_gd (0 : Int32) (show kI.toNatClampNeg < l.length by have := y_cl1 hk; omega)), fun l2 hl2 len2 bb2 => fun H hH => ?_⟩⟩⟩
    · have : mI.toInt ≤ kI.toInt := (y_ci .ge _ _).mp q
      omega
    · have e : y_fr h H [] [181] := y_st (y_mo (y_rf hr) rfl rfl) hH (by repeat (first | exact w_nil | refine w_cons (Or.inl (y_m rfl)) ?_ | refine w_cons (Or.inr (by assumption)) ?_)) (by repeat (first | exact w_nil | refine w_cons (Or.inl (y_m rfl)) ?_ | refine w_cons (Or.inr (by assumption)) ?_))
      exact ih H _ (k + 1) e.1 ink (by omega) (fun H' f => hK H' (y_sq e f rfl rfl))
def y_OR (X : aX) (C S d : Nat) (nd : Int32) (sa : List Int32) (wl : List Int64) (N : Nat) : Prop := ∀ (h : aH) (hd cl nI mI us : Int32) (K0 : Option Value → aH → Nat → Nat → Prop), y_wc h nd sa wl → y_bf h → 0 ≤ hd.toInt → hd.toInt ≤ 5 → 0 ≤ nI.toInt → nI.toInt + N = mI.toInt → mI.toInt ≤ 5 → (∀ (H : aH), y_fr h H [19587, 19588, 19589, 19629, 19630, 19631, 19632, 19633, 19636, 19637, 19638, 19639] [155, 179, 181] → y_bf H → K0 none H C S) → aOK s_P X (N + d + 6) a_m264 0 [some (.ref 155), some (.int hd), some (.int cl), some (.int nI), some (.int mI), some (.int us), none, none, none, none] [] h C S K0
theorem y_or_leaf (s : y_wc h nd sa wl) (bf : y_bf h) {hd cl nI mI us : Int32} (h0 : 0 ≤ hd.toInt) (h5 : hd.toInt ≤ 5) (m0 : 0 ≤ mI.toInt) (m5 : mI.toInt ≤ 5) (nm : nI.toInt = mI.toInt) (hK : ∀ (H : aH), y_fr h H [19587, 19588, 19589, 19629, 19630, 19631, 19632, 19633, 19636, 19637, 19638, 19639] [155, 179, 181] → y_bf H → K0 none H C S) : aOK s_P X (d + 6) a_m264 0 [some (.ref 155), some (.int hd), some (.int cl), some (.int nI), some (.int mI), some (.int us), none, none, none, none] [] h C S K0 := by
  have T95 : ∀ {G : aH} {x : Int32} {b c : Bool}, y_fr h G [19587, 19588, 19589, 19629, 19630, 19631, 19632, 19633, 19636, 19637, 19638, 19639] [155, 179, 181] → y_od G → aOK s_P X (d + 6) a_m264 95 [some (.ref 155), some (.int hd), some (.int cl), some (.int nI), some (.int mI), some (.int us), some (.int x), some (.int (y_01 b)), some (.int (y_01 c)), none] [] G C S K0 := by
    intro G x b c e od
    obtain ⟨u, l, o1, o2, o3, o4⟩ := od
    refine w_go z_hl [125] [] 40 e.1 ?_
    refine ⟨rfl, y_zini (by decide) (by decide), ⟨by cases b <;> rfl, y_zini (y_01b b).1 (y_01b b).2, ?_⟩⟩
    intro y hy _ _
    obtain rfl := y_fl o1 hy
    refine ⟨rfl, y_zin o3 (y_l64 u).2, ?_⟩
    intro z hz _ _
    obtain rfl := y_fl o2 hz
    refine ⟨rfl, y_zin (by show 0 ≤ l.toInt; omega) (y_l64 l).2, fun H hH => ?_⟩
    have e2 := y_st e hH (by repeat (first | exact w_nil | refine w_cons (Or.inl (y_m rfl)) ?_ | refine w_cons (Or.inr (by assumption)) ?_)) (by repeat (first | exact w_nil | refine w_cons (Or.inl (y_m rfl)) ?_ | refine w_cons (Or.inr (by assumption)) ?_))
    have b2 : y_bf H := ⟨_, l, hH.2.1 19636 _ rfl, hH.2.1 19639 _ rfl, fun _ => o4⟩
    exact y_ord_cp m0 m5 mI.toInt.toNat H _ 0 e2.1 rfl (by omega) (fun H' f => hK H' (y_sq e2 f rfl rfl) (y_bf_fr b2 f rfl rfl))
  have T88 : ∀ {G : aH} {x : Int32} {b c : Bool}, y_fr h G [19587, 19588, 19589, 19629, 19630, 19631, 19632, 19633, 19636, 19637, 19638, 19639] [155, 179, 181] → y_od G → y_bf G → aOK s_P X (d + 6) a_m264 88 [some (.ref 155), some (.int hd), some (.int cl), some (.int nI), some (.int mI), some (.int us), some (.int x), some (.int (y_01 b)), none, none] [.int (y_01 c)] G C S K0 := by
    intro G x b c e od bf2
    have f0 : y_fr G G [] [] := y_rf e.1
    refine w_go z_hl [95] [] 40 e.1 ?_
    exact ⟨fun _ => fun H hH => hK H (y_sq e (y_st f0 hH (by repeat (first | exact w_nil | refine w_cons (Or.inl (y_m rfl)) ?_ | refine w_cons (Or.inr (by assumption)) ?_)) (by repeat (first | exact w_nil | refine w_cons (Or.inl (y_m rfl)) ?_ | refine w_cons (Or.inr (by assumption)) ?_))) rfl rfl) (y_bf_fr bf2 (y_st f0 hH (by repeat (first | exact w_nil | refine w_cons (Or.inl (y_m rfl)) ?_ | refine w_cons (Or.inr (by assumption)) ?_)) (by repeat (first | exact w_nil | refine w_cons (Or.inl (y_m rfl)) ?_ | refine w_cons (Or.inr (by assumption)) ?_))) rfl rfl), fun _ => fun H hH => T95 (y_sq e (y_st f0 hH (by repeat (first | exact w_nil | refine w_cons (Or.inl (y_m rfl)) ?_ | refine w_cons (Or.inr (by assumption)) ?_)) (by repeat (first | exact w_nil | refine w_cons (Or.inl (y_m rfl)) ?_ | refine w_cons (Or.inr (by assumption)) ?_))) rfl rfl) (y_od_fr od (y_st f0 hH (by repeat (first | exact w_nil | refine w_cons (Or.inl (y_m rfl)) ?_ | refine w_cons (Or.inr (by assumption)) ?_)) (by repeat (first | exact w_nil | refine w_cons (Or.inl (y_m rfl)) ?_ | refine w_cons (Or.inr (by assumption)) ?_))) rfl rfl)⟩
  have T80 : ∀ {G : aH} {x c : Int32} {b : Bool}, y_fr h G [19587, 19588, 19589, 19629, 19630, 19631, 19632, 19633, 19636, 19637, 19638, 19639] [155, 179, 181] → y_od G → y_bf G → aOK s_P X (d + 6) a_m264 80 [some (.ref 155), some (.int hd), some (.int cl), some (.int nI), some (.int mI), some (.int us), some (.int x), some (.int (y_01 b)), none, none] [.int c] G C S K0 := by
    intro G x c b e od bf2
    have f0 : y_fr G G [] [] := y_rf e.1
    refine w_go z_hl [88] [] 40 e.1 ?_
    exact ⟨fun _ => fun H hH => T88 (c := false) (y_sq e (y_st f0 hH (by repeat (first | exact w_nil | refine w_cons (Or.inl (y_m rfl)) ?_ | refine w_cons (Or.inr (by assumption)) ?_)) (by repeat (first | exact w_nil | refine w_cons (Or.inl (y_m rfl)) ?_ | refine w_cons (Or.inr (by assumption)) ?_))) rfl rfl) (y_od_fr od (y_st f0 hH (by repeat (first | exact w_nil | refine w_cons (Or.inl (y_m rfl)) ?_ | refine w_cons (Or.inr (by assumption)) ?_)) (by repeat (first | exact w_nil | refine w_cons (Or.inl (y_m rfl)) ?_ | refine w_cons (Or.inr (by assumption)) ?_))) rfl rfl) (y_bf_fr bf2 (y_st f0 hH (by repeat (first | exact w_nil | refine w_cons (Or.inl (y_m rfl)) ?_ | refine w_cons (Or.inr (by assumption)) ?_)) (by repeat (first | exact w_nil | refine w_cons (Or.inl (y_m rfl)) ?_ | refine w_cons (Or.inr (by assumption)) ?_))) rfl rfl), fun _ => fun H hH => T88 (c := true) (y_sq e (y_st f0 hH (by repeat (first | exact w_nil | refine w_cons (Or.inl (y_m rfl)) ?_ | refine w_cons (Or.inr (by assumption)) ?_)) (by repeat (first | exact w_nil | refine w_cons (Or.inl (y_m rfl)) ?_ | refine w_cons (Or.inr (by assumption)) ?_))) rfl rfl) (y_od_fr od (y_st f0 hH (by repeat (first | exact w_nil | refine w_cons (Or.inl (y_m rfl)) ?_ | refine w_cons (Or.inr (by assumption)) ?_)) (by repeat (first | exact w_nil | refine w_cons (Or.inl (y_m rfl)) ?_ | refine w_cons (Or.inr (by assumption)) ?_))) rfl rfl) (y_bf_fr bf2 (y_st f0 hH (by repeat (first | exact w_nil | refine w_cons (Or.inl (y_m rfl)) ?_ | refine w_cons (Or.inr (by assumption)) ?_)) (by repeat (first | exact w_nil | refine w_cons (Or.inl (y_m rfl)) ?_ | refine w_cons (Or.inr (by assumption)) ?_))) rfl rfl)⟩
  have T39 : ∀ {G : aH} {x : Int32} {b : Bool}, y_fr h G [19587, 19588, 19589, 19629, 19630, 19631, 19632, 19633, 19636, 19637, 19638, 19639] [155, 179, 181] → y_od G → y_bf G → aOK s_P X (d + 6) a_m264 39 [some (.ref 155), some (.int hd), some (.int cl), some (.int nI), some (.int mI), some (.int us), some (.int x), none, none, none] [.int (y_01 b)] G C S K0 := by
    intro G x b e od bf2
    obtain ⟨u, l, o1, o2, o3, o4⟩ := id od
    obtain ⟨ff, bl, p1, p2, p3⟩ := id bf2
    have f0 : y_fr G G [] [] := y_rf e.1
    refine w_go z_hl [88] [203] 60 e.1 ?_
    intro y hy _ _
    obtain rfl := y_fi p1 hy
    refine ⟨fun _ => fun H hH => T88 (c := true) (y_sq e (y_st f0 hH (by repeat (first | exact w_nil | refine w_cons (Or.inl (y_m rfl)) ?_ | refine w_cons (Or.inr (by assumption)) ?_)) (by repeat (first | exact w_nil | refine w_cons (Or.inl (y_m rfl)) ?_ | refine w_cons (Or.inr (by assumption)) ?_))) rfl rfl) (y_od_fr od (y_st f0 hH (by repeat (first | exact w_nil | refine w_cons (Or.inl (y_m rfl)) ?_ | refine w_cons (Or.inr (by assumption)) ?_)) (by repeat (first | exact w_nil | refine w_cons (Or.inl (y_m rfl)) ?_ | refine w_cons (Or.inr (by assumption)) ?_))) rfl rfl) (y_bf_fr bf2 (y_st f0 hH (by repeat (first | exact w_nil | refine w_cons (Or.inl (y_m rfl)) ?_ | refine w_cons (Or.inr (by assumption)) ?_)) (by repeat (first | exact w_nil | refine w_cons (Or.inl (y_m rfl)) ?_ | refine w_cons (Or.inr (by assumption)) ?_))) rfl rfl), fun q => ?_⟩
    intro z hz _ _
    refine ⟨fun _ => fun H hH => T88 (c := false) (y_sq e (y_st f0 hH (by repeat (first | exact w_nil | refine w_cons (Or.inl (y_m rfl)) ?_ | refine w_cons (Or.inr (by assumption)) ?_)) (by repeat (first | exact w_nil | refine w_cons (Or.inl (y_m rfl)) ?_ | refine w_cons (Or.inr (by assumption)) ?_))) rfl rfl) (y_od_fr od (y_st f0 hH (by repeat (first | exact w_nil | refine w_cons (Or.inl (y_m rfl)) ?_ | refine w_cons (Or.inr (by assumption)) ?_)) (by repeat (first | exact w_nil | refine w_cons (Or.inl (y_m rfl)) ?_ | refine w_cons (Or.inr (by assumption)) ?_))) rfl rfl) (y_bf_fr bf2 (y_st f0 hH (by repeat (first | exact w_nil | refine w_cons (Or.inl (y_m rfl)) ?_ | refine w_cons (Or.inr (by assumption)) ?_)) (by repeat (first | exact w_nil | refine w_cons (Or.inl (y_m rfl)) ?_ | refine w_cons (Or.inr (by assumption)) ?_))) rfl rfl), fun _ => ⟨fun _ => fun H hH => T88 (c := true) (y_sq e (y_st f0 hH (by repeat (first | exact w_nil | refine w_cons (Or.inl (y_m rfl)) ?_ | refine w_cons (Or.inr (by assumption)) ?_)) (by repeat (first | exact w_nil | refine w_cons (Or.inl (y_m rfl)) ?_ | refine w_cons (Or.inr (by assumption)) ?_))) rfl rfl) (y_od_fr od (y_st f0 hH (by repeat (first | exact w_nil | refine w_cons (Or.inl (y_m rfl)) ?_ | refine w_cons (Or.inr (by assumption)) ?_)) (by repeat (first | exact w_nil | refine w_cons (Or.inl (y_m rfl)) ?_ | refine w_cons (Or.inr (by assumption)) ?_))) rfl rfl) (y_bf_fr bf2 (y_st f0 hH (by repeat (first | exact w_nil | refine w_cons (Or.inl (y_m rfl)) ?_ | refine w_cons (Or.inr (by assumption)) ?_)) (by repeat (first | exact w_nil | refine w_cons (Or.inl (y_m rfl)) ?_ | refine w_cons (Or.inr (by assumption)) ?_))) rfl rfl), fun _ => ?_⟩⟩
    have q2 : ¬ (ff.toInt = (0 : Int32).toInt) := y_cif q
    have bl1 := p3 (fun e => q2 (by rw [e]))
    intro a ha _ _
    obtain rfl := y_fl o1 ha
    intro b' hb' _ _
    obtain rfl := y_fl o2 hb'
    intro c hc _ _
    intro e' he' _ _
    obtain rfl := y_fl p2 he'
    intro H hH
    have f : y_fr G H [] [] := y_st f0 hH (by repeat (first | exact w_nil | refine w_cons (Or.inl (y_m rfl)) ?_ | refine w_cons (Or.inr (by assumption)) ?_)) (by repeat (first | exact w_nil | refine w_cons (Or.inl (y_m rfl)) ?_ | refine w_cons (Or.inr (by assumption)) ?_))
    refine aOK_deep (d := d + 1) (by omega) (y_compares (b := l) (e := bl) f.1 (fun q => by rw [q] at o4; exact absurd o4 (by decide)) (fun q => by rw [q] at bl1; exact absurd bl1 (by decide)) (fun r H3 hr3 e3 => ⟨fun n e => (by cases e), ?_⟩))
    exact T80 (y_sq (y_sq e f rfl rfl) e3 rfl rfl) (y_od_fr (y_od_fr od f rfl rfl) e3 rfl rfl) (y_bf_fr (y_bf_fr bf2 f rfl rfl) e3 rfl rfl)
  have T18 : ∀ {G : aH} {x : Int32}, y_fr h G [19587, 19588, 19589, 19629, 19630, 19631, 19632, 19633, 19636, 19637, 19638, 19639] [155, 179, 181] → y_od G → y_bf G → aOK s_P X (d + 6) a_m264 18 [some (.ref 155), some (.int hd), some (.int cl), some (.int nI), some (.int mI), some (.int us), none, none, none, none] [.int x] G C S K0 := by
    intro G x e od bf2
    have f0 : y_fr G G [] [] := y_rf e.1
    refine w_go z_hl [39] [] 40 e.1 ?_
    refine ⟨fun _ => ⟨fun _ => fun H hH => T39 (b := false) (y_sq e (y_st f0 hH (by repeat (first | exact w_nil | refine w_cons (Or.inl (y_m rfl)) ?_ | refine w_cons (Or.inr (by assumption)) ?_)) (by repeat (first | exact w_nil | refine w_cons (Or.inl (y_m rfl)) ?_ | refine w_cons (Or.inr (by assumption)) ?_))) rfl rfl) (y_od_fr od (y_st f0 hH (by repeat (first | exact w_nil | refine w_cons (Or.inl (y_m rfl)) ?_ | refine w_cons (Or.inr (by assumption)) ?_)) (by repeat (first | exact w_nil | refine w_cons (Or.inl (y_m rfl)) ?_ | refine w_cons (Or.inr (by assumption)) ?_))) rfl rfl) (y_bf_fr bf2 (y_st f0 hH (by repeat (first | exact w_nil | refine w_cons (Or.inl (y_m rfl)) ?_ | refine w_cons (Or.inr (by assumption)) ?_)) (by repeat (first | exact w_nil | refine w_cons (Or.inl (y_m rfl)) ?_ | refine w_cons (Or.inr (by assumption)) ?_))) rfl rfl), fun _ => fun H hH => T39 (b := true) (y_sq e (y_st f0 hH (by repeat (first | exact w_nil | refine w_cons (Or.inl (y_m rfl)) ?_ | refine w_cons (Or.inr (by assumption)) ?_)) (by repeat (first | exact w_nil | refine w_cons (Or.inl (y_m rfl)) ?_ | refine w_cons (Or.inr (by assumption)) ?_))) rfl rfl) (y_od_fr od (y_st f0 hH (by repeat (first | exact w_nil | refine w_cons (Or.inl (y_m rfl)) ?_ | refine w_cons (Or.inr (by assumption)) ?_)) (by repeat (first | exact w_nil | refine w_cons (Or.inl (y_m rfl)) ?_ | refine w_cons (Or.inr (by assumption)) ?_))) rfl rfl) (y_bf_fr bf2 (y_st f0 hH (by repeat (first | exact w_nil | refine w_cons (Or.inl (y_m rfl)) ?_ | refine w_cons (Or.inr (by assumption)) ?_)) (by repeat (first | exact w_nil | refine w_cons (Or.inl (y_m rfl)) ?_ | refine w_cons (Or.inr (by assumption)) ?_))) rfl rfl)⟩, fun _ => fun H hH => hK H (y_sq e (y_st f0 hH (by repeat (first | exact w_nil | refine w_cons (Or.inl (y_m rfl)) ?_ | refine w_cons (Or.inr (by assumption)) ?_)) (by repeat (first | exact w_nil | refine w_cons (Or.inl (y_m rfl)) ?_ | refine w_cons (Or.inr (by assumption)) ?_))) rfl rfl) (y_bf_fr bf2 (y_st f0 hH (by repeat (first | exact w_nil | refine w_cons (Or.inl (y_m rfl)) ?_ | refine w_cons (Or.inr (by assumption)) ?_)) (by repeat (first | exact w_nil | refine w_cons (Or.inl (y_m rfl)) ?_ | refine w_cons (Or.inr (by assumption)) ?_))) rfl rfl)⟩
  refine w_go z_hl [] [259] 40 s.1 ?_
  refine ⟨fun q => ?_, fun _ => ⟨rfl, y_zini (by show 0 ≤ mI.toInt; omega) (by show mI.toInt ≤ 10; omega), fun H hH => ?_⟩⟩
  · have q2 : nI.toInt ≠ mI.toInt := (y_ci .ne _ _).mp q
    omega
  · have f : y_fr h H [19629] [] := y_st (y_mo (y_rf s.1) rfl rfl) hH (by repeat (first | exact w_nil | refine w_cons (Or.inl (y_m rfl)) ?_ | refine w_cons (Or.inr (by assumption)) ?_)) (by repeat (first | exact w_nil | refine w_cons (Or.inl (y_m rfl)) ?_ | refine w_cons (Or.inr (by assumption)) ?_))
    refine aOK_deep (d := d + 4) (by omega) (y_hears (y_wc_fr s f rfl rfl rfl) h0 h5 (hH.2.1 19629 _ rfl) m0 (by omega) (fun x H2 f2 od2 => ⟨fun n e => (by cases e), ?_⟩))
    exact T18 (y_sq (y_mo f rfl rfl) f2 rfl rfl) od2 (y_bf_fr (y_bf_fr bf f rfl rfl) f2 rfl rfl)
theorem y_orr_loop {N : Nat} (ih : y_OR X C S d nd sa wl N) {hd cl nI mI us : Int32} (h0 : 0 ≤ hd.toInt) (h5 : hd.toInt ≤ 5) (n0 : 0 ≤ nI.toInt) (nm : nI.toInt + (N + 1) = mI.toInt) (m5 : mI.toInt ≤ 5) : ∀ (m : Nat) (h : aH) (kI : Int32) (k : Nat), y_wc h nd sa wl → y_bf h → kI.toInt = k → (k : Int) + m = mI.toInt → (∀ (H : aH), y_fr h H [19587, 19588, 19589, 19629, 19630, 19631, 19632, 19633, 19636, 19637, 19638, 19639] [155, 179, 181] → y_bf H → K0 none H C S) → aOK s_P X (N + 1 + d + 6) a_m264 156 [some (.ref 155), some (.int hd), some (.int cl), some (.int nI), some (.int mI), some (.int us), some (.int kI), none, none, none] [] h C S K0 := by
  intro m
  induction m with
  | zero =>
    intro h kI k s bf hk hm hK
    refine w_go z_hl [156] [] 30 s.1 ?_
    refine ⟨fun _ => fun H hH => ?_, fun q => ?_⟩
    · have f : y_fr h H [] [] := y_st (y_rf s.1) hH (by repeat (first | exact w_nil | refine w_cons (Or.inl (y_m rfl)) ?_ | refine w_cons (Or.inr (by assumption)) ?_)) (by repeat (first | exact w_nil | refine w_cons (Or.inl (y_m rfl)) ?_ | refine w_cons (Or.inr (by assumption)) ?_))
      exact hK H (y_mo f rfl rfl) (y_bf_fr bf f rfl rfl)
    · have : ¬ (mI.toInt ≤ kI.toInt) := y_cif q
      omega
  | succ m ihm =>
    intro h kI k s bf hk hm hK
    have ink : (kI + Int32.ofInt 1).toInt = ((k + 1 : Nat) : Int) := by rw [y_inc (by omega), hk]; rfl
    have inn : (nI + Int32.ofInt 1).toInt = nI.toInt + 1 := y_inc (by omega)
    have T204 : ∀ {G : aH}, y_fr h G [19587, 19588, 19589, 19629, 19630, 19631, 19632, 19633, 19636, 19637, 19638, 19639] [155, 179, 181] → y_bf G → aOK s_P X (N + 1 + d + 6) a_m264 204 [some (.ref 155), some (.int hd), some (.int cl), some (.int nI), some (.int mI), some (.int us), some (.int kI), none, none, none] [] G C S K0 := by
      intro G e bf2
      refine w_go z_hl [156] [] 30 e.1 ?_
      intro H hH
      have f : y_fr G H [] [] := y_st (y_rf e.1) hH (by repeat (first | exact w_nil | refine w_cons (Or.inl (y_m rfl)) ?_ | refine w_cons (Or.inr (by assumption)) ?_)) (by repeat (first | exact w_nil | refine w_cons (Or.inl (y_m rfl)) ?_ | refine w_cons (Or.inr (by assumption)) ?_))
      have e2 := y_sq e f rfl rfl
      exact ihm H _ (k + 1) (y_wc_fr s e2 rfl rfl rfl) (y_bf_fr bf2 f rfl rfl) ink (by omega) (fun H' f' b' => hK H' (y_sq e2 f' rfl rfl) b')
    have T173 : ∀ {G : aH}, y_fr h G [] [] → aOK s_P X (N + 1 + d + 6) a_m264 173 [some (.ref 155), some (.int hd), some (.int cl), some (.int nI), some (.int mI), some (.int us), some (.int kI), none, none, none] [] G C S K0 := by
      intro G e
      refine w_go z_hl [] [264] 40 e.1 ?_
      refine ⟨⟨by omega, by omega⟩, fun l hl len bb => ⟨⟨by omega, by omega⟩, bb _ (z_gd (0 : Int32) (show kI.toNatClampNeg < l.length by have := y_cl1 hk; omega)), fun l2 hl2 len2 bb2 => fun H hH => ?_⟩⟩
      have e2 : y_fr h H [19587, 19588, 19589, 19629, 19630, 19631, 19632, 19633, 19636, 19637, 19638, 19639] [155, 179, 181] := y_st (y_mo e rfl rfl) hH (by repeat (first | exact w_nil | refine w_cons (Or.inl (y_m rfl)) ?_ | refine w_cons (Or.inr (by assumption)) ?_)) (by repeat (first | exact w_nil | refine w_cons (Or.inl (y_m rfl)) ?_ | refine w_cons (Or.inr (by assumption)) ?_))
      have e3 : y_fr h H [] [179] := y_st (y_mo e rfl rfl) hH (by repeat (first | exact w_nil | refine w_cons (Or.inl (y_m rfl)) ?_ | refine w_cons (Or.inr (by assumption)) ?_)) (by repeat (first | exact w_nil | refine w_cons (Or.inl (y_m rfl)) ?_ | refine w_cons (Or.inr (by assumption)) ?_))
      refine aOK_deep (d := N + d + 6) (by omega) (ih H _ _ (nI + Int32.ofInt 1) mI _ _ (y_wc_fr s e3 rfl rfl rfl) (y_bf_fr bf e3 rfl rfl) h0 h5 (by omega) (by omega) m5 (fun H2 f2 b2 => ⟨fun n e => (by cases e), ?_⟩))
      exact T204 (y_sq e2 f2 rfl rfl) b2
    have f0 : y_fr h h [] [] := y_rf s.1
    refine w_go z_hl [156, 173, 204] [] 30 s.1 ?_
    refine ⟨fun q => ?_, fun _ => ⟨fun _ => ⟨by decide, ⟨fun q => absurd q (by decide), fun _ => fun H hH => T173 (y_st f0 hH (by repeat (first | exact w_nil | refine w_cons (Or.inl (y_m rfl)) ?_ | refine w_cons (Or.inr (by assumption)) ?_)) (by repeat (first | exact w_nil | refine w_cons (Or.inl (y_m rfl)) ?_ | refine w_cons (Or.inr (by assumption)) ?_)))⟩⟩, fun _ => ⟨by decide, ⟨fun _ => fun H hH => T204 (y_mo (y_st f0 hH (by repeat (first | exact w_nil | refine w_cons (Or.inl (y_m rfl)) ?_ | refine w_cons (Or.inr (by assumption)) ?_)) (by repeat (first | exact w_nil | refine w_cons (Or.inl (y_m rfl)) ?_ | refine w_cons (Or.inr (by assumption)) ?_)) : y_fr h H [] []) rfl rfl) (y_bf_fr bf (y_st f0 hH (by repeat (first | exact w_nil | refine w_cons (Or.inl (y_m rfl)) ?_ | refine w_cons (Or.inr (by assumption)) ?_)) (by repeat (first | exact w_nil | refine w_cons (Or.inl (y_m rfl)) ?_ | refine w_cons (Or.inr (by assumption)) ?_))) rfl rfl), fun q => absurd q (by decide)⟩⟩⟩⟩
    have : mI.toInt ≤ kI.toInt := (y_ci .ge _ _).mp q
    omega
theorem y_orders : ∀ (N : Nat), y_OR X C S d nd sa wl N
  | 0 => fun h hd cl nI mI us K0 s bf h0 h5 n0 nm m5 hK => aOK_deep (d := d + 6) (by omega) (y_or_leaf s bf h0 h5 (by omega) m5 (by omega) hK)
  | N + 1 => fun h hd cl nI mI us K0 s bf h0 h5 n0 nm m5 hK => by
    have ih := y_orders N
    refine w_go z_hl [156] [] 40 s.1 ?_
    refine ⟨fun _ => fun H hH => ?_, fun q => ?_⟩
    · have f : y_fr h H [] [] := y_st (y_rf s.1) hH (by repeat (first | exact w_nil | refine w_cons (Or.inl (y_m rfl)) ?_ | refine w_cons (Or.inr (by assumption)) ?_)) (by repeat (first | exact w_nil | refine w_cons (Or.inl (y_m rfl)) ?_ | refine w_cons (Or.inr (by assumption)) ?_))
      exact y_orr_loop ih h0 h5 n0 (by omega) m5 mI.toInt.toNat H _ 0 (y_wc_fr s f rfl rfl rfl) (y_bf_fr bf f rfl rfl) rfl (by omega) (fun H' f' b' => hK H' (y_sq (y_mo f rfl rfl) f' rfl rfl) b')
    · have q2 : ¬ (nI.toInt ≠ mI.toInt) := y_cif q
      omega
theorem y_order_end {hd cl mI : Int32} (m0 : 0 ≤ mI.toInt) (m5 : mI.toInt ≤ 5) : ∀ (m : Nat) (h : aH) (vI rw' : Int32) (k : Nat), w_hr z_D h → w_f h 19585 = some (.int rw') → rw'.toInt = k → vI.toInt = k → (k : Int) + m = mI.toInt → (∀ (r : Int32) (H : aH), y_fr h H [19585] [154] → K0 (some (.int r)) H C S) → aOK s_P X (d + 1) a_m263 113 [some (.ref 155), some (.int hd), some (.int cl), some (.int mI), some (.int vI)] [] h C S K0 := by
  intro m
  induction m with
  | zero =>
    intro h vI rw' k hr g hrw hk hm hK
    refine w_go z_hl [113] [] 30 hr ?_
    refine ⟨fun _ => fun H hH => hK _ H (y_st (y_mo (y_rf hr) rfl rfl) hH (by repeat (first | exact w_nil | refine w_cons (Or.inl (y_m rfl)) ?_ | refine w_cons (Or.inr (by assumption)) ?_)) (by repeat (first | exact w_nil | refine w_cons (Or.inl (y_m rfl)) ?_ | refine w_cons (Or.inr (by assumption)) ?_))), fun q => ?_⟩
    have : ¬ (mI.toInt ≤ vI.toInt) := y_cif q
    omega
  | succ m ih =>
    intro h vI rw' k hr g hrw hk hm hK
    have ink : (vI + Int32.ofInt 1).toInt = ((k + 1 : Nat) : Int) := by rw [y_inc (by omega), hk]; rfl
    have T131 : ∀ {G : aH} {r2 : Int32}, y_fr h G [19585] [154] → w_f G 19585 = some (.int r2) → r2.toInt = ((k + 1 : Nat) : Int) → aOK s_P X (d + 1) a_m263 131 [some (.ref 155), some (.int hd), some (.int cl), some (.int mI), some (.int vI)] [] G C S K0 := by
      intro G r2 e g2 h2
      refine w_go z_hl [113] [] 30 e.1 ?_
      intro H hH
      have f : y_fr G H [] [] := y_st (y_rf e.1) hH (by repeat (first | exact w_nil | refine w_cons (Or.inl (y_m rfl)) ?_ | refine w_cons (Or.inr (by assumption)) ?_)) (by repeat (first | exact w_nil | refine w_cons (Or.inl (y_m rfl)) ?_ | refine w_cons (Or.inr (by assumption)) ?_))
      exact ih H _ _ (k + 1) f.1 ((y_fe f rfl).trans g2) h2 ink (by omega) (fun r H' f' => hK r H' (y_sq (y_sq e f rfl rfl) f' rfl rfl))
    refine w_go z_hl [113] [197] 30 hr ?_
    refine ⟨fun q => ?_, fun _ => ⟨⟨by omega, by omega⟩, fun l hl len bb => fun H hH => ?_⟩⟩
    · have : mI.toInt ≤ vI.toInt := (y_ci .ge _ _).mp q
      omega
    · have f : y_fr h H [] [] := y_st (y_rf hr) hH (by repeat (first | exact w_nil | refine w_cons (Or.inl (y_m rfl)) ?_ | refine w_cons (Or.inr (by assumption)) ?_)) (by repeat (first | exact w_nil | refine w_cons (Or.inl (y_m rfl)) ?_ | refine w_cons (Or.inr (by assumption)) ?_))
      refine y_enters f.1 ((y_fe f rfl).trans g) (by omega) (by omega) (fun H2 r2 e3 g3 hr3 => ⟨fun n e => (by cases e), ?_⟩)
      exact T131 (y_sq (y_mo f rfl rfl) e3 rfl rfl) g3 (by omega)
theorem y_order_find {hd cl nd : Int32} {sa : List Int32} (n0 : 0 ≤ nd.toInt) (n10 : nd.toInt ≤ 10) : ∀ (m : Nat) (h : aH) (vI mI : Int32) (k t : Nat), w_hr z_D h → w_f h 19591 = some (.int nd) → vI.toInt = k → mI.toInt = t → t ≤ k → (k : Int) + m = nd.toInt → (∀ (H : aH) (vI mI : Int32), y_fr h H [] [180] → 0 ≤ mI.toInt → mI.toInt ≤ 10 → aOK s_P X d a_m263 70 [some (.ref 155), some (.int hd), some (.int cl), some (.int mI), some (.int vI)] [] H C S K0) → aOK s_P X d a_m263 28 [some (.ref 155), some (.int hd), some (.int cl), some (.int mI), some (.int vI)] [] h C S K0 := by
  intro m
  induction m with
  | zero =>
    intro h vI mI k t hr g hk ht tk hm hK
    refine w_go z_hl [28, 70] [] 30 hr ?_
    intro x hx _ _
    obtain rfl := y_fi g hx
    refine ⟨fun _ => fun H hH => hK H _ _ (y_st (y_mo (y_rf hr) rfl rfl) hH (by repeat (first | exact w_nil | refine w_cons (Or.inl (y_m rfl)) ?_ | refine w_cons (Or.inr (by assumption)) ?_)) (by repeat (first | exact w_nil | refine w_cons (Or.inl (y_m rfl)) ?_ | refine w_cons (Or.inr (by assumption)) ?_))) (by omega) (by omega), fun q => ?_⟩
    have : ¬ (nd.toInt ≤ vI.toInt) := y_cif q
    omega
  | succ m ih =>
    intro h vI mI k t hr g hk ht tk hm hK
    have ink : (vI + Int32.ofInt 1).toInt = ((k + 1 : Nat) : Int) := by rw [y_inc (by omega), hk]; rfl
    have int : (mI + Int32.ofInt 1).toInt = ((t + 1 : Nat) : Int) := by rw [y_inc (by omega), ht]; rfl
    have skip : ∀ {H : aH}, y_fr h H [] [] → aOK s_P X d a_m263 28 [some (.ref 155), some (.int hd), some (.int cl), some (.int mI), some (.int (vI + Int32.ofInt 1))] [] H C S K0 := fun f => ih _ _ _ (k + 1) t f.1 ((y_fe f rfl).trans g) ink ht (by omega) (by omega) (fun H' v' m' f' x0 x1 => hK H' v' m' (y_sq (y_mo f rfl rfl) f' rfl rfl) x0 x1)
    have f0 : y_fr h h [] [] := y_rf hr
    refine w_go z_hl [28, 70] [] 40 hr ?_
    intro x hx _ _
    obtain rfl := y_fi g hx
    refine ⟨fun q => ?_, fun _ => ⟨fun _ => fun H hH => skip (y_st f0 hH (by repeat (first | exact w_nil | refine w_cons (Or.inl (y_m rfl)) ?_ | refine w_cons (Or.inr (by assumption)) ?_)) (by repeat (first | exact w_nil | refine w_cons (Or.inl (y_m rfl)) ?_ | refine w_cons (Or.inr (by assumption)) ?_))), fun _ => ⟨⟨by omega, by omega⟩, fun l hl len bb => ⟨fun _ => fun H hH => skip (y_st f0 hH (by repeat (first | exact w_nil | refine w_cons (Or.inl (y_m rfl)) ?_ | refine w_cons (Or.inr (by assumption)) ?_)) (by repeat (first | exact w_nil | refine w_cons (Or.inl (y_m rfl)) ?_ | refine w_cons (Or.inr (by assumption)) ?_))), fun _ => ⟨⟨by omega, by omega⟩, ⟨by omega, by omega⟩, fun l2 hl2 len2 bb2 => fun H hH => ?_⟩⟩⟩⟩⟩
    · have : nd.toInt ≤ vI.toInt := (y_ci .ge _ _).mp q
      omega
    · have f : y_fr h H [] [180] := y_st (y_mo (y_rf hr) rfl rfl) hH (by repeat (first | exact w_nil | refine w_cons (Or.inl (y_m rfl)) ?_ | refine w_cons (Or.inr (by assumption)) ?_)) (by repeat (first | exact w_nil | refine w_cons (Or.inl (y_m rfl)) ?_ | refine w_cons (Or.inr (by assumption)) ?_))
      exact ih H _ _ (k + 1) (t + 1) f.1 ((y_fe f rfl).trans g) ink int (by omega) (by omega) (fun H' v' m' f' x0 x1 => hK H' v' m' (y_sq f f' rfl rfl) x0 x1)
theorem p_order (hr : w_hr z_D h) (hJ : y_J h) {hd cl : Int32} (hk : ∀ (r : Int32) (H : aH), y_fr h H [19584, 19585, 19587, 19588, 19589, 19629, 19630, 19631, 19632, 19633, 19636, 19637, 19638, 19639] [154, 155, 163, 179, 180, 181] → y_J H → K0 (some (.int r)) H C S) : aOK s_P X (d + 12) a_m263 0 [some (.ref 155), some (.int hd), some (.int cl), none, none] [] h C S K0 := by
  obtain ⟨nd, sm, so, sa, s1, s2, s3, s4, s5⟩ := id hJ.2.2.2.2.1
  obtain ⟨b1, b2⟩ := y_ndb hr s1
  have out : ∀ {G : aH} {r : Int32}, y_fr h G [19584] [180] → K0 (some (.int r)) G C S := fun g => hk _ _ (y_mo g rfl rfl) (y_J_fr g rfl rfl hJ)
  have T95 : ∀ {G0 G : aH} {mI vI : Int32}, y_fr h G0 [19584] [163, 180] → y_J G0 → y_fr G0 G [19587, 19588, 19589, 19629, 19630, 19631, 19632, 19633, 19636, 19637, 19638, 19639] [155, 179, 181] → 0 ≤ mI.toInt → mI.toInt ≤ 5 → aOK s_P X (d + 12) a_m263 95 [some (.ref 155), some (.int hd), some (.int cl), some (.int mI), some (.int vI)] [] G C S K0 := by
    intro G0 G mI vI e0 J0 e m0 m5
    have fin : ∀ {H : aH} {r : Int32}, y_fr G0 H [19585, 19587, 19588, 19589, 19629, 19630, 19631, 19632, 19633, 19636, 19637, 19638, 19639] [154, 155, 179, 181] → K0 (some (.int r)) H C S := fun f => hk _ _ (y_sq (y_mo e0 rfl rfl) f rfl rfl) (y_J_fr f rfl rfl J0)
    have e' : y_fr G0 G [19585, 19587, 19588, 19589, 19629, 19630, 19631, 19632, 19633, 19636, 19637, 19638, 19639] [154, 155, 179, 181] := y_mo e rfl rfl
    refine w_go z_hl [113] [] 40 e.1 ?_
    intro x hx _ _
    refine ⟨fun _ => ⟨rfl, y_zini (by decide) (by decide), fun H hH => ?_⟩, fun _ => fun H hH => fin (y_st e' hH (by repeat (first | exact w_nil | refine w_cons (Or.inl (y_m rfl)) ?_ | refine w_cons (Or.inr (by assumption)) ?_)) (by repeat (first | exact w_nil | refine w_cons (Or.inl (y_m rfl)) ?_ | refine w_cons (Or.inr (by assumption)) ?_)))⟩
    have e2 := y_st e' hH (by repeat (first | exact w_nil | refine w_cons (Or.inl (y_m rfl)) ?_ | refine w_cons (Or.inr (by assumption)) ?_)) (by repeat (first | exact w_nil | refine w_cons (Or.inl (y_m rfl)) ?_ | refine w_cons (Or.inr (by assumption)) ?_))
    exact aOK_deep (d := d + 1) (by omega) (y_order_end m0 m5 mI.toInt.toNat H _ _ 0 e2.1 (hH.2.1 19585 _ rfl) rfl rfl (by omega) (fun r H' f => fin (y_sq e2 f rfl rfl)))
  have T81 : ∀ {G0 : aH} {wl : List Int64} {mI vI : Int32}, y_fr h G0 [19584] [163, 180] → y_J G0 → y_wl G0 wl → 0 ≤ hd.toInt → hd.toInt ≤ 5 → 0 ≤ mI.toInt → mI.toInt ≤ 5 → aOK s_P X (d + 12) a_m263 81 [some (.ref 155), some (.int hd), some (.int cl), some (.int mI), some (.int vI)] [] G0 C S K0 := by
    intro G0 wl mI vI e0 J0 hw h0 h5 m0 m5
    refine w_go z_hl [] [264] 40 e0.1 ?_
    refine ⟨rfl, y_zini (by decide) (by decide), fun H hH => ?_⟩
    have f : y_fr G0 H [19636] [] := y_st (y_mo (y_rf e0.1) rfl rfl) hH (by repeat (first | exact w_nil | refine w_cons (Or.inl (y_m rfl)) ?_ | refine w_cons (Or.inr (by assumption)) ?_)) (by repeat (first | exact w_nil | refine w_cons (Or.inl (y_m rfl)) ?_ | refine w_cons (Or.inr (by assumption)) ?_))
    obtain ⟨bl, gbl⟩ : ∃ bl : Int64, w_f H 19639 = some (.long bl) := by
      obtain ⟨vs, w, z1, z2, z3, z4⟩ := w_get1 f.1 (o := 153) (ci := 12) rfl (k := 55) rfl
      have e := w_f_at z1 (k := 55) (by decide)
      rcases z4 with ⟨q, -⟩ | ⟨-, x, ex, -, -⟩
      · cases q
      · exact ⟨x, by rw [show (19639 : Nat) = 153 * 128 + 55 by decide, e, z3, ex]⟩
    have s0 : y_wc G0 nd sa wl := ⟨e0.1, (y_fe e0 rfl).trans s1, (y_ae e0 rfl).trans s4, hw⟩
    refine aOK_deep (d := mI.toInt.toNat + d + 6) (by omega) (y_orders mI.toInt.toNat H hd cl _ mI _ _ (y_wc_fr s0 f rfl rfl rfl) ⟨_, bl, hH.2.1 19636 _ rfl, gbl, fun q => absurd rfl q⟩ h0 h5 (by decide) (by rw [show (Int32.ofInt 0).toInt = 0 by decide]; omega) m5 (fun H2 f2 b2 => ⟨fun n e => (by cases e), ?_⟩))
    exact T95 e0 J0 (y_sq (y_mo f rfl rfl) f2 rfl rfl) m0 m5
  have T70 : ∀ {G : aH} {mI vI : Int32}, y_fr h G [19584] [180] → 0 ≤ hd.toInt → hd.toInt ≤ 5 → 0 ≤ mI.toInt → aOK s_P X (d + 12) a_m263 70 [some (.ref 155), some (.int hd), some (.int cl), some (.int mI), some (.int vI)] [] G C S K0 := by
    intro G mI vI e h0 h5 m0
    refine w_go z_hl [] [188] 40 e.1 ?_
    refine ⟨fun q => fun H hH => ?_, fun _ => fun H hH => out (y_st e hH (by repeat (first | exact w_nil | refine w_cons (Or.inl (y_m rfl)) ?_ | refine w_cons (Or.inr (by assumption)) ?_)) (by repeat (first | exact w_nil | refine w_cons (Or.inl (y_m rfl)) ?_ | refine w_cons (Or.inr (by assumption)) ?_)))⟩
    have q2 : mI.toInt ≤ (Int32.ofInt 5).toInt := (y_ci .le _ _).mp q
    rw [show (Int32.ofInt 5).toInt = 5 by decide] at q2
    have e2 := y_st e hH (by repeat (first | exact w_nil | refine w_cons (Or.inl (y_m rfl)) ?_ | refine w_cons (Or.inr (by assumption)) ?_)) (by repeat (first | exact w_nil | refine w_cons (Or.inl (y_m rfl)) ?_ | refine w_cons (Or.inr (by assumption)) ?_))
    refine aOK_deep (d := d + 2) (by omega) (q_weighsUp e2.1 (y_J_fr e2 rfl rfl hJ) (fun wl H2 e3 J3 hw => ⟨fun n e => (by cases e), ?_⟩))
    exact T81 (y_sq (y_mo e2 rfl rfl) e3 rfl rfl) J3 hw h0 h5 m0 q2
  have T18 : ∀ {G : aH}, y_fr h G [19584] [] → 0 ≤ hd.toInt → hd.toInt ≤ 5 → aOK s_P X (d + 12) a_m263 18 [some (.ref 155), some (.int hd), some (.int cl), none, none] [.int (y_01 true)] G C S K0 := by
    intro G e h0 h5
    refine w_go z_hl [28] [] 40 e.1 ?_
    refine ⟨fun _ => fun H hH => ?_, fun q => absurd q (by decide)⟩
    have e2 := y_st e hH (by repeat (first | exact w_nil | refine w_cons (Or.inl (y_m rfl)) ?_ | refine w_cons (Or.inr (by assumption)) ?_)) (by repeat (first | exact w_nil | refine w_cons (Or.inl (y_m rfl)) ?_ | refine w_cons (Or.inr (by assumption)) ?_))
    exact y_order_find (sa := sa) b1 b2 nd.toInt.toNat H _ _ 0 0 e2.1 ((y_fe e2 rfl).trans s1) rfl rfl (by omega) (by omega) (fun H' v' m' f' x0 x1 => T70 (y_sq (y_mo e2 rfl rfl) f' rfl rfl) h0 h5 x0)
  have T18n : ∀ {G : aH}, y_fr h G [19584] [] → aOK s_P X (d + 12) a_m263 18 [some (.ref 155), some (.int hd), some (.int cl), none, none] [.int (y_01 false)] G C S K0 := by
    intro G e
    refine w_go z_hl [] [] 30 e.1 ?_
    exact ⟨fun q => absurd q (by decide), fun _ => fun H hH => out (y_st (y_mo e rfl rfl) hH (by repeat (first | exact w_nil | refine w_cons (Or.inl (y_m rfl)) ?_ | refine w_cons (Or.inr (by assumption)) ?_)) (by repeat (first | exact w_nil | refine w_cons (Or.inl (y_m rfl)) ?_ | refine w_cons (Or.inr (by assumption)) ?_)))⟩
  have T10 : ∀ {G : aH}, y_fr h G [19584] [] → 0 ≤ hd.toInt → hd.toInt ≤ 5 → aOK s_P X (d + 12) a_m263 10 [some (.ref 155), some (.int hd), some (.int cl), none, none] [.int (y_01 true)] G C S K0 := by
    intro G e x0 x5
    refine w_go z_hl [] [178] 30 e.1 ?_
    refine ⟨fun q => absurd q (by decide), fun _ => fun H hH => ?_⟩
    have e2 := y_st e hH (by repeat (first | exact w_nil | refine w_cons (Or.inl (y_m rfl)) ?_ | refine w_cons (Or.inr (by assumption)) ?_)) (by repeat (first | exact w_nil | refine w_cons (Or.inl (y_m rfl)) ?_ | refine w_cons (Or.inr (by assumption)) ?_))
    refine q_isNode (v := cl) e2.1 ((y_fe e2 rfl).trans s1) (fun H2 v h2 hv hv2 hvc => ⟨fun n e => (by cases e), ?_⟩) (fun H2 h2 => ⟨fun n e => (by cases e), ?_⟩)
    · exact T18 (y_sq e2 h2 rfl rfl) x0 x5
    · exact T18n (y_sq e2 h2 rfl rfl)
  have T10n : ∀ {G : aH}, y_fr h G [19584] [] → aOK s_P X (d + 12) a_m263 10 [some (.ref 155), some (.int hd), some (.int cl), none, none] [.int (y_01 false)] G C S K0 := by
    intro G e
    refine w_go z_hl [] [] 30 e.1 ?_
    exact ⟨fun _ => fun H hH => out (y_st (y_mo e rfl rfl) hH (by repeat (first | exact w_nil | refine w_cons (Or.inl (y_m rfl)) ?_ | refine w_cons (Or.inr (by assumption)) ?_)) (by repeat (first | exact w_nil | refine w_cons (Or.inl (y_m rfl)) ?_ | refine w_cons (Or.inr (by assumption)) ?_))), fun q => absurd q (by decide)⟩
  refine w_go z_hl [] [257] 30 hr ?_
  refine ⟨rfl, y_zini (by decide) (by decide), fun H1 h1 => ?_⟩
  have e1 : y_fr h H1 [19584] [] := y_st (y_mo (y_rf hr) rfl rfl) h1 (by repeat (first | exact w_nil | refine w_cons (Or.inl (y_m rfl)) ?_ | refine w_cons (Or.inr (by assumption)) ?_)) (by repeat (first | exact w_nil | refine w_cons (Or.inl (y_m rfl)) ?_ | refine w_cons (Or.inr (by assumption)) ?_))
  refine y_isHead e1.1 (fun H2 h2 x0 x5 => ⟨fun n e => (by cases e), ?_⟩) (fun H2 h2 => ⟨fun n e => (by cases e), ?_⟩)
  · exact T10 (y_sq e1 h2 rfl rfl) x0 x5
  · exact T10n (y_sq e1 h2 rfl rfl)
end WG
end PT30h
section PT30i
/-! ===== v3: the reference's shifts, enough, rare, count, of ===== -/
section WG
variable {X : aX} {C S d : Nat} {K0 : Option Value → aH → Nat → Nat → Prop} {h : aH}
theorem y_dyE (hr : w_hr z_D h) : ∃ dy : Int32, w_f h 19643 = some (.int dy) ∧ 0 ≤ dy.toInt ∧ dy.toInt ≤ 30 := by
  obtain ⟨vs, w, z1, z2, z3, z4⟩ := w_get1 hr (o := 153) (ci := 12) rfl (k := 59) rfl
  have e := w_f_at z1 (k := 59) (by decide)
  rcases z4 with ⟨-, x, ex, c1, c2⟩ | ⟨q, -⟩
  · exact ⟨x, by rw [show (19643 : Nat) = 153 * 128 + 59 by decide, e, z3, ex], c1, c2⟩
  · cases q
theorem y_deaths_loop {a b dy : Int32} (d0 : 0 ≤ dy.toInt) (d30 : dy.toInt ≤ 30) : ∀ (m : Nat) (h : aH) (nI kI : Int32) (n k : Nat), w_hr z_D h → w_f h 19643 = some (.int dy) → nI.toInt = n → kI.toInt = k → n ≤ k → (k : Int) + m = dy.toInt → (∀ (r : Int32) (H : aH), y_fr h H [] [] → 0 ≤ r.toInt → r.toInt ≤ dy.toInt → K0 (some (.int r)) H C S) → aOK s_P X (d + 1) a_m275 5 [some (.ref 155), some (.int a), some (.int b), some (.int nI), some (.int kI)] [] h C S K0 := by
  intro m
  induction m with
  | zero =>
    intro h nI kI n k hr g hn hk nk hm hK
    refine w_go z_hl [5] [] 30 hr ?_
    intro x hx _ _
    obtain rfl := y_fi g hx
    refine ⟨fun _ => fun H hH => hK _ H (y_st (y_rf hr) hH (by repeat (first | exact w_nil | refine w_cons (Or.inl (y_m rfl)) ?_ | refine w_cons (Or.inr (by assumption)) ?_)) (by repeat (first | exact w_nil | refine w_cons (Or.inl (y_m rfl)) ?_ | refine w_cons (Or.inr (by assumption)) ?_))) (by omega) (by omega), fun q => ?_⟩
    have : ¬ (dy.toInt ≤ kI.toInt) := y_cif q
    omega
  | succ m ih =>
    intro h nI kI n k hr g hn hk nk hm hK
    have ink : (kI + Int32.ofInt 1).toInt = ((k + 1 : Nat) : Int) := by rw [y_inc (by omega), hk]; rfl
    have T58 : ∀ {G : aH} {c : Bool}, y_fr h G [] [] → aOK s_P X (d + 1) a_m275 58 [some (.ref 155), some (.int a), some (.int b), some (.int nI), some (.int kI)] [.int (y_01 c), .int nI] G C S K0 := by
      intro G c e
      have z1 : (nI + Int32.ofInt 1).toInt = ((n + 1 : Nat) : Int) := by rw [y_inc (by omega), hn]; rfl
      have z0 : (nI + Int32.ofInt 0).toInt = (n : Int) := by rw [show Int32.ofInt 0 = (0 : Int32) by decide, Int32.add_zero]; exact hn
      refine w_go z_hl [5] [] 30 e.1 ?_
      refine ⟨fun _ => fun H hH => ?_, fun _ => fun H hH => ?_⟩
      · have f := y_st e hH (by repeat (first | exact w_nil | refine w_cons (Or.inl (y_m rfl)) ?_ | refine w_cons (Or.inr (by assumption)) ?_)) (by repeat (first | exact w_nil | refine w_cons (Or.inl (y_m rfl)) ?_ | refine w_cons (Or.inr (by assumption)) ?_))
        exact ih H _ _ n (k + 1) f.1 ((y_fe f rfl).trans g) z0 ink (by omega) (by omega) (fun r H' f' r0 r1 => hK r H' (y_sq f f' rfl rfl) r0 r1)
      · have f := y_st e hH (by repeat (first | exact w_nil | refine w_cons (Or.inl (y_m rfl)) ?_ | refine w_cons (Or.inr (by assumption)) ?_)) (by repeat (first | exact w_nil | refine w_cons (Or.inl (y_m rfl)) ?_ | refine w_cons (Or.inr (by assumption)) ?_))
        exact ih H _ _ (n + 1) (k + 1) f.1 ((y_fe f rfl).trans g) z1 ink (by omega) (by omega) (fun r H' f' r0 r1 => hK r H' (y_sq f f' rfl rfl) r0 r1)
    have f0 : y_fr h h [] [] := y_rf hr
    have T39 : ∀ {G : aH}, y_fr h G [] [] → aOK s_P X (d + 1) a_m275 39 [some (.ref 155), some (.int a), some (.int b), some (.int nI), some (.int kI)] [.int nI] G C S K0 := by
      intro G e
      refine w_go z_hl [58] [] 30 e.1 ?_
      exact ⟨fun _ => fun H hH => T58 (c := true) (y_st e hH (by repeat (first | exact w_nil | refine w_cons (Or.inl (y_m rfl)) ?_ | refine w_cons (Or.inr (by assumption)) ?_)) (by repeat (first | exact w_nil | refine w_cons (Or.inl (y_m rfl)) ?_ | refine w_cons (Or.inr (by assumption)) ?_))), fun _ => ⟨⟨by omega, by omega⟩, fun l hl len bb => ⟨fun _ => fun H hH => T58 (c := false) (y_st e hH (by repeat (first | exact w_nil | refine w_cons (Or.inl (y_m rfl)) ?_ | refine w_cons (Or.inr (by assumption)) ?_)) (by repeat (first | exact w_nil | refine w_cons (Or.inl (y_m rfl)) ?_ | refine w_cons (Or.inr (by assumption)) ?_))), fun _ => fun H hH => T58 (c := true) (y_st e hH (by repeat (first | exact w_nil | refine w_cons (Or.inl (y_m rfl)) ?_ | refine w_cons (Or.inr (by assumption)) ?_)) (by repeat (first | exact w_nil | refine w_cons (Or.inl (y_m rfl)) ?_ | refine w_cons (Or.inr (by assumption)) ?_)))⟩⟩⟩
    refine w_go z_hl [5, 39, 58] [] 40 hr ?_
    intro x hx _ _
    obtain rfl := y_fi g hx
    refine ⟨fun q => ?_, fun _ => ⟨⟨by omega, by omega⟩, fun l hl len bb => ⟨fun _ => fun H hH => T58 (c := false) (y_st f0 hH (by repeat (first | exact w_nil | refine w_cons (Or.inl (y_m rfl)) ?_ | refine w_cons (Or.inr (by assumption)) ?_)) (by repeat (first | exact w_nil | refine w_cons (Or.inl (y_m rfl)) ?_ | refine w_cons (Or.inr (by assumption)) ?_))), fun _ => ⟨fun _ => fun H hH => T39 (y_st f0 hH (by repeat (first | exact w_nil | refine w_cons (Or.inl (y_m rfl)) ?_ | refine w_cons (Or.inr (by assumption)) ?_)) (by repeat (first | exact w_nil | refine w_cons (Or.inl (y_m rfl)) ?_ | refine w_cons (Or.inr (by assumption)) ?_))), fun _ => ⟨⟨by omega, by omega⟩, fun l2 hl2 len2 bb2 => ⟨fun _ => fun H hH => T58 (c := false) (y_st f0 hH (by repeat (first | exact w_nil | refine w_cons (Or.inl (y_m rfl)) ?_ | refine w_cons (Or.inr (by assumption)) ?_)) (by repeat (first | exact w_nil | refine w_cons (Or.inl (y_m rfl)) ?_ | refine w_cons (Or.inr (by assumption)) ?_))), fun _ => fun H hH => T39 (y_st f0 hH (by repeat (first | exact w_nil | refine w_cons (Or.inl (y_m rfl)) ?_ | refine w_cons (Or.inr (by assumption)) ?_)) (by repeat (first | exact w_nil | refine w_cons (Or.inl (y_m rfl)) ?_ | refine w_cons (Or.inr (by assumption)) ?_)))⟩⟩⟩⟩⟩⟩
    have : dy.toInt ≤ kI.toInt := (y_ci .ge _ _).mp q
    omega
theorem y_deaths (hr : w_hr z_D h) {a b dy : Int32} (g : w_f h 19643 = some (.int dy)) (d0 : 0 ≤ dy.toInt) (d30 : dy.toInt ≤ 30) (hK : ∀ (r : Int32) (H : aH), y_fr h H [] [] → 0 ≤ r.toInt → r.toInt ≤ dy.toInt → K0 (some (.int r)) H C S) : aOK s_P X (d + 1) a_m275 0 [some (.ref 155), some (.int a), some (.int b), none, none] [] h C S K0 := by
  refine w_go z_hl [5] [] 30 hr ?_
  intro H hH
  have e : y_fr h H [] [] := y_st (y_rf hr) hH (by repeat (first | exact w_nil | refine w_cons (Or.inl (y_m rfl)) ?_ | refine w_cons (Or.inr (by assumption)) ?_)) (by repeat (first | exact w_nil | refine w_cons (Or.inl (y_m rfl)) ?_ | refine w_cons (Or.inr (by assumption)) ?_))
  exact y_deaths_loop d0 d30 dy.toInt.toNat H _ _ 0 0 e.1 ((y_fe e rfl).trans g) rfl rfl (by omega) (by omega) (fun r H' f' r0 r1 => hK r H' (y_sq e f' rfl rfl) r0 r1)
theorem p_shifts (hr : w_hr z_D h) {a : Int32} (hk : ∀ (r : Int32) (H : aH), y_fr h H [19584, 19585, 19587, 19588] [154] → K0 (some (.int r)) H C S) : aOK s_P X (d + 3) a_m274 0 [some (.ref 155), some (.int a), none] [] h C S K0 := by
  obtain ⟨dy, gd, d0, d30⟩ := y_dyE hr
  have T75 : ∀ {G : aH} {on : Int32}, y_fr h G [19584, 19585, 19587, 19588] [154] → aOK s_P X (d + 3) a_m274 75 [some (.ref 155), some (.int a), some (.int on)] [] G C S K0 := by
    intro G on e
    refine w_go z_hl [] [] 30 e.1 ?_
    exact fun H hH => hk _ H (y_st e hH (by repeat (first | exact w_nil | refine w_cons (Or.inl (y_m rfl)) ?_ | refine w_cons (Or.inr (by assumption)) ?_)) (by repeat (first | exact w_nil | refine w_cons (Or.inl (y_m rfl)) ?_ | refine w_cons (Or.inr (by assumption)) ?_)))
  have T69 : ∀ {G : aH} {on r1 : Int32}, y_fr h G [19584, 19585, 19587, 19588] [154] → w_f G 19585 = some (.int r1) → r1.toInt = 2 → aOK s_P X (d + 3) a_m274 69 [some (.ref 155), some (.int a), some (.int on)] [] G C S K0 := by
    intro G on r1 e g hr1
    refine w_go z_hl [] [197] 30 e.1 ?_
    intro H hH
    have f : y_fr G H [] [] := y_st (y_rf e.1) hH (by repeat (first | exact w_nil | refine w_cons (Or.inl (y_m rfl)) ?_ | refine w_cons (Or.inr (by assumption)) ?_)) (by repeat (first | exact w_nil | refine w_cons (Or.inl (y_m rfl)) ?_ | refine w_cons (Or.inr (by assumption)) ?_))
    refine y_enters f.1 ((y_fe f rfl).trans g) (by omega) (by omega) (fun H2 r2 e3 _ _ => ⟨fun n e => (by cases e), ?_⟩)
    exact T75 (y_sq (y_sq e f rfl rfl) e3 rfl rfl)
  have T60 : ∀ {G : aH} {on : Int32}, y_fr h G [19584, 19585, 19587, 19588] [154] → aOK s_P X (d + 3) a_m274 60 [some (.ref 155), some (.int a), some (.int on)] [] G C S K0 := by
    intro G on e
    refine w_go z_hl [] [196] 30 e.1 ?_
    refine ⟨rfl, y_zini (by decide) (by decide), fun H hH => ?_⟩
    have e2 := y_st e hH (by repeat (first | exact w_nil | refine w_cons (Or.inl (y_m rfl)) ?_ | refine w_cons (Or.inr (by assumption)) ?_)) (by repeat (first | exact w_nil | refine w_cons (Or.inl (y_m rfl)) ?_ | refine w_cons (Or.inr (by assumption)) ?_))
    refine y_tells e2.1 (hH.2.1 19585 _ rfl) (by decide) (by decide) (fun H2 r2 e3 g3 hr3 => ⟨fun n e => (by cases e), ?_⟩)
    exact T69 (y_sq e2 e3 rfl rfl) g3 (by rw [hr3]; decide)
  have T56 : ∀ {G : aH} {on de : Int32}, y_fr h G [19584, 19585, 19587, 19588] [154] → 0 ≤ on.toInt → on.toInt ≤ 30 → 0 ≤ de.toInt → de.toInt ≤ dy.toInt → aOK s_P X (d + 3) a_m274 56 [some (.ref 155), some (.int a), some (.int on)] [.int de, .ref 155] G C S K0 := by
    intro G on de e o0 o1 e0 e1
    refine w_go z_hl [] [276] 30 e.1 ?_
    intro H hH
    have e2 := y_st e hH (by repeat (first | exact w_nil | refine w_cons (Or.inl (y_m rfl)) ?_ | refine w_cons (Or.inr (by assumption)) ?_)) (by repeat (first | exact w_nil | refine w_cons (Or.inl (y_m rfl)) ?_ | refine w_cons (Or.inr (by assumption)) ?_))
    refine y_byLot e2.1 ((y_fe e2 rfl).trans gd) d0 d30 e0 e1 o0 (by omega) (fun H2 f2 => ⟨fun n e => (by cases e), ?_⟩)
    exact T60 (y_sq e2 f2 rfl rfl)
  have T52 : ∀ {G : aH} {on : Int32} {b : Bool}, y_fr h G [19584, 19585, 19587, 19588] [154] → 0 ≤ on.toInt → on.toInt ≤ 30 → aOK s_P X (d + 3) a_m274 52 [some (.ref 155), some (.int a), some (.int on)] [.int (y_01 b), .ref 155, .ref 155] G C S K0 := by
    intro G on b e o0 o1
    refine w_go z_hl [] [275] 30 e.1 ?_
    intro H hH
    have e2 := y_st e hH (by repeat (first | exact w_nil | refine w_cons (Or.inl (y_m rfl)) ?_ | refine w_cons (Or.inr (by assumption)) ?_)) (by repeat (first | exact w_nil | refine w_cons (Or.inl (y_m rfl)) ?_ | refine w_cons (Or.inr (by assumption)) ?_))
    refine aOK_deep (d := d + 1) (by omega) (y_deaths e2.1 ((y_fe e2 rfl).trans gd) d0 d30 (fun r H2 f2 r0 r1 => ⟨fun n e => (by cases e), ?_⟩))
    exact T56 (y_sq e2 f2 rfl rfl) o0 o1 r0 r1
  have T39 : ∀ {G : aH} {on : Int32}, y_fr h G [19584, 19585, 19587, 19588] [154] → 0 ≤ on.toInt → on.toInt ≤ 30 → aOK s_P X (d + 3) a_m274 39 [some (.ref 155), some (.int a), none] [.int on] G C S K0 := by
    intro G on e o0 o1
    refine w_go z_hl [52] [] 30 e.1 ?_
    exact ⟨fun _ => fun H hH => T52 (b := false) (y_st e hH (by repeat (first | exact w_nil | refine w_cons (Or.inl (y_m rfl)) ?_ | refine w_cons (Or.inr (by assumption)) ?_)) (by repeat (first | exact w_nil | refine w_cons (Or.inl (y_m rfl)) ?_ | refine w_cons (Or.inr (by assumption)) ?_))) o0 o1, fun _ => fun H hH => T52 (b := true) (y_st e hH (by repeat (first | exact w_nil | refine w_cons (Or.inl (y_m rfl)) ?_ | refine w_cons (Or.inr (by assumption)) ?_)) (by repeat (first | exact w_nil | refine w_cons (Or.inl (y_m rfl)) ?_ | refine w_cons (Or.inr (by assumption)) ?_))) o0 o1⟩
  have T35 : ∀ {G : aH} {b : Bool}, y_fr h G [19584, 19585, 19587, 19588] [154] → aOK s_P X (d + 3) a_m274 35 [some (.ref 155), some (.int a), none] [.int (y_01 b), .ref 155] G C S K0 := by
    intro G b e
    refine w_go z_hl [] [275] 30 e.1 ?_
    intro H hH
    have e2 := y_st e hH (by repeat (first | exact w_nil | refine w_cons (Or.inl (y_m rfl)) ?_ | refine w_cons (Or.inr (by assumption)) ?_)) (by repeat (first | exact w_nil | refine w_cons (Or.inl (y_m rfl)) ?_ | refine w_cons (Or.inr (by assumption)) ?_))
    refine aOK_deep (d := d + 1) (by omega) (y_deaths e2.1 ((y_fe e2 rfl).trans gd) d0 d30 (fun r H2 f2 r0 r1 => ⟨fun n e => (by cases e), ?_⟩))
    exact T39 (y_sq e2 f2 rfl rfl) r0 (by omega)
  have T19 : ∀ {G : aH} {b : Bool}, y_fr h G [19584, 19585, 19587, 19588] [154] → aOK s_P X (d + 3) a_m274 19 [some (.ref 155), some (.int a), none] [.int (y_01 b)] G C S K0 := by
    intro G b e
    refine w_go z_hl [35] [] 30 e.1 ?_
    exact ⟨fun _ => ⟨fun _ => fun H hH => T35 (b := false) (y_st e hH (by repeat (first | exact w_nil | refine w_cons (Or.inl (y_m rfl)) ?_ | refine w_cons (Or.inr (by assumption)) ?_)) (by repeat (first | exact w_nil | refine w_cons (Or.inl (y_m rfl)) ?_ | refine w_cons (Or.inr (by assumption)) ?_))), fun _ => fun H hH => T35 (b := true) (y_st e hH (by repeat (first | exact w_nil | refine w_cons (Or.inl (y_m rfl)) ?_ | refine w_cons (Or.inr (by assumption)) ?_)) (by repeat (first | exact w_nil | refine w_cons (Or.inl (y_m rfl)) ?_ | refine w_cons (Or.inr (by assumption)) ?_)))⟩, fun _ => fun H hH => hk _ H (y_st e hH (by repeat (first | exact w_nil | refine w_cons (Or.inl (y_m rfl)) ?_ | refine w_cons (Or.inr (by assumption)) ?_)) (by repeat (first | exact w_nil | refine w_cons (Or.inl (y_m rfl)) ?_ | refine w_cons (Or.inr (by assumption)) ?_)))⟩
  have e0 : y_fr h h [19584, 19585, 19587, 19588] [154] := y_mo (y_rf hr) rfl rfl
  refine w_go z_hl [] [176] 30 hr ?_
  refine ⟨rfl, y_zini (by decide) (by decide), ?_⟩
  intro x hx _ _
  refine ⟨fun _ => fun H hH => hk _ H (y_st e0 hH (by repeat (first | exact w_nil | refine w_cons (Or.inl (y_m rfl)) ?_ | refine w_cons (Or.inr (by assumption)) ?_)) (by repeat (first | exact w_nil | refine w_cons (Or.inl (y_m rfl)) ?_ | refine w_cons (Or.inr (by assumption)) ?_))), fun _ => fun H hH => ?_⟩
  have e := y_st e0 hH (by repeat (first | exact w_nil | refine w_cons (Or.inl (y_m rfl)) ?_ | refine w_cons (Or.inr (by assumption)) ?_)) (by repeat (first | exact w_nil | refine w_cons (Or.inl (y_m rfl)) ?_ | refine w_cons (Or.inr (by assumption)) ?_))
  refine q_in e.1 (fun H3 h3 _ _ => ⟨fun n e => (by cases e), ?_⟩) (fun H3 h3 _ => ⟨fun n e => (by cases e), ?_⟩)
  · exact T19 (y_sq e h3 rfl rfl)
  · exact T19 (y_sq e h3 rfl rfl)
theorem y_s32 {a b : Int32} (h1 : -2147483648 ≤ a.toInt - b.toInt) (h2 : a.toInt - b.toInt ≤ 2147483647) : (a - b).toInt = a.toInt - b.toInt := by
  rw [Int32.toInt_sub]
  exact Int.bmod_eq_of_le (by omega) (by omega)
theorem y_a32 {a b : Int32} (h1 : -2147483648 ≤ a.toInt + b.toInt) (h2 : a.toInt + b.toInt ≤ 2147483647) : (a + b).toInt = a.toInt + b.toInt := by
  rw [Int32.toInt_add]
  exact Int.bmod_eq_of_le (by omega) (by omega)
theorem y_enough_loop {a dy lo ln ot oo : Int32} (d0 : 0 ≤ dy.toInt) (d30 : dy.toInt ≤ 30) (l0 : 0 ≤ lo.toInt) (lt : lo.toInt + ot.toInt ≤ dy.toInt) (n0 : 0 ≤ ln.toInt) (n30 : ln.toInt ≤ 30) (oo30 : oo.toInt ≤ 30) (oom : -30 ≤ oo.toInt) (otm : -30 ≤ ot.toInt) : ∀ (m : Nat) (h : aH) (nI : Int32), w_hr z_D h → w_f h 19643 = some (.int dy) → 0 ≤ nI.toInt → nI.toInt ≤ 31 → ot.toInt + 1 ≤ nI.toInt + m → (∀ (r : Int32) (H : aH), y_fr h H [19587, 19588] [] → K0 (some (.int r)) H C S) → aOK s_P X (d + 3) a_m278 63 [some (.ref 155), some (.int a), some (.int lo), some (.int ln), some (.int ot), some (.int oo), some (.int nI)] [] h C S K0 := by
  intro m
  induction m with
  | zero =>
    intro h nI hr g k0 k31 hm hK
    refine w_go z_hl [63] [] 30 hr ?_
    refine ⟨fun _ => fun H hH => hK _ H (y_st (y_mo (y_rf hr) rfl rfl) hH (by repeat (first | exact w_nil | refine w_cons (Or.inl (y_m rfl)) ?_ | refine w_cons (Or.inr (by assumption)) ?_)) (by repeat (first | exact w_nil | refine w_cons (Or.inl (y_m rfl)) ?_ | refine w_cons (Or.inr (by assumption)) ?_))), fun q => ?_⟩
    have : ¬ (ot.toInt < nI.toInt) := y_cif q
    omega
  | succ m ih =>
    intro h nI hr g k0 k31 hm hK
    have ink : (nI + Int32.ofInt 1).toInt = nI.toInt + 1 := y_inc (by omega)
    have s1 : (ot - oo).toInt = ot.toInt - oo.toInt := y_s32 (by omega) (by omega)
    have s2 : (nI - (ot - oo)).toInt = nI.toInt - (ot.toInt - oo.toInt) := by rw [y_s32 (by omega) (by omega), s1]
    have s3 : (lo + nI).toInt = lo.toInt + nI.toInt := y_a32 (by omega) (by omega)
    have T92 : ∀ {G : aH}, y_fr h G [19587, 19588] [] → nI.toInt ≤ ot.toInt → aOK s_P X (d + 3) a_m278 92 [some (.ref 155), some (.int a), some (.int lo), some (.int ln), some (.int ot), some (.int oo), some (.int nI)] [] G C S K0 := by
      intro G e hle
      refine w_go z_hl [63] [] 30 e.1 ?_
      intro x hx _ _
      intro y hy _ _
      refine ⟨fun _ => fun H hH => ?_, fun _ => fun H hH => hK _ H (y_st e hH (by repeat (first | exact w_nil | refine w_cons (Or.inl (y_m rfl)) ?_ | refine w_cons (Or.inr (by assumption)) ?_)) (by repeat (first | exact w_nil | refine w_cons (Or.inl (y_m rfl)) ?_ | refine w_cons (Or.inr (by assumption)) ?_)))⟩
      have e2 := y_st e hH (by repeat (first | exact w_nil | refine w_cons (Or.inl (y_m rfl)) ?_ | refine w_cons (Or.inr (by assumption)) ?_)) (by repeat (first | exact w_nil | refine w_cons (Or.inl (y_m rfl)) ?_ | refine w_cons (Or.inr (by assumption)) ?_))
      exact ih H _ e2.1 ((y_fe e2 rfl).trans g) (by show 0 ≤ (nI + Int32.ofInt 1).toInt; omega) (by show (nI + Int32.ofInt 1).toInt ≤ 31; omega) (by show _ ≤ (nI + Int32.ofInt 1).toInt + _; omega) (fun r H' f => hK r H' (y_sq e2 f rfl rfl))
    have BL : ∀ {H : aH} {x : Int32}, y_fr h H [] [] → nI.toInt ≤ ot.toInt → 0 ≤ x.toInt → x.toInt ≤ 30 → aOK s_P X (d + 2) a_m276 0 [some (.ref 155), some (.int (lo + nI)), some (.int (ln + x)), none, none, none, none] [] H C S (w_KF s_P X K0 (d + 2) [(a_m278, 92, [some (.ref 155), some (.int a), some (.int lo), some (.int ln), some (.int ot), some (.int oo), some (.int nI)], [])]) := by
      intro H x e hle x0 x1
      have s4 : (ln + x).toInt = ln.toInt + x.toInt := y_a32 (by omega) (by omega)
      refine y_byLot e.1 ((y_fe e rfl).trans g) d0 d30 (by omega) (by omega) (by omega) (by omega) (fun H2 f2 => ⟨fun n e => (by cases e), ?_⟩)
      exact T92 (y_sq (y_mo e rfl rfl) f2 rfl rfl) hle
    have f0 : y_fr h h [] [] := y_rf hr
    refine w_go z_hl [63] [276] 40 hr ?_
    refine ⟨fun _ => fun H hH => hK _ H (y_st (y_mo (y_rf hr) rfl rfl) hH (by repeat (first | exact w_nil | refine w_cons (Or.inl (y_m rfl)) ?_ | refine w_cons (Or.inr (by assumption)) ?_)) (by repeat (first | exact w_nil | refine w_cons (Or.inl (y_m rfl)) ?_ | refine w_cons (Or.inr (by assumption)) ?_))), fun q => ?_⟩
    have hle : ¬ (ot.toInt < nI.toInt) := y_cif q
    refine ⟨fun q2 => fun H hH => ?_, fun q2 => fun H hH => BL (x := Int32.ofInt 0) (y_st f0 hH (by repeat (first | exact w_nil | refine w_cons (Or.inl (y_m rfl)) ?_ | refine w_cons (Or.inr (by assumption)) ?_)) (by repeat (first | exact w_nil | refine w_cons (Or.inl (y_m rfl)) ?_ | refine w_cons (Or.inr (by assumption)) ?_))) (by omega) (by decide) (by decide)⟩
    have q3 : (Int32.ofInt 0).toInt < (nI - (ot - oo)).toInt := (y_ci .lt _ _).mp q2
    rw [show (Int32.ofInt 0).toInt = 0 by decide] at q3
    exact BL (x := nI - (ot - oo)) (y_st f0 hH (by repeat (first | exact w_nil | refine w_cons (Or.inl (y_m rfl)) ?_ | refine w_cons (Or.inr (by assumption)) ?_)) (by repeat (first | exact w_nil | refine w_cons (Or.inl (y_m rfl)) ?_ | refine w_cons (Or.inr (by assumption)) ?_))) (by omega) (by omega) (by omega)
theorem p_enough (hr : w_hr z_D h) {a : Int32} (hk : ∀ (r : Int32) (H : aH), y_fr h H [19584, 19587, 19588] [] → K0 (some (.int r)) H C S) : aOK s_P X (d + 3) a_m278 0 [some (.ref 155), some (.int a), none, none, none, none, none] [] h C S K0 := by
  obtain ⟨dy, gd, d0, d30⟩ := y_dyE hr
  have T56 : ∀ {G : aH} {lo ln ot x : Int32}, y_fr h G [19584, 19587, 19588] [] → 0 ≤ lo.toInt → lo.toInt + ot.toInt ≤ dy.toInt → -30 ≤ ot.toInt → 0 ≤ ln.toInt → ln.toInt ≤ 30 → 0 ≤ x.toInt → x.toInt ≤ 30 → aOK s_P X (d + 3) a_m278 56 [some (.ref 155), some (.int a), some (.int lo), some (.int ln), some (.int ot), none, none] [.int x] G C S K0 := by
    intro G lo ln ot x e l0 lt om n0 n30 x0 x30
    have s1 : (x - ln).toInt = x.toInt - ln.toInt := y_s32 (by omega) (by omega)
    refine w_go z_hl [63] [] 30 e.1 ?_
    intro H hH
    have e2 := y_st e hH (by repeat (first | exact w_nil | refine w_cons (Or.inl (y_m rfl)) ?_ | refine w_cons (Or.inr (by assumption)) ?_)) (by repeat (first | exact w_nil | refine w_cons (Or.inl (y_m rfl)) ?_ | refine w_cons (Or.inr (by assumption)) ?_))
    exact y_enough_loop d0 d30 l0 lt n0 n30 (by show (x - ln).toInt ≤ 30; omega) (by show -30 ≤ (x - ln).toInt; omega) om 40 H _ e2.1 ((y_fe e2 rfl).trans gd) (by decide) (by decide) (by rw [show (Int32.ofInt 0).toInt = 0 by decide]; omega) (fun r H' f => hk r H' (y_sq e2 f rfl rfl))
  have T46 : ∀ {G : aH} {lo ln x : Int32}, y_fr h G [19584, 19587, 19588] [] → 0 ≤ lo.toInt → lo.toInt ≤ 30 → 0 ≤ ln.toInt → ln.toInt ≤ 30 → 0 ≤ x.toInt → x.toInt ≤ dy.toInt → aOK s_P X (d + 3) a_m278 46 [some (.ref 155), some (.int a), some (.int lo), some (.int ln), none, none, none] [.int x] G C S K0 := by
    intro G lo ln x e l0 l30 n0 n30 x0 x30
    have s1 : (x - lo).toInt = x.toInt - lo.toInt := y_s32 (by omega) (by omega)
    refine w_go z_hl [] [275] 30 e.1 ?_
    intro H hH
    have e2 := y_st e hH (by repeat (first | exact w_nil | refine w_cons (Or.inl (y_m rfl)) ?_ | refine w_cons (Or.inr (by assumption)) ?_)) (by repeat (first | exact w_nil | refine w_cons (Or.inl (y_m rfl)) ?_ | refine w_cons (Or.inr (by assumption)) ?_))
    refine aOK_deep (d := d + 1) (by omega) (y_deaths e2.1 ((y_fe e2 rfl).trans gd) d0 d30 (fun r H2 f2 r0 r1 => ⟨fun n e => (by cases e), ?_⟩))
    exact T56 (ot := x - lo) (y_sq e2 f2 rfl rfl) l0 (by omega) (by omega) n0 n30 r0 (by omega)
  have T39 : ∀ {G : aH} {lo ln : Int32}, y_fr h G [19584, 19587, 19588] [] → 0 ≤ lo.toInt → lo.toInt ≤ 30 → 0 ≤ ln.toInt → ln.toInt ≤ 30 → aOK s_P X (d + 3) a_m278 39 [some (.ref 155), some (.int a), some (.int lo), none, none, none, none] [.int ln] G C S K0 := by
    intro G lo ln e l0 l30 n0 n30
    refine w_go z_hl [] [275] 30 e.1 ?_
    intro H hH
    have e2 := y_st e hH (by repeat (first | exact w_nil | refine w_cons (Or.inl (y_m rfl)) ?_ | refine w_cons (Or.inr (by assumption)) ?_)) (by repeat (first | exact w_nil | refine w_cons (Or.inl (y_m rfl)) ?_ | refine w_cons (Or.inr (by assumption)) ?_))
    refine aOK_deep (d := d + 1) (by omega) (y_deaths e2.1 ((y_fe e2 rfl).trans gd) d0 d30 (fun r H2 f2 r0 r1 => ⟨fun n e => (by cases e), ?_⟩))
    exact T46 (y_sq e2 f2 rfl rfl) l0 l30 n0 n30 r0 r1
  have T32 : ∀ {G : aH} {lo : Int32}, y_fr h G [19584, 19587, 19588] [] → 0 ≤ lo.toInt → lo.toInt ≤ 30 → aOK s_P X (d + 3) a_m278 32 [some (.ref 155), some (.int a), none, none, none, none, none] [.int lo] G C S K0 := by
    intro G lo e l0 l30
    refine w_go z_hl [] [275] 30 e.1 ?_
    intro H hH
    have e2 := y_st e hH (by repeat (first | exact w_nil | refine w_cons (Or.inl (y_m rfl)) ?_ | refine w_cons (Or.inr (by assumption)) ?_)) (by repeat (first | exact w_nil | refine w_cons (Or.inl (y_m rfl)) ?_ | refine w_cons (Or.inr (by assumption)) ?_))
    refine aOK_deep (d := d + 1) (by omega) (y_deaths e2.1 ((y_fe e2 rfl).trans gd) d0 d30 (fun r H2 f2 r0 r1 => ⟨fun n e => (by cases e), ?_⟩))
    exact T39 (y_sq e2 f2 rfl rfl) l0 l30 r0 (by omega)
  have T21 : ∀ {G : aH} {b : Bool}, y_fr h G [19584, 19587, 19588] [] → aOK s_P X (d + 3) a_m278 21 [some (.ref 155), some (.int a), none, none, none, none, none] [.int (y_01 b)] G C S K0 := by
    intro G b e
    refine w_go z_hl [] [275] 30 e.1 ?_
    refine ⟨fun _ => fun H hH => ?_, fun _ => fun H hH => hk _ H (y_st e hH (by repeat (first | exact w_nil | refine w_cons (Or.inl (y_m rfl)) ?_ | refine w_cons (Or.inr (by assumption)) ?_)) (by repeat (first | exact w_nil | refine w_cons (Or.inl (y_m rfl)) ?_ | refine w_cons (Or.inr (by assumption)) ?_)))⟩
    have e2 := y_st e hH (by repeat (first | exact w_nil | refine w_cons (Or.inl (y_m rfl)) ?_ | refine w_cons (Or.inr (by assumption)) ?_)) (by repeat (first | exact w_nil | refine w_cons (Or.inl (y_m rfl)) ?_ | refine w_cons (Or.inr (by assumption)) ?_))
    refine aOK_deep (d := d + 1) (by omega) (y_deaths e2.1 ((y_fe e2 rfl).trans gd) d0 d30 (fun r H2 f2 r0 r1 => ⟨fun n e => (by cases e), ?_⟩))
    exact T32 (y_sq e2 f2 rfl rfl) r0 (by omega)
  have e0 : y_fr h h [19584, 19587, 19588] [] := y_mo (y_rf hr) rfl rfl
  refine w_go z_hl [] [176] 30 hr ?_
  refine ⟨rfl, y_zini (by decide) (by decide), ?_⟩
  intro x hx _ _
  refine ⟨fun _ => fun H hH => hk _ H (y_st e0 hH (by repeat (first | exact w_nil | refine w_cons (Or.inl (y_m rfl)) ?_ | refine w_cons (Or.inr (by assumption)) ?_)) (by repeat (first | exact w_nil | refine w_cons (Or.inl (y_m rfl)) ?_ | refine w_cons (Or.inr (by assumption)) ?_))), fun _ => fun H hH => ?_⟩
  have e := y_st e0 hH (by repeat (first | exact w_nil | refine w_cons (Or.inl (y_m rfl)) ?_ | refine w_cons (Or.inr (by assumption)) ?_)) (by repeat (first | exact w_nil | refine w_cons (Or.inl (y_m rfl)) ?_ | refine w_cons (Or.inr (by assumption)) ?_))
  refine q_in e.1 (fun H3 h3 _ _ => ⟨fun n e => (by cases e), ?_⟩) (fun H3 h3 _ => ⟨fun n e => (by cases e), ?_⟩)
  · exact T21 (y_sq e h3 rfl rfl)
  · exact T21 (y_sq e h3 rfl rfl)
theorem y_rare_loop {mk wh ln : Int32} {mm : Nat} (hmk : mk.toInt = mm) (m6 : mm < 6) (l0 : 0 ≤ ln.toInt) (l8 : ln.toInt ≤ 8) : ∀ (m : Nat) (h : aH) (best kI : Int32) (k : Nat) (o5 o7 o9 : Option Value), w_hr z_D h → w_f h 19640 = some (.int ln) → kI.toInt = k → (k : Int) + m = ln.toInt → best.toInt < ln.toInt → (∀ (r : Int32) (H : aH), y_fr h H [] [] → K0 (some (.int r)) H C S) → aOK s_P X d a_m272 35 [some (.ref 155), some (.int mk), some (.int wh), some (.int best), some (.int kI), o5, none, o7, none, o9, none] [] h C S K0 := by
  intro m
  induction m with
  | zero =>
    intro h best kI k o5 o7 o9 hr g hk hm hb hK
    refine w_go z_hl [35] [] 30 hr ?_
    intro x hx _ _
    obtain rfl := y_fi g hx
    refine ⟨fun _ => fun H hH => hK _ H (y_st (y_rf hr) hH (by repeat (first | exact w_nil | refine w_cons (Or.inl (y_m rfl)) ?_ | refine w_cons (Or.inr (by assumption)) ?_)) (by repeat (first | exact w_nil | refine w_cons (Or.inl (y_m rfl)) ?_ | refine w_cons (Or.inr (by assumption)) ?_))), fun q => ?_⟩
    have : ¬ (ln.toInt ≤ kI.toInt) := y_cif q
    omega
  | succ m ih =>
    intro h best kI k o5 o7 o9 hr g hk hm hb hK
    have ink : (kI + Int32.ofInt 1).toInt = ((k + 1 : Nat) : Int) := by rw [y_inc (by omega), hk]; rfl
    have i6 := y_i6 hk hmk (by omega) (by omega)
    have b6 : 0 ≤ ((Int8.ofInt 6).toInt32 * kI + mk).toInt ∧ ((Int8.ofInt 6).toInt32 * kI + mk).toInt < ((48 : Nat) : Int) := by omega
    have next : ∀ {G : aH} {best' : Int32} {o5 o7 o9 : Option Value}, y_fr h G [] [] → best'.toInt < ln.toInt → aOK s_P X d a_m272 154 [some (.ref 155), some (.int mk), some (.int wh), some (.int best'), some (.int kI), o5, none, o7, none, o9, none] [] G C S K0 := by
      intro G best' o5 o7 o9 e hb'
      refine w_go z_hl [35] [] 30 e.1 ?_
      intro H hH
      have e2 := y_st e hH (by repeat (first | exact w_nil | refine w_cons (Or.inl (y_m rfl)) ?_ | refine w_cons (Or.inr (by assumption)) ?_)) (by repeat (first | exact w_nil | refine w_cons (Or.inl (y_m rfl)) ?_ | refine w_cons (Or.inr (by assumption)) ?_))
      exact ih H _ _ (k + 1) _ _ _ e2.1 ((y_fe e2 rfl).trans g) ink (by omega) hb' (fun r H' f => hK r H' (y_sq e2 f rfl rfl))
    have T120 : ∀ {G : aH} {x5 x7 x9 : Int64}, y_fr h G [] [] → aOK s_P X d a_m272 120 [some (.ref 155), some (.int mk), some (.int wh), some (.int best), some (.int kI), some (.long x5), none, some (.long x7), none, some (.long x9), none] [] G C S K0 := by
      intro G x5 x7 x9 e
      refine w_go z_hl [154] [] 40 e.1 ?_
      exact ⟨fun _ => fun H hH => next (y_st e hH (by repeat (first | exact w_nil | refine w_cons (Or.inl (y_m rfl)) ?_ | refine w_cons (Or.inr (by assumption)) ?_)) (by repeat (first | exact w_nil | refine w_cons (Or.inl (y_m rfl)) ?_ | refine w_cons (Or.inr (by assumption)) ?_))) (by omega), fun _ => ⟨fun _ => ⟨fun _ => fun H hH => next (y_st e hH (by repeat (first | exact w_nil | refine w_cons (Or.inl (y_m rfl)) ?_ | refine w_cons (Or.inr (by assumption)) ?_)) (by repeat (first | exact w_nil | refine w_cons (Or.inl (y_m rfl)) ?_ | refine w_cons (Or.inr (by assumption)) ?_))) hb, fun _ => fun H hH => next (y_st e hH (by repeat (first | exact w_nil | refine w_cons (Or.inl (y_m rfl)) ?_ | refine w_cons (Or.inr (by assumption)) ?_)) (by repeat (first | exact w_nil | refine w_cons (Or.inl (y_m rfl)) ?_ | refine w_cons (Or.inr (by assumption)) ?_))) (by omega)⟩, fun _ => ⟨fun _ => fun H hH => next (y_st e hH (by repeat (first | exact w_nil | refine w_cons (Or.inl (y_m rfl)) ?_ | refine w_cons (Or.inr (by assumption)) ?_)) (by repeat (first | exact w_nil | refine w_cons (Or.inl (y_m rfl)) ?_ | refine w_cons (Or.inr (by assumption)) ?_))) hb, fun _ => fun H hH => next (y_st e hH (by repeat (first | exact w_nil | refine w_cons (Or.inl (y_m rfl)) ?_ | refine w_cons (Or.inr (by assumption)) ?_)) (by repeat (first | exact w_nil | refine w_cons (Or.inl (y_m rfl)) ?_ | refine w_cons (Or.inr (by assumption)) ?_))) (by omega)⟩⟩⟩
    have T98 : ∀ {G : aH} {x5 x7 : Int64}, y_fr h G [] [] → aOK s_P X d a_m272 98 [some (.ref 155), some (.int mk), some (.int wh), some (.int best), some (.int kI), some (.long x5), none, o7, none, o9, none] [.long x7] G C S K0 := by
      intro G x5 x7 e
      refine w_go z_hl [120] [] 40 e.1 ?_
      refine ⟨fun q => ?_, fun _ => fun H hH => T120 (y_st e hH (by repeat (first | exact w_nil | refine w_cons (Or.inl (y_m rfl)) ?_ | refine w_cons (Or.inr (by assumption)) ?_)) (by repeat (first | exact w_nil | refine w_cons (Or.inl (y_m rfl)) ?_ | refine w_cons (Or.inr (by assumption)) ?_)))⟩
      have q2 : (0 : Int32).toInt ≤ best.toInt := (y_ci .ge _ _).mp q
      rw [show (0 : Int32).toInt = 0 by decide] at q2
      exact ⟨⟨by omega, by omega⟩, fun l hl len bb => fun H hH => T120 (y_st e hH (by repeat (first | exact w_nil | refine w_cons (Or.inl (y_m rfl)) ?_ | refine w_cons (Or.inr (by assumption)) ?_)) (by repeat (first | exact w_nil | refine w_cons (Or.inl (y_m rfl)) ?_ | refine w_cons (Or.inr (by assumption)) ?_)))⟩
    have T69 : ∀ {G : aH} {x5 : Int64}, y_fr h G [] [] → aOK s_P X d a_m272 69 [some (.ref 155), some (.int mk), some (.int wh), some (.int best), some (.int kI), some (.long x5), none, o7, none, o9, none] [] G C S K0 := by
      intro G x5 e
      refine w_go z_hl [98] [] 40 e.1 ?_
      refine ⟨fun q => ?_, fun _ => fun H hH => T98 (y_st e hH (by repeat (first | exact w_nil | refine w_cons (Or.inl (y_m rfl)) ?_ | refine w_cons (Or.inr (by assumption)) ?_)) (by repeat (first | exact w_nil | refine w_cons (Or.inl (y_m rfl)) ?_ | refine w_cons (Or.inr (by assumption)) ?_)))⟩
      have q2 : (0 : Int32).toInt ≤ best.toInt := (y_ci .ge _ _).mp q
      rw [show (0 : Int32).toInt = 0 by decide] at q2
      obtain ⟨bn, hbn⟩ : ∃ bn : Nat, best.toInt = bn := ⟨best.toInt.toNat, by omega⟩
      have j6 := y_i6 hbn hmk (by omega) (by omega)
      have c6 : 0 ≤ ((Int8.ofInt 6).toInt32 * best + mk).toInt ∧ ((Int8.ofInt 6).toInt32 * best + mk).toInt < ((48 : Nat) : Int) := by omega
      exact ⟨c6, fun l hl len bb => ⟨⟨by omega, by omega⟩, fun l2 hl2 len2 bb2 => fun H hH => T98 (y_st e hH (by repeat (first | exact w_nil | refine w_cons (Or.inl (y_m rfl)) ?_ | refine w_cons (Or.inr (by assumption)) ?_)) (by repeat (first | exact w_nil | refine w_cons (Or.inl (y_m rfl)) ?_ | refine w_cons (Or.inr (by assumption)) ?_)))⟩⟩
    have f0 : y_fr h h [] [] := y_rf hr
    refine w_go z_hl [35, 69, 154] [] 40 hr ?_
    intro x hx _ _
    obtain rfl := y_fi g hx
    refine ⟨fun q => ?_, fun _ => ⟨b6, fun l hl len bb => ⟨fun _ => fun H hH => T69 (y_st f0 hH (by repeat (first | exact w_nil | refine w_cons (Or.inl (y_m rfl)) ?_ | refine w_cons (Or.inr (by assumption)) ?_)) (by repeat (first | exact w_nil | refine w_cons (Or.inl (y_m rfl)) ?_ | refine w_cons (Or.inr (by assumption)) ?_))), fun _ => fun H hH => next (y_st f0 hH (by repeat (first | exact w_nil | refine w_cons (Or.inl (y_m rfl)) ?_ | refine w_cons (Or.inr (by assumption)) ?_)) (by repeat (first | exact w_nil | refine w_cons (Or.inl (y_m rfl)) ?_ | refine w_cons (Or.inr (by assumption)) ?_))) hb⟩⟩⟩
    have : ln.toInt ≤ kI.toInt := (y_ci .ge _ _).mp q
    omega
theorem p_rare (hr : w_hr z_D h) (hJ : y_J h) {mk wh : Int32} (hk : ∀ (r : Int32) (H : aH), y_fr h H [19584] [] → K0 (some (.int r)) H C S) : aOK s_P X (d + 1) a_m272 0 [some (.ref 155), some (.int mk), some (.int wh), none, none, none, none, none, none, none, none] [] h C S K0 := by
  obtain ⟨ln, pe, l1, l2, l3⟩ := id hJ.2.2.2.2.2.2
  obtain ⟨b1, b2⟩ := y_lnb hr l1
  have T24 : ∀ {G : aH} {b : Bool} {v : Nat}, y_fr h G [19584] [] → mk.toInt = v → v < 6 → aOK s_P X (d + 1) a_m272 24 [some (.ref 155), some (.int mk), some (.int wh), none, none, none, none, none, none, none, none] [.int (y_01 b)] G C S K0 := by
    intro G b v e hv v6
    refine w_go z_hl [35] [] 30 e.1 ?_
    refine ⟨fun _ => fun H hH => ?_, fun _ => fun H hH => hk _ H (y_st e hH (by repeat (first | exact w_nil | refine w_cons (Or.inl (y_m rfl)) ?_ | refine w_cons (Or.inr (by assumption)) ?_)) (by repeat (first | exact w_nil | refine w_cons (Or.inl (y_m rfl)) ?_ | refine w_cons (Or.inr (by assumption)) ?_)))⟩
    have e2 := y_st e hH (by repeat (first | exact w_nil | refine w_cons (Or.inl (y_m rfl)) ?_ | refine w_cons (Or.inr (by assumption)) ?_)) (by repeat (first | exact w_nil | refine w_cons (Or.inl (y_m rfl)) ?_ | refine w_cons (Or.inr (by assumption)) ?_))
    exact y_rare_loop hv v6 b1 b2 ln.toInt.toNat H _ _ 0 _ _ _ e2.1 ((y_fe e2 rfl).trans l1) rfl (by omega) (by show ((Int8.ofInt (-2)).toInt32).toInt < _; rw [show ((Int8.ofInt (-2)).toInt32).toInt = -2 by decide]; omega) (fun r H' f => hk r H' (y_sq e2 f rfl rfl))
  have T14 : ∀ {G : aH} {v : Nat}, y_fr h G [19584] [] → mk.toInt = v → v < 6 → aOK s_P X (d + 1) a_m272 14 [some (.ref 155), some (.int mk), some (.int wh), none, none, none, none, none, none, none, none] [.int (y_01 true)] G C S K0 := by
    intro G v e hv v6
    refine w_go z_hl [] [176] 30 e.1 ?_
    refine ⟨fun q => absurd q (by decide), fun _ => fun H hH => ?_⟩
    have e2 := y_st e hH (by repeat (first | exact w_nil | refine w_cons (Or.inl (y_m rfl)) ?_ | refine w_cons (Or.inr (by assumption)) ?_)) (by repeat (first | exact w_nil | refine w_cons (Or.inl (y_m rfl)) ?_ | refine w_cons (Or.inr (by assumption)) ?_))
    refine q_in e2.1 (fun H3 h3 _ _ => ⟨fun n e => (by cases e), ?_⟩) (fun H3 h3 _ => ⟨fun n e => (by cases e), ?_⟩)
    · exact T24 (y_sq e2 h3 rfl rfl) hv v6
    · exact T24 (y_sq e2 h3 rfl rfl) hv v6
  have T14n : ∀ {G : aH}, y_fr h G [19584] [] → aOK s_P X (d + 1) a_m272 14 [some (.ref 155), some (.int mk), some (.int wh), none, none, none, none, none, none, none, none] [.int (y_01 false)] G C S K0 := by
    intro G e
    refine w_go z_hl [] [] 30 e.1 ?_
    exact ⟨fun _ => fun H hH => hk _ H (y_st e hH (by repeat (first | exact w_nil | refine w_cons (Or.inl (y_m rfl)) ?_ | refine w_cons (Or.inr (by assumption)) ?_)) (by repeat (first | exact w_nil | refine w_cons (Or.inl (y_m rfl)) ?_ | refine w_cons (Or.inr (by assumption)) ?_))), fun q => absurd q (by decide)⟩
  refine w_go z_hl [] [176] 30 hr ?_
  refine ⟨rfl, y_zini (by decide) (by decide), fun H hH => ?_⟩
  have e : y_fr h H [19584] [] := y_st (y_mo (y_rf hr) rfl rfl) hH (by repeat (first | exact w_nil | refine w_cons (Or.inl (y_m rfl)) ?_ | refine w_cons (Or.inr (by assumption)) ?_)) (by repeat (first | exact w_nil | refine w_cons (Or.inl (y_m rfl)) ?_ | refine w_cons (Or.inr (by assumption)) ?_))
  refine q_in (v := mk.toInt64) (lo := Int64.ofNat 0) (hi := Int64.ofInt 5) e.1 (fun H3 h3 a1 a2 => ⟨fun n e => (by cases e), ?_⟩) (fun H3 h3 _ => ⟨fun n e => (by cases e), ?_⟩)
  · rw [y_i2l] at a1 a2
    rw [y_i64 (by decide) (by decide)] at a2
    have a1 : 0 ≤ mk.toInt := a1
    exact T14 (v := mk.toInt.toNat) (y_sq e h3 rfl rfl) (by omega) (by omega)
  · exact T14n (y_sq e h3 rfl rfl)
theorem y_forced_loop {nd : Int32} (n0 : 0 ≤ nd.toInt) (n10 : nd.toInt ≤ 10) : ∀ (m : Nat) (h : aH) (b kI : Int32) (k : Nat), w_hr z_D h → w_f h 19591 = some (.int nd) → kI.toInt = k → (k : Int) + m = nd.toInt → (∀ (r : Int32) (H : aH), y_fr h H [] [] → K0 (some (.int r)) H C S) → aOK s_P X d a_m282 4 [some (.ref 155), some (.int b), some (.int kI)] [] h C S K0 := by
  intro m
  induction m with
  | zero =>
    intro h b kI k hr g hk hm hK
    refine w_go z_hl [4] [] 30 hr ?_
    intro x hx _ _
    obtain rfl := y_fi g hx
    refine ⟨fun _ => fun H hH => hK _ H (y_st (y_rf hr) hH (by repeat (first | exact w_nil | refine w_cons (Or.inl (y_m rfl)) ?_ | refine w_cons (Or.inr (by assumption)) ?_)) (by repeat (first | exact w_nil | refine w_cons (Or.inl (y_m rfl)) ?_ | refine w_cons (Or.inr (by assumption)) ?_))), fun q => ?_⟩
    have : ¬ (nd.toInt ≤ kI.toInt) := y_cif q
    omega
  | succ m ih =>
    intro h b kI k hr g hk hm hK
    have ink : (kI + Int32.ofInt 1).toInt = ((k + 1 : Nat) : Int) := by rw [y_inc (by omega), hk]; rfl
    have next : ∀ {G : aH} {b' : Int32}, y_fr h G [] [] → aOK s_P X d a_m282 4 [some (.ref 155), some (.int b'), some (.int (kI + Int32.ofInt 1))] [] G C S K0 := fun e => ih _ _ _ (k + 1) e.1 ((y_fe e rfl).trans g) ink (by omega) (fun r H' f => hK r H' (y_sq e f rfl rfl))
    have f0 : y_fr h h [] [] := y_rf hr
    refine w_go z_hl [4] [] 30 hr ?_
    intro x hx _ _
    obtain rfl := y_fi g hx
    refine ⟨fun q => ?_, fun _ => ⟨⟨by omega, by omega⟩, fun l hl len bb => ⟨fun _ => fun H hH => next (y_st f0 hH (by repeat (first | exact w_nil | refine w_cons (Or.inl (y_m rfl)) ?_ | refine w_cons (Or.inr (by assumption)) ?_)) (by repeat (first | exact w_nil | refine w_cons (Or.inl (y_m rfl)) ?_ | refine w_cons (Or.inr (by assumption)) ?_))), fun _ => fun H hH => next (y_st f0 hH (by repeat (first | exact w_nil | refine w_cons (Or.inl (y_m rfl)) ?_ | refine w_cons (Or.inr (by assumption)) ?_)) (by repeat (first | exact w_nil | refine w_cons (Or.inl (y_m rfl)) ?_ | refine w_cons (Or.inr (by assumption)) ?_)))⟩⟩⟩
    have : nd.toInt ≤ kI.toInt := (y_ci .ge _ _).mp q
    omega
theorem y_place_loop {sm v : Int32} (m0 : 0 ≤ sm.toInt) (m10 : sm.toInt ≤ 10) : ∀ (m : Nat) (h : aH) (b kI : Int32) (k : Nat), w_hr z_D h → w_f h 19598 = some (.int sm) → kI.toInt = k → (k : Int) + m = sm.toInt → (∀ (r : Int32) (H : aH), y_fr h H [] [] → K0 (some (.int r)) H C S) → aOK s_P X d a_m285 4 [some (.ref 155), some (.int v), some (.int b), some (.int kI)] [] h C S K0 := by
  intro m
  induction m with
  | zero =>
    intro h b kI k hr g hk hm hK
    refine w_go z_hl [4] [] 30 hr ?_
    intro x hx _ _
    obtain rfl := y_fi g hx
    refine ⟨fun _ => fun H hH => hK _ H (y_st (y_rf hr) hH (by repeat (first | exact w_nil | refine w_cons (Or.inl (y_m rfl)) ?_ | refine w_cons (Or.inr (by assumption)) ?_)) (by repeat (first | exact w_nil | refine w_cons (Or.inl (y_m rfl)) ?_ | refine w_cons (Or.inr (by assumption)) ?_))), fun q => ?_⟩
    have : ¬ (sm.toInt ≤ kI.toInt) := y_cif q
    omega
  | succ m ih =>
    intro h b kI k hr g hk hm hK
    have ink : (kI + Int32.ofInt 1).toInt = ((k + 1 : Nat) : Int) := by rw [y_inc (by omega), hk]; rfl
    have next : ∀ {G : aH} {b' : Int32}, y_fr h G [] [] → aOK s_P X d a_m285 4 [some (.ref 155), some (.int v), some (.int b'), some (.int (kI + Int32.ofInt 1))] [] G C S K0 := fun e => ih _ _ _ (k + 1) e.1 ((y_fe e rfl).trans g) ink (by omega) (fun r H' f => hK r H' (y_sq e f rfl rfl))
    have f0 : y_fr h h [] [] := y_rf hr
    refine w_go z_hl [4] [] 30 hr ?_
    intro x hx _ _
    obtain rfl := y_fi g hx
    refine ⟨fun q => ?_, fun _ => ⟨⟨by omega, by omega⟩, fun l hl len bb => ⟨fun _ => fun H hH => next (y_st f0 hH (by repeat (first | exact w_nil | refine w_cons (Or.inl (y_m rfl)) ?_ | refine w_cons (Or.inr (by assumption)) ?_)) (by repeat (first | exact w_nil | refine w_cons (Or.inl (y_m rfl)) ?_ | refine w_cons (Or.inr (by assumption)) ?_))), fun _ => fun H hH => next (y_st f0 hH (by repeat (first | exact w_nil | refine w_cons (Or.inl (y_m rfl)) ?_ | refine w_cons (Or.inr (by assumption)) ?_)) (by repeat (first | exact w_nil | refine w_cons (Or.inl (y_m rfl)) ?_ | refine w_cons (Or.inr (by assumption)) ?_)))⟩⟩⟩
    have : sm.toInt ≤ kI.toInt := (y_ci .ge _ _).mp q
    omega
theorem p_count (hr : w_hr z_D h) (hJ : y_J h) {a : Int32} (hk : ∀ (r : Int32) (H : aH), y_fr h H [19584] [] → K0 (some (.int r)) H C S) : aOK s_P X (d + 1) a_m281 0 [some (.ref 155), some (.int a)] [] h C S K0 := by
  obtain ⟨nd, sm, so, sa, s1, s2, s3, s4, s5⟩ := id hJ.2.2.2.2.1
  obtain ⟨b1, b2⟩ := y_ndb hr s1
  have T64 : ∀ {G : aH}, y_fr h G [19584] [] → aOK s_P X (d + 1) a_m281 64 [some (.ref 155), some (.int a)] [] G C S K0 := by
    intro G e
    refine w_go z_hl [] [] 30 e.1 ?_
    intro x hx _ _
    exact fun H hH => hk _ H (y_st e hH (by repeat (first | exact w_nil | refine w_cons (Or.inl (y_m rfl)) ?_ | refine w_cons (Or.inr (by assumption)) ?_)) (by repeat (first | exact w_nil | refine w_cons (Or.inl (y_m rfl)) ?_ | refine w_cons (Or.inr (by assumption)) ?_)))
  have T69 : ∀ {G : aH}, y_fr h G [19584] [] → aOK s_P X (d + 1) a_m281 69 [some (.ref 155), some (.int a)] [] G C S K0 := by
    intro G e
    refine w_go z_hl [] [] 30 e.1 ?_
    intro x hx _ _
    exact fun H hH => hk _ H (y_st e hH (by repeat (first | exact w_nil | refine w_cons (Or.inl (y_m rfl)) ?_ | refine w_cons (Or.inr (by assumption)) ?_)) (by repeat (first | exact w_nil | refine w_cons (Or.inl (y_m rfl)) ?_ | refine w_cons (Or.inr (by assumption)) ?_)))
  have T74 : ∀ {G : aH}, y_fr h G [19584] [] → aOK s_P X (d + 1) a_m281 74 [some (.ref 155), some (.int a)] [] G C S K0 := by
    intro G e
    refine w_go z_hl [] [] 30 e.1 ?_
    intro x hx _ _
    exact fun H hH => hk _ H (y_st e hH (by repeat (first | exact w_nil | refine w_cons (Or.inl (y_m rfl)) ?_ | refine w_cons (Or.inr (by assumption)) ?_)) (by repeat (first | exact w_nil | refine w_cons (Or.inl (y_m rfl)) ?_ | refine w_cons (Or.inr (by assumption)) ?_)))
  have T79 : ∀ {G : aH}, y_fr h G [19584] [] → aOK s_P X (d + 1) a_m281 79 [some (.ref 155), some (.int a)] [] G C S K0 := by
    intro G e
    refine w_go z_hl [] [] 30 e.1 ?_
    intro x hx _ _
    exact fun H hH => hk _ H (y_st e hH (by repeat (first | exact w_nil | refine w_cons (Or.inl (y_m rfl)) ?_ | refine w_cons (Or.inr (by assumption)) ?_)) (by repeat (first | exact w_nil | refine w_cons (Or.inl (y_m rfl)) ?_ | refine w_cons (Or.inr (by assumption)) ?_)))
  have T84 : ∀ {G : aH}, y_fr h G [19584] [] → aOK s_P X (d + 1) a_m281 84 [some (.ref 155), some (.int a)] [] G C S K0 := by
    intro G e
    refine w_go z_hl [] [] 30 e.1 ?_
    intro x hx _ _
    exact fun H hH => hk _ H (y_st e hH (by repeat (first | exact w_nil | refine w_cons (Or.inl (y_m rfl)) ?_ | refine w_cons (Or.inr (by assumption)) ?_)) (by repeat (first | exact w_nil | refine w_cons (Or.inl (y_m rfl)) ?_ | refine w_cons (Or.inr (by assumption)) ?_)))
  have T89 : ∀ {G : aH}, y_fr h G [19584] [] → aOK s_P X (d + 1) a_m281 89 [some (.ref 155), some (.int a)] [] G C S K0 := by
    intro G e
    refine w_go z_hl [] [] 30 e.1 ?_
    intro x hx _ _
    exact fun H hH => hk _ H (y_st e hH (by repeat (first | exact w_nil | refine w_cons (Or.inl (y_m rfl)) ?_ | refine w_cons (Or.inr (by assumption)) ?_)) (by repeat (first | exact w_nil | refine w_cons (Or.inl (y_m rfl)) ?_ | refine w_cons (Or.inr (by assumption)) ?_)))
  have T94 : ∀ {G : aH}, y_fr h G [19584] [] → aOK s_P X (d + 1) a_m281 94 [some (.ref 155), some (.int a)] [] G C S K0 := by
    intro G e
    refine w_go z_hl [] [] 30 e.1 ?_
    intro x hx _ _
    exact fun H hH => hk _ H (y_st e hH (by repeat (first | exact w_nil | refine w_cons (Or.inl (y_m rfl)) ?_ | refine w_cons (Or.inr (by assumption)) ?_)) (by repeat (first | exact w_nil | refine w_cons (Or.inl (y_m rfl)) ?_ | refine w_cons (Or.inr (by assumption)) ?_)))
  have T99 : ∀ {G : aH}, y_fr h G [19584] [] → aOK s_P X (d + 1) a_m281 99 [some (.ref 155), some (.int a)] [] G C S K0 := by
    intro G e
    refine w_go z_hl [] [] 30 e.1 ?_
    intro x hx _ _
    exact fun H hH => hk _ H (y_st e hH (by repeat (first | exact w_nil | refine w_cons (Or.inl (y_m rfl)) ?_ | refine w_cons (Or.inr (by assumption)) ?_)) (by repeat (first | exact w_nil | refine w_cons (Or.inl (y_m rfl)) ?_ | refine w_cons (Or.inr (by assumption)) ?_)))
  have T104 : ∀ {G : aH}, y_fr h G [19584] [] → aOK s_P X (d + 1) a_m281 104 [some (.ref 155), some (.int a)] [] G C S K0 := by
    intro G e
    refine w_go z_hl [] [] 30 e.1 ?_
    intro x hx _ _
    exact fun H hH => hk _ H (y_st e hH (by repeat (first | exact w_nil | refine w_cons (Or.inl (y_m rfl)) ?_ | refine w_cons (Or.inr (by assumption)) ?_)) (by repeat (first | exact w_nil | refine w_cons (Or.inl (y_m rfl)) ?_ | refine w_cons (Or.inr (by assumption)) ?_)))
  have T109 : ∀ {G : aH}, y_fr h G [19584] [] → aOK s_P X (d + 1) a_m281 109 [some (.ref 155), some (.int a)] [] G C S K0 := by
    intro G e
    refine w_go z_hl [] [] 30 e.1 ?_
    intro x hx _ _
    exact fun H hH => hk _ H (y_st e hH (by repeat (first | exact w_nil | refine w_cons (Or.inl (y_m rfl)) ?_ | refine w_cons (Or.inr (by assumption)) ?_)) (by repeat (first | exact w_nil | refine w_cons (Or.inl (y_m rfl)) ?_ | refine w_cons (Or.inr (by assumption)) ?_)))
  have T119 : ∀ {G : aH} {x : Int32}, y_fr h G [19584] [] → aOK s_P X (d + 1) a_m281 119 [some (.ref 155), some (.int a)] [.int x] G C S K0 := by
    intro G x e
    refine w_go z_hl [] [] 30 e.1 ?_
    exact fun H hH => hk _ H (y_st e hH (by repeat (first | exact w_nil | refine w_cons (Or.inl (y_m rfl)) ?_ | refine w_cons (Or.inr (by assumption)) ?_)) (by repeat (first | exact w_nil | refine w_cons (Or.inl (y_m rfl)) ?_ | refine w_cons (Or.inr (by assumption)) ?_)))
  have T115 : ∀ {G : aH}, y_fr h G [19584] [] → aOK s_P X (d + 1) a_m281 115 [some (.ref 155), some (.int a)] [] G C S K0 := by
    intro G e
    refine w_go z_hl [] [282] 30 e.1 ?_
    intro H hH
    have e2 := y_st e hH (by repeat (first | exact w_nil | refine w_cons (Or.inl (y_m rfl)) ?_ | refine w_cons (Or.inr (by assumption)) ?_)) (by repeat (first | exact w_nil | refine w_cons (Or.inl (y_m rfl)) ?_ | refine w_cons (Or.inr (by assumption)) ?_))
    have go : ∀ {K1 : Option Value → aH → Nat → Nat → Prop}, (∀ (r : Int32) (H' : aH), y_fr H H' [] [] → K1 (some (.int r)) H' C S) → aOK s_P X d a_m282 0 [some (.ref 155), none, none] [] H C S K1 := by
      intro K1 hK1
      refine w_go z_hl [4] [] 30 e2.1 ?_
      intro H3 h3
      have f : y_fr H H3 [] [] := y_st (y_rf e2.1) h3 (by repeat (first | exact w_nil | refine w_cons (Or.inl (y_m rfl)) ?_ | refine w_cons (Or.inr (by assumption)) ?_)) (by repeat (first | exact w_nil | refine w_cons (Or.inl (y_m rfl)) ?_ | refine w_cons (Or.inr (by assumption)) ?_))
      have f2 := y_sq e2 f rfl rfl
      exact y_forced_loop b1 b2 nd.toInt.toNat H3 _ _ 0 f.1 ((y_fe f2 rfl).trans s1) rfl (by omega) (fun r H' f' => hK1 r H' (y_sq f f' rfl rfl))
    refine go (fun r H' f' => ⟨fun n e => (by cases e), ?_⟩)
    exact T119 (y_sq e2 f' rfl rfl)
  have T120 : ∀ {G : aH}, y_fr h G [19584] [] → aOK s_P X (d + 1) a_m281 120 [some (.ref 155), some (.int a)] [] G C S K0 := by
    intro G e
    refine w_go z_hl [] [] 30 e.1 ?_
    exact fun H hH => hk _ H (y_st e hH (by repeat (first | exact w_nil | refine w_cons (Or.inl (y_m rfl)) ?_ | refine w_cons (Or.inr (by assumption)) ?_)) (by repeat (first | exact w_nil | refine w_cons (Or.inl (y_m rfl)) ?_ | refine w_cons (Or.inr (by assumption)) ?_)))
  refine w_go z_hl [6] [] 30 hr ?_
  refine ⟨rfl, y_zini (by decide) (by decide), fun H hH => ?_⟩
  have e : y_fr h H [19584] [] := y_st (y_mo (y_rf hr) rfl rfl) hH (by repeat (first | exact w_nil | refine w_cons (Or.inl (y_m rfl)) ?_ | refine w_cons (Or.inr (by assumption)) ?_)) (by repeat (first | exact w_nil | refine w_cons (Or.inl (y_m rfl)) ?_ | refine w_cons (Or.inr (by assumption)) ?_))
  by_cases q : a.toInt < 0 ∨ 10 < a.toInt
  · exact y_tsw_d (t := 120) rfl q (by decide) (T120 e)
  · have hq : a.toInt = 0 ∨ a.toInt = 1 ∨ a.toInt = 2 ∨ a.toInt = 3 ∨ a.toInt = 4 ∨ a.toInt = 5 ∨ a.toInt = 6 ∨ a.toInt = 7 ∨ a.toInt = 8 ∨ a.toInt = 9 ∨ a.toInt = 10 := by omega
    rcases hq with x | x | x | x | x | x | x | x | x | x | x
    · exact y_tsw_i (t := 64) rfl q (by rw [x]; rfl) (by decide) (T64 e)
    · exact y_tsw_i (t := 69) rfl q (by rw [x]; rfl) (by decide) (T69 e)
    · exact y_tsw_i (t := 74) rfl q (by rw [x]; rfl) (by decide) (T74 e)
    · exact y_tsw_i (t := 79) rfl q (by rw [x]; rfl) (by decide) (T79 e)
    · exact y_tsw_i (t := 84) rfl q (by rw [x]; rfl) (by decide) (T84 e)
    · exact y_tsw_i (t := 89) rfl q (by rw [x]; rfl) (by decide) (T89 e)
    · exact y_tsw_i (t := 94) rfl q (by rw [x]; rfl) (by decide) (T94 e)
    · exact y_tsw_i (t := 99) rfl q (by rw [x]; rfl) (by decide) (T99 e)
    · exact y_tsw_i (t := 104) rfl q (by rw [x]; rfl) (by decide) (T104 e)
    · exact y_tsw_i (t := 109) rfl q (by rw [x]; rfl) (by decide) (T109 e)
    · exact y_tsw_i (t := 115) rfl q (by rw [x]; rfl) (by decide) (T115 e)
theorem p_of (hr : w_hr z_D h) (hJ : y_J h) {a b : Int32} (hk : ∀ (r : Int32) (H : aH), y_fr h H [19584] [] → K0 (some (.int r)) H C S) : aOK s_P X (d + 2) a_m283 0 [some (.ref 155), some (.int a), some (.int b)] [] h C S K0 := by
  obtain ⟨nd, le, de, ta, n1, n2, n3, n4, c1, c2, c3, c4, c5⟩ := id hJ.1
  obtain ⟨nd', sm, so, sa, s1, s2, s3, s4, s5⟩ := id hJ.2.2.2.2.1
  obtain ⟨b1, b2⟩ := y_ndb hr n1
  obtain ⟨m0, m10⟩ := y_smb hr s2
  have T33 : ∀ {G : aH}, y_fr h G [19584] [] → aOK s_P X (d + 2) a_m283 33 [some (.ref 155), some (.int a), some (.int b)] [] G C S K0 := by
    intro G e
    refine w_go z_hl [] [] 30 e.1 ?_
    exact ⟨rfl, y_zini (by decide) (by decide), fun H hH => hk _ H (y_st e hH (by repeat (first | exact w_nil | refine w_cons (Or.inl (y_m rfl)) ?_ | refine w_cons (Or.inr (by assumption)) ?_)) (by repeat (first | exact w_nil | refine w_cons (Or.inl (y_m rfl)) ?_ | refine w_cons (Or.inr (by assumption)) ?_)))⟩
  have T72 : ∀ {G : aH}, y_fr h G [19584] [] → 0 ≤ a.toInt → a.toInt ≤ 9 → aOK s_P X (d + 2) a_m283 72 [some (.ref 155), some (.int a), some (.int b)] [] G C S K0 := by
    intro G e a0 a9
    refine w_go z_hl [] [] 30 e.1 ?_
    exact ⟨⟨by omega, by omega⟩, fun l hl len bb => fun H hH => hk _ H (y_st e hH (by repeat (first | exact w_nil | refine w_cons (Or.inl (y_m rfl)) ?_ | refine w_cons (Or.inr (by assumption)) ?_)) (by repeat (first | exact w_nil | refine w_cons (Or.inl (y_m rfl)) ?_ | refine w_cons (Or.inr (by assumption)) ?_)))⟩
  have T79 : ∀ {G : aH}, y_fr h G [19584] [] → 0 ≤ a.toInt → a.toInt ≤ 9 → aOK s_P X (d + 2) a_m283 79 [some (.ref 155), some (.int a), some (.int b)] [] G C S K0 := by
    intro G e a0 a9
    refine w_go z_hl [] [] 30 e.1 ?_
    exact ⟨⟨by omega, by omega⟩, fun l hl len bb => fun H hH => hk _ H (y_st e hH (by repeat (first | exact w_nil | refine w_cons (Or.inl (y_m rfl)) ?_ | refine w_cons (Or.inr (by assumption)) ?_)) (by repeat (first | exact w_nil | refine w_cons (Or.inl (y_m rfl)) ?_ | refine w_cons (Or.inr (by assumption)) ?_)))⟩
  have T86 : ∀ {G : aH}, y_fr h G [19584] [] → 0 ≤ a.toInt → a.toInt ≤ 9 → aOK s_P X (d + 2) a_m283 86 [some (.ref 155), some (.int a), some (.int b)] [] G C S K0 := by
    intro G e a0 a9
    refine w_go z_hl [] [] 30 e.1 ?_
    exact ⟨⟨by omega, by omega⟩, fun l hl len bb => fun H hH => hk _ H (y_st e hH (by repeat (first | exact w_nil | refine w_cons (Or.inl (y_m rfl)) ?_ | refine w_cons (Or.inr (by assumption)) ?_)) (by repeat (first | exact w_nil | refine w_cons (Or.inl (y_m rfl)) ?_ | refine w_cons (Or.inr (by assumption)) ?_)))⟩
  have T99 : ∀ {G : aH}, y_fr h G [19584] [] → 0 ≤ a.toInt → a.toInt ≤ 9 → aOK s_P X (d + 2) a_m283 99 [some (.ref 155), some (.int a), some (.int b)] [] G C S K0 := by
    intro G e a0 a9
    refine w_go z_hl [] [] 30 e.1 ?_
    exact ⟨⟨by omega, by omega⟩, fun l hl len bb => fun H hH => hk _ H (y_st e hH (by repeat (first | exact w_nil | refine w_cons (Or.inl (y_m rfl)) ?_ | refine w_cons (Or.inr (by assumption)) ?_)) (by repeat (first | exact w_nil | refine w_cons (Or.inl (y_m rfl)) ?_ | refine w_cons (Or.inr (by assumption)) ?_)))⟩
  have T98 : ∀ {G : aH} {x : Int32}, y_fr h G [19584] [] → aOK s_P X (d + 2) a_m283 98 [some (.ref 155), some (.int a), some (.int b)] [.int x] G C S K0 := by
    intro G x e
    refine w_go z_hl [] [] 30 e.1 ?_
    exact fun H hH => hk _ H (y_st e hH (by repeat (first | exact w_nil | refine w_cons (Or.inl (y_m rfl)) ?_ | refine w_cons (Or.inr (by assumption)) ?_)) (by repeat (first | exact w_nil | refine w_cons (Or.inl (y_m rfl)) ?_ | refine w_cons (Or.inr (by assumption)) ?_)))
  have T93 : ∀ {G : aH}, y_fr h G [19584] [] → aOK s_P X (d + 2) a_m283 93 [some (.ref 155), some (.int a), some (.int b)] [] G C S K0 := by
    intro G e
    refine w_go z_hl [] [285] 30 e.1 ?_
    intro H hH
    have e2 := y_st e hH (by repeat (first | exact w_nil | refine w_cons (Or.inl (y_m rfl)) ?_ | refine w_cons (Or.inr (by assumption)) ?_)) (by repeat (first | exact w_nil | refine w_cons (Or.inl (y_m rfl)) ?_ | refine w_cons (Or.inr (by assumption)) ?_))
    have go : ∀ {K1 : Option Value → aH → Nat → Nat → Prop}, (∀ (r : Int32) (H' : aH), y_fr H H' [] [] → K1 (some (.int r)) H' C S) → aOK s_P X (d + 1) a_m285 0 [some (.ref 155), some (.int a), none, none] [] H C S K1 := by
      intro K1 hK1
      refine w_go z_hl [4] [] 30 e2.1 ?_
      intro H3 h3
      have f : y_fr H H3 [] [] := y_st (y_rf e2.1) h3 (by repeat (first | exact w_nil | refine w_cons (Or.inl (y_m rfl)) ?_ | refine w_cons (Or.inr (by assumption)) ?_)) (by repeat (first | exact w_nil | refine w_cons (Or.inl (y_m rfl)) ?_ | refine w_cons (Or.inr (by assumption)) ?_))
      have f2 := y_sq e2 f rfl rfl
      exact y_place_loop m0 m10 sm.toInt.toNat H3 _ _ 0 f.1 ((y_fe f2 rfl).trans s2) rfl (by omega) (fun r H' f' => hK1 r H' (y_sq f f' rfl rfl))
    refine go (fun r H' f' => ⟨fun n e => (by cases e), ?_⟩)
    exact T98 (y_sq e2 f' rfl rfl)
  have T106 : ∀ {G : aH}, y_fr h G [19584] [] → 0 ≤ a.toInt → a.toInt ≤ 9 → 5 ≤ b.toInt → b.toInt ≤ 12 → aOK s_P X (d + 2) a_m283 106 [some (.ref 155), some (.int a), some (.int b)] [] G C S K0 := by
    intro G e a0 a9 b5 b12
    obtain ⟨an, ha⟩ : ∃ an : Nat, a.toInt = an := ⟨a.toInt.toNat, by omega⟩
    obtain ⟨bn, hb⟩ : ∃ bn : Nat, b.toInt = bn := ⟨b.toInt.toNat, by omega⟩
    have i8 := y_i8 ha hb (by omega) (by omega)
    have ix : ((Int8.ofInt 8).toInt32 * a + b - Int32.ofInt 5).toInt = ((8 * an + bn - 5 : Nat) : Int) := y_subS (n := 5) _ i8 (by decide) (by omega) (by omega)
    have bx : 0 ≤ ((Int8.ofInt 8).toInt32 * a + b - Int32.ofInt 5).toInt ∧ ((Int8.ofInt 8).toInt32 * a + b - Int32.ofInt 5).toInt < ((80 : Nat) : Int) := by omega
    refine w_go z_hl [] [] 30 e.1 ?_
    exact ⟨bx, fun l hl len bb => fun H hH => hk _ H (y_st e hH (by repeat (first | exact w_nil | refine w_cons (Or.inl (y_m rfl)) ?_ | refine w_cons (Or.inr (by assumption)) ?_)) (by repeat (first | exact w_nil | refine w_cons (Or.inl (y_m rfl)) ?_ | refine w_cons (Or.inr (by assumption)) ?_)))⟩
  have T39 : ∀ {G : aH}, y_fr h G [19584] [] → 0 ≤ a.toInt → a.toInt ≤ 9 → 0 ≤ b.toInt → b.toInt ≤ 12 → aOK s_P X (d + 2) a_m283 39 [some (.ref 155), some (.int a), some (.int b)] [.int b] G C S K0 := by
    intro G e a0 a9 b0 b12
    by_cases q : b.toInt < 0 ∨ 4 < b.toInt
    · exact y_tsw_d (t := 106) rfl q (by decide) (T106 e a0 a9 (by omega) b12)
    · have hq : b.toInt = 0 ∨ b.toInt = 1 ∨ b.toInt = 2 ∨ b.toInt = 3 ∨ b.toInt = 4 := by omega
      rcases hq with x | x | x | x | x
      · exact y_tsw_i (t := 72) rfl q (by rw [x]; rfl) (by decide) (T72 e a0 a9)
      · exact y_tsw_i (t := 79) rfl q (by rw [x]; rfl) (by decide) (T79 e a0 a9)
      · exact y_tsw_i (t := 86) rfl q (by rw [x]; rfl) (by decide) (T86 e a0 a9)
      · exact y_tsw_i (t := 93) rfl q (by rw [x]; rfl) (by decide) (T93 e)
      · exact y_tsw_i (t := 99) rfl q (by rw [x]; rfl) (by decide) (T99 e a0 a9)
  have T28 : ∀ {G : aH} {cs : Int32}, y_fr h G [19584] [] → 0 ≤ a.toInt → a.toInt ≤ 9 → 0 ≤ b.toInt → cs.toInt ≤ 8 → aOK s_P X (d + 2) a_m283 28 [some (.ref 155), some (.int a), some (.int b)] [.int cs, .long (b.toInt64 - Int64.ofInt 5)] G C S K0 := by
    intro G cs e a0 a9 b0 cs8
    have bl := b.toInt_lt
    have sb : (b.toInt64 - Int64.ofInt 5).toInt = b.toInt - 5 := by
      rw [y_lsub (by rw [y_i2l, y_i64 (by decide) (by decide)]; omega) (by rw [y_i2l, y_i64 (by decide) (by decide)]; omega), y_i2l, y_i64 (by decide) (by decide)]
    refine w_go z_hl [33, 39] [] 30 e.1 ?_
    refine ⟨fun q => fun H hH => ?_, fun _ => fun H hH => T33 (y_st e hH (by repeat (first | exact w_nil | refine w_cons (Or.inl (y_m rfl)) ?_ | refine w_cons (Or.inr (by assumption)) ?_)) (by repeat (first | exact w_nil | refine w_cons (Or.inl (y_m rfl)) ?_ | refine w_cons (Or.inr (by assumption)) ?_)))⟩
    have q2 : (b.toInt64 - Int64.ofInt 5).toInt < cs.toInt64.toInt := (y_cl .lt _ _).mp q
    rw [sb, y_i2l] at q2
    exact T39 (y_st e hH (by repeat (first | exact w_nil | refine w_cons (Or.inl (y_m rfl)) ?_ | refine w_cons (Or.inr (by assumption)) ?_)) (by repeat (first | exact w_nil | refine w_cons (Or.inl (y_m rfl)) ?_ | refine w_cons (Or.inr (by assumption)) ?_))) a0 a9 b0 (by omega)
  have T10 : ∀ {G : aH} {v : Nat}, y_fr h G [19584] [] → a.toInt = v → v < 10 → aOK s_P X (d + 2) a_m283 10 [some (.ref 155), some (.int a), some (.int b)] [.int (y_01 true)] G C S K0 := by
    intro G v e hv v10
    refine w_go z_hl [33] [179] 30 e.1 ?_
    refine ⟨fun q => absurd q (by decide), fun _ => ⟨fun _ => fun H hH => T33 (y_st e hH (by repeat (first | exact w_nil | refine w_cons (Or.inl (y_m rfl)) ?_ | refine w_cons (Or.inr (by assumption)) ?_)) (by repeat (first | exact w_nil | refine w_cons (Or.inl (y_m rfl)) ?_ | refine w_cons (Or.inr (by assumption)) ?_))), fun q => fun H hH => ?_⟩⟩
    have q2 : ¬ (b.toInt < (0 : Int32).toInt) := y_cif q
    rw [show (0 : Int32).toInt = 0 by decide] at q2
    have e2 := y_st e hH (by repeat (first | exact w_nil | refine w_cons (Or.inl (y_m rfl)) ?_ | refine w_cons (Or.inr (by assumption)) ?_)) (by repeat (first | exact w_nil | refine w_cons (Or.inl (y_m rfl)) ?_ | refine w_cons (Or.inr (by assumption)) ?_))
    refine y_cases (v := a) e2.1 hv v10 ((y_ae e2 rfl).trans n2) (c1 v v10).1 (fun cs H4 h4 hcs => ⟨fun n e => (by cases e), ?_⟩)
    have hcs8 : cs.toInt ≤ 8 := by
      rw [hcs]
      have h5 : 2 ^ y_pl (y_Nn le v) 10 ≤ 2 ^ 3 := Nat.pow_le_pow_right (by decide) (c1 v v10).1
      omega
    exact T28 (y_sq e2 h4 rfl rfl) (by omega) (by omega) (by omega) hcs8
  have T10n : ∀ {G : aH}, y_fr h G [19584] [] → aOK s_P X (d + 2) a_m283 10 [some (.ref 155), some (.int a), some (.int b)] [.int (y_01 false)] G C S K0 := by
    intro G e
    refine w_go z_hl [33] [] 30 e.1 ?_
    exact ⟨fun _ => fun H hH => T33 (y_st e hH (by repeat (first | exact w_nil | refine w_cons (Or.inl (y_m rfl)) ?_ | refine w_cons (Or.inr (by assumption)) ?_)) (by repeat (first | exact w_nil | refine w_cons (Or.inl (y_m rfl)) ?_ | refine w_cons (Or.inr (by assumption)) ?_))), fun q => absurd q (by decide)⟩
  refine w_go z_hl [] [178] 30 hr ?_
  refine ⟨rfl, y_zini (by decide) (by decide), fun H1 h1 => ?_⟩
  have e1 : y_fr h H1 [19584] [] := y_st (y_mo (y_rf hr) rfl rfl) h1 (by repeat (first | exact w_nil | refine w_cons (Or.inl (y_m rfl)) ?_ | refine w_cons (Or.inr (by assumption)) ?_)) (by repeat (first | exact w_nil | refine w_cons (Or.inl (y_m rfl)) ?_ | refine w_cons (Or.inr (by assumption)) ?_))
  refine q_isNode (v := a) e1.1 ((y_fe e1 rfl).trans n1) (fun H2 v h2 hv hv2 hvc => ⟨fun n e => (by cases e), ?_⟩) (fun H2 h2 => ⟨fun n e => (by cases e), ?_⟩)
  · exact T10 (y_sq e1 h2 rfl rfl) hv (by omega)
  · exact T10n (y_sq e1 h2 rfl rfl)
end WG
end PT30i
section PT30z
/-! ===== v2: the checker, quicker: an instruction's kind is asked first ===== -/
noncomputable def z_fd (l : List (Nat × aI)) : Nat → Option aI := List.rec (motive := fun _ => Nat → Option aI) (fun _ => none) (fun q _ ih pc => cond (Nat.beq q.1 pc) (some q.2) (ih pc)) l
theorem z_fd_eq : ∀ (l : List (Nat × aI)) (pc : Nat), z_fd l pc = l.lookup pc := by
  intro l
  induction l with
  | nil => intro pc; rfl
  | cons q l ih =>
    intro pc
    obtain ⟨p, a⟩ := q
    show cond (Nat.beq p pc) (some a) (z_fd l pc) = _
    rw [List.lookup_cons, ih]
    cases hb : Nat.beq p pc with
    | true =>
      rw [Nat.eq_of_beq_eq_true hb, beq_self_eq_true]
      rfl
    | false =>
      have hn : (pc == p) = false := beq_eq_false_iff_ne.mpr (fun e => Nat.ne_of_beq_eq_false hb e.symm)
      rw [hn]
      rfl
/-- an instruction's kind -/
def z_kd (i : Instr) : Nat := match i with
  | .iload_n _ => 1
  | .iload _ => 1
  | .lload_n _ => 1
  | .lload _ => 1
  | .aload_n _ => 1
  | .aload _ => 1
  | .istore_n _ => 1
  | .istore _ => 1
  | .lstore_n _ => 1
  | .lstore _ => 1
  | .astore_n _ => 1
  | .astore _ => 1
  | .iinc _ _ => 2
  | .goto _ => 3
  | .getfield _ => 4
  | .putfield _ => 4
  | .iaload => 4
  | .baload => 4
  | .caload => 4
  | .laload => 4
  | .iastore => 4
  | .bastore => 4
  | .castore => 4
  | .lastore => 4
  | .arraylength => 4
  | .ifCond _ _ => 5
  | .if_icmp _ _ => 5
  | .ireturn => 6
  | .lreturn => 6
  | .return_ => 6
  | .invokevirtual _ => 7
  | .iconst _ => 8
  | .bipush _ => 8
  | .sipush _ => 8
  | .lconst _ => 8
  | _ => 0
section ZF
variable {f : zF} {nx : Nat} {i : Instr} {k : aK} {st : List zO} {ls : zL} {ov : zV} {D : Nat → Option zC} {ms : List Nat} {pc : Nat}
theorem z_stk_no (h1 : 1 ≤ z_kd i) (h7 : z_kd i ≤ 7) : z_stk f nx i k st = none := by
  have c1 : s_con i k = none := by
    unfold s_con
    split <;> first
      | rfl
      | exact absurd h7 (show ¬ 8 ≤ 7 by decide)
      | exact absurd h1 (show ¬ 1 ≤ 0 by decide)
  have c2 : s_isu i = false := by
    unfold s_isu
    split <;> first
      | rfl
      | exact absurd h1 (show ¬ 1 ≤ 0 by decide)
  have c3 : ∀ t u, s_b i t u = 0 := by
    intro t u
    unfold s_b
    split <;> first
      | rfl
      | exact absurd h1 (show ¬ 1 ≤ 0 by decide)
  have c4 : ∀ a b, z_bin f nx i a b = none := fun a b => by
    unfold z_bin
    rw [if_pos (Or.inl (c3 _ _))]
  unfold z_stk
  rw [c1]
  dsimp only
  split
  · exact absurd h1 (show ¬ 1 ≤ 0 by decide)
  · exact absurd h1 (show ¬ 1 ≤ 0 by decide)
  · exact absurd h1 (show ¬ 1 ≤ 0 by decide)
  · rw [c2]
    rw [if_neg (by decide)]
    split
    · rw [c4]
    · rfl
theorem z_loc_no (h1 : 2 ≤ z_kd i) : z_loc f i ls st = none := by
  unfold z_loc
  split <;> first
    | rfl
    | exact absurd h1 (show ¬ 2 ≤ 1 by decide)
theorem z_inc_no (h1 : 3 ≤ z_kd i) : z_inc f nx i ls = none := by
  unfold z_inc
  split <;> first
    | rfl
    | exact absurd h1 (show ¬ 3 ≤ 2 by decide)
theorem z_jmp_no (h1 : 4 ≤ z_kd i) : z_jmp f i k pc st = none := by
  unfold z_jmp
  split <;> first
    | rfl
    | exact absurd h1 (show ¬ 4 ≤ 3 by decide)
    | exact absurd h1 (show ¬ 4 ≤ 0 by decide)
theorem z_hp_no (h1 : 5 ≤ z_kd i) : z_hp D ms f nx ov i k st = none := by
  unfold z_hp
  split <;> first
    | rfl
    | exact absurd h1 (show ¬ 5 ≤ 4 by decide)
    | exact absurd h1 (show ¬ 5 ≤ 0 by decide)
theorem z_tst_no (h1 : 6 ≤ z_kd i) : z_tst f i st = none := by
  unfold z_tst
  split <;> first
    | rfl
    | exact absurd h1 (show ¬ 6 ≤ 5 by decide)
theorem z_ret_no {r : Option FieldType} (h1 : z_kd i ≠ 6) : z_ret f i r st = none := by
  unfold z_ret
  split <;> first
    | rfl
    | exact absurd rfl h1
end ZF
noncomputable def z_st1 (D : Nat → Option zC) (ms : List Nat) (P : List aM) (cl : zCl) (c : zS) (i : Instr) (len : Nat) (k : aK) : Option (List zS) := match c with
  | (d, M, pc, ls, st, fs, ov, f, nx) => match z_kd i with
    | 1 => (match z_loc f i ls st with
      | some (ls', st') => some [(d, M, pc + len, ls', st', fs, ov, f, nx)]
      | none => z_step D ms P cl (d, M, pc, ls, st, fs, ov, f, nx))
    | 2 => (match z_inc f nx i ls with
      | some (ls', f', n') => some [(d, M, pc + len, ls', st, fs, ov, f', n')]
      | none => z_step D ms P cl (d, M, pc, ls, st, fs, ov, f, nx))
    | 3 => (match z_jmp f i k pc st with
      | some (pc', st') => some [(d, M, pc', ls, st', fs, ov, f, nx)]
      | none => z_step D ms P cl (d, M, pc, ls, st, fs, ov, f, nx))
    | 4 => (match z_hp D ms f nx ov i k st with
      | some (st', ov', f', n') => some [(d, M, pc + len, ls, st', fs, ov', f', n')]
      | none => z_step D ms P cl (d, M, pc, ls, st, fs, ov, f, nx))
    | 5 => (match z_tst f i st with
      | some (l, r) => some (l.map (fun q => (d, M, if q.1 then k.2.1 else pc + 3, ls, r, fs, ov, q.2, nx)))
      | none => z_step D ms P cl (d, M, pc, ls, st, fs, ov, f, nx))
    | 7 => (match z_inv D P f i k st with
      | some (M', as, rest) => (match d with
        | 0 => none
        | d' + 1 => (match cl d' k.2.1 as ov f nx with
          | some outs => some (outs.map (fun a => (d' + 1, M, pc + len, ls, a.1.toList ++ rest, fs, a.2.1, a.2.2.1, a.2.2.2)))
          | none => some [(d', M', 0, z_ent f as M'.2.2.1, [], (M, pc + len, ls, rest) :: fs, ov, f, nx)]))
      | none => z_step D ms P cl (d, M, pc, ls, st, fs, ov, f, nx))
    | 8 => (match s_con i k with
      | some w => some [(d, M, pc + len, ls, .inl w :: st, fs, ov, f, nx)]
      | none => z_step D ms P cl (d, M, pc, ls, st, fs, ov, f, nx))
    | _ => z_step D ms P cl (d, M, pc, ls, st, fs, ov, f, nx)
section ZG
variable {D : Nat → Option zC} {ms : List Nat} {P : List aM} {cl : zCl} {ct : zS → Bool} {rt : zA → Bool}
theorem z_st1_eq {d : Nat} {M : aM} {pc : Nat} {ls : zL} {st : List zO} {fs : List zFr} {ov : zV} {f : zF} {nx : Nat} {i : Instr} {len : Nat} {k : aK} (hl : M.2.2.2.2.2.lookup pc = some (i, len, k)) : z_st1 D ms P cl (d, M, pc, ls, st, fs, ov, f, nx) i len k = z_step D ms P cl (d, M, pc, ls, st, fs, ov, f, nx) := by
  unfold z_st1
  dsimp only
  split
  · rename_i hk
    split
    · rename_i e
      unfold z_step
      dsimp only
      rw [hl]
      dsimp only
      rw [z_stk_no (by omega) (by omega), e]
    · rfl
  · rename_i hk
    split
    · rename_i e
      unfold z_step
      dsimp only
      rw [hl]
      dsimp only
      rw [z_stk_no (by omega) (by omega), z_loc_no (by omega), e]
    · rfl
  · rename_i hk
    split
    · rename_i e
      unfold z_step
      dsimp only
      rw [hl]
      dsimp only
      rw [z_stk_no (by omega) (by omega), z_loc_no (by omega), z_inc_no (by omega), e]
    · rfl
  · rename_i hk
    split
    · rename_i e
      unfold z_step
      dsimp only
      rw [hl]
      dsimp only
      rw [z_stk_no (by omega) (by omega), z_loc_no (by omega), z_inc_no (by omega), z_jmp_no (by omega), e]
    · rfl
  · rename_i hk
    split
    · rename_i e
      unfold z_step
      dsimp only
      rw [hl]
      dsimp only
      rw [z_stk_no (by omega) (by omega), z_loc_no (by omega), z_inc_no (by omega), z_jmp_no (by omega), z_hp_no (by omega), e]
    · rfl
  · rename_i hk
    split
    · rename_i e
      unfold z_step
      dsimp only
      rw [hl]
      dsimp only
      rw [z_stk_no (by omega) (by omega), z_loc_no (by omega), z_inc_no (by omega), z_jmp_no (by omega), z_hp_no (by omega), z_tst_no (by omega), z_ret_no (by omega), e]
      rfl
    · rfl
  · rename_i hk
    split
    · rename_i w e
      unfold z_step
      dsimp only
      rw [hl]
      dsimp only
      rw [show z_stk f nx i k st = some (.inl w :: st, f, nx) by unfold z_stk; rw [e]]
    · rfl
  · rfl
noncomputable def z_run2 (D : Nat → Option zC) (ms : List Nat) (P : List aM) (cl : zCl) (ct : zS → Bool) (rt : zA → Bool) : Nat → zS → Bool
  | 0, _ => false
  | n + 1, c => cond (ct c) true (match z_fd c.2.1.2.2.2.2.2 c.2.2.1 with
    | none => false
    | some (i, len, k) => cond (Nat.beq (z_kd i) 6) (match z_fin c with
        | some a => rt a
        | none => (match z_step D ms P cl c with
          | none => false
          | some l => l.all (z_run2 D ms P cl ct rt n))) (match z_st1 D ms P cl c i len k with
        | none => false
        | some l => l.all (z_run2 D ms P cl ct rt n)))
theorem z_run2_eq : ∀ (n : Nat) (c : zS), z_run2 D ms P cl ct rt n c = z_run D ms P cl ct rt n c := by
  intro n
  induction n with
  | zero => intro c; rfl
  | succ n ih =>
    intro c
    have hf : z_run2 D ms P cl ct rt n = z_run D ms P cl ct rt n := funext ih
    obtain ⟨d, M, pc, ls, st, fs, ov, f, nx⟩ := c
    unfold z_run2 z_run
    rw [hf]
    cases hc : ct (d, M, pc, ls, st, fs, ov, f, nx) with
    | true => rfl
    | false =>
      rw [if_neg (by decide)]
      show (match z_fd M.2.2.2.2.2 pc with
        | none => false
        | some (i, len, k) => _) = _
      rw [z_fd_eq]
      cases hl : M.2.2.2.2.2.lookup pc with
      | none =>
        have e1 : z_fin (d, M, pc, ls, st, fs, ov, f, nx) = none := by
          cases fs with
          | nil =>
            unfold z_fin
            dsimp only
            rw [hl]
          | cons a r => rfl
        have e2 : z_step D ms P cl (d, M, pc, ls, st, fs, ov, f, nx) = none := by
          unfold z_step
          dsimp only
          rw [hl]
        rw [e1, e2]
      | some q =>
        obtain ⟨i, len, k⟩ := q
        dsimp only
        cases hk : Nat.beq (z_kd i) 6 with
        | true => rfl
        | false =>
          have e1 : z_fin (d, M, pc, ls, st, fs, ov, f, nx) = none := by
            cases fs with
            | nil =>
              unfold z_fin
              dsimp only
              rw [hl]
              dsimp only
              rw [z_ret_no (Nat.ne_of_beq_eq_false hk)]
            | cons a r => rfl
          rw [e1, z_st1_eq hl]
          rfl
end ZG
noncomputable def z_go2 (D : Nat → Option zC) (ms : List Nat) (P : List aM) (cl : zCl) (ct : zS → Bool) (rt : zA → Bool) (n : Nat) (c : zS) : Bool := match z_step D ms P cl c with
  | none => false
  | some l => l.all (z_run2 D ms P cl ct rt n)
theorem z_go2_eq {D : Nat → Option zC} {ms : List Nat} {P : List aM} {cl : zCl} {ct : zS → Bool} {rt : zA → Bool} {n : Nat} {c : zS} : z_go2 D ms P cl ct rt n c = z_go D ms P cl ct rt n c := by
  unfold z_go2 z_go
  rw [show z_run2 D ms P cl ct rt n = z_run D ms P cl ct rt n from funext (z_run2_eq n)]
  rfl
noncomputable def z_chk12 (D : Nat → Option zC) (P : List aM) (cl : zCl) (n : Nat) (Q : zQ) (M : aM) (cut : zCut) : Bool := z_mok cut.2.1.2.1.length cut.2.2 && decide (cut.2.2.length = Q.1.2.2.2) && decide (cut.2.1.1.length = cut.2.1.2.1.length) && (decide (cut.1 ≠ 0) || decide (Q.1.2.2.1 ≤ cut.2.1.2.1.length)) && z_go2 D Q.2.2.2 P cl (z_ctq D Q cut) (z_rtq D Q cut) n (z_tc Q.1.2.1 M cut.1 cut.2.1)
noncomputable def z_chk2 (D : Nat → Option zC) (P : List aM) (cl : zCl) (n : Nat) (Q : zQ) : Bool := match P[Q.1.1]? with
  | some M => Q.2.1.all (z_chk12 D P cl n Q M)
  | none => false
theorem z_chk2_ok {D : Nat → Option zC} {P : List aM} {cl : zCl} {n : Nat} {Q : zQ} (h : z_chk2 D P cl n Q = true) : z_chk D P cl n Q = true := by
  unfold z_chk2 at h
  unfold z_chk
  split at h
  · rename_i M hM
    rw [hM]
    dsimp only
    rw [show z_chk1 D P cl n Q M = z_chk12 D P cl n Q M from funext (fun cut => by
      unfold z_chk1 z_chk12
      rw [z_go2_eq])]
    exact h
  · cases h
end PT30z
