/-! ===== v3: the reference's simple calls ===== -/
theorem y_tsw_d {X : aX} {C S d : Nat} {K0 : Option Value → aH → Nat → Nat → Prop} {h : aH} {M : aM} {pc len t : Nat} {dd lo hi : Int} {offs : Array Int} {k : aK} {ls : aL} {x : Int32} (hl : M.2.2.2.2.2.lookup pc = some (.tableswitch dd lo hi offs, len, k)) (hx : x.toInt < lo ∨ hi < x.toInt) (ht : a_tgt pc dd = some t) (hk : aOK s_P X d M t ls [] h C S K0) : aOK s_P X d M pc ls [.int x] h C S K0 := by
  refine aOK_op0 (pc' := t) (ls' := ls) (st' := []) hl ?_ hk
  have e : a_br (.tableswitch dd lo hi offs) k pc [.int x] = some (t, []) := by
    unfold a_br
    dsimp only
    rw [if_pos hx, ht]
    rfl
  show (match a_br (.tableswitch dd lo hi offs) k pc [.int x] with
    | some (pc', st') => some (pc', ls, st', h, 0, 0)
    | none => _) = _
  rw [e]
theorem y_tsw_i {X : aX} {C S d : Nat} {K0 : Option Value → aH → Nat → Nat → Prop} {h : aH} {M : aM} {pc len t : Nat} {dd lo hi o : Int} {offs : Array Int} {k : aK} {ls : aL} {x : Int32} (hl : M.2.2.2.2.2.lookup pc = some (.tableswitch dd lo hi offs, len, k)) (hx : ¬ (x.toInt < lo ∨ hi < x.toInt)) (ho : offs[(x.toInt - lo).toNat]? = some o) (ht : a_tgt pc o = some t) (hk : aOK s_P X d M t ls [] h C S K0) : aOK s_P X d M pc ls [.int x] h C S K0 := by
  refine aOK_op0 (pc' := t) (ls' := ls) (st' := []) hl ?_ hk
  have e : a_br (.tableswitch dd lo hi offs) k pc [.int x] = some (t, []) := by
    unfold a_br
    dsimp only
    rw [if_neg hx, ho]
    dsimp only
    rw [ht]
    rfl
  show (match a_br (.tableswitch dd lo hi offs) k pc [.int x] with
    | some (pc', st') => some (pc', ls, st', h, 0, 0)
    | none => _) = _
  rw [e]
section WG
variable {X : aX} {C S d : Nat} {K0 : Option Value → aH → Nat → Nat → Prop}
theorem p_force {h : aH} (hr : w_hr z_D h) (hJ : y_J h) {a b : Int32} (hk : ∀ (r : Int32) (H : aH), y_fr h H [19584] [159] → 0 ≤ r.toInt → r.toInt ≤ 1 → K0 (some (.int r)) H C S) : aOK s_P X (d + 2) a_m180 0 [some (.ref 155), some (.int a), some (.int b)] [] h C S K0 := by
  obtain ⟨nd, sm, so, sa, s1, s2, s3, s4, s5⟩ := id hJ.2.2.2.2.1
  obtain ⟨b1, b2⟩ := y_ndb hr s1
  have T22 : ∀ {G : aH} {v : Nat}, y_fr h G [19584] [159] → a.toInt = v → v < 10 → -1 ≤ b.toInt → b.toInt ≤ 1 → aOK s_P X (d + 2) a_m180 22 [some (.ref 155), some (.int a), some (.int b)] [.int (y_01 true)] G C S K0 := by
    intro G v e hv v10 c1 c2
    refine w_go z_hl [] [] 30 e.1 ?_
    refine ⟨fun _ => ⟨⟨by omega, by omega⟩, ⟨by omega, by omega⟩, fun l hl len bb => ⟨by decide, fun H hH => hk _ H (y_st e hH (by repeat (first | exact w_nil | refine w_cons (Or.inl (y_m rfl)) ?_ | refine w_cons (Or.inr (by assumption)) ?_)) (by repeat (first | exact w_nil | refine w_cons (Or.inl (y_m rfl)) ?_ | refine w_cons (Or.inr (by assumption)) ?_))) (by decide) (by decide)⟩⟩, fun q => absurd q (by decide)⟩
  have T22n : ∀ {G : aH}, y_fr h G [19584] [159] → aOK s_P X (d + 2) a_m180 22 [some (.ref 155), some (.int a), some (.int b)] [.int (y_01 false)] G C S K0 := by
    intro G e
    refine w_go z_hl [] [] 30 e.1 ?_
    exact ⟨fun q => absurd q (by decide), fun _ => ⟨by decide, fun H hH => hk _ H (y_st e hH (by repeat (first | exact w_nil | refine w_cons (Or.inl (y_m rfl)) ?_ | refine w_cons (Or.inr (by assumption)) ?_)) (by repeat (first | exact w_nil | refine w_cons (Or.inl (y_m rfl)) ?_ | refine w_cons (Or.inr (by assumption)) ?_))) (by decide) (by decide)⟩⟩
  have T10 : ∀ {G : aH} {v : Nat}, y_fr h G [19584] [159] → a.toInt = v → v < 10 → aOK s_P X (d + 2) a_m180 10 [some (.ref 155), some (.int a), some (.int b)] [.int (y_01 true)] G C S K0 := by
    intro G v e hv v10
    refine w_go z_hl [] [176] 30 e.1 ?_
    refine ⟨fun q => absurd q (by decide), fun _ => fun H hH => ?_⟩
    have e2 := y_st e hH (by repeat (first | exact w_nil | refine w_cons (Or.inl (y_m rfl)) ?_ | refine w_cons (Or.inr (by assumption)) ?_)) (by repeat (first | exact w_nil | refine w_cons (Or.inl (y_m rfl)) ?_ | refine w_cons (Or.inr (by assumption)) ?_))
    refine q_in (v := b.toInt64) (lo := Int64.ofInt (-1)) (hi := Int64.ofNat 1) e2.1 (fun H3 h3 l1 l2 => ⟨fun n e => (by cases e), ?_⟩) (fun H3 h3 _ => ⟨fun n e => (by cases e), ?_⟩)
    · rw [y_i2l] at l1 l2
      exact T22 (y_sq e2 h3 rfl rfl) hv v10 l1 l2
    · exact T22n (y_sq e2 h3 rfl rfl)
  have T10n : ∀ {G : aH}, y_fr h G [19584] [159] → aOK s_P X (d + 2) a_m180 10 [some (.ref 155), some (.int a), some (.int b)] [.int (y_01 false)] G C S K0 := by
    intro G e
    refine w_go z_hl [] [] 30 e.1 ?_
    exact ⟨fun _ => ⟨by decide, fun H hH => hk _ H (y_st e hH (by repeat (first | exact w_nil | refine w_cons (Or.inl (y_m rfl)) ?_ | refine w_cons (Or.inr (by assumption)) ?_)) (by repeat (first | exact w_nil | refine w_cons (Or.inl (y_m rfl)) ?_ | refine w_cons (Or.inr (by assumption)) ?_))) (by decide) (by decide)⟩, fun q => absurd q (by decide)⟩
  refine w_go z_hl [] [178] 30 hr ?_
  refine ⟨rfl, y_zini (by decide) (by decide), fun H1 h1 => ?_⟩
  have e1 : y_fr h H1 [19584] [159] := y_st (y_mo (y_rf hr) rfl rfl) h1 (by repeat (first | exact w_nil | refine w_cons (Or.inl (y_m rfl)) ?_ | refine w_cons (Or.inr (by assumption)) ?_)) (by repeat (first | exact w_nil | refine w_cons (Or.inl (y_m rfl)) ?_ | refine w_cons (Or.inr (by assumption)) ?_))
  refine q_isNode (v := a) e1.1 ((y_fe e1 rfl).trans s1) (fun H2 v h2 hv hv2 _ => ⟨fun n e => (by cases e), ?_⟩) (fun H2 h2 => ⟨fun n e => (by cases e), ?_⟩)
  · exact T10 (y_sq e1 h2 rfl rfl) hv (by omega)
  · exact T10n (y_sq e1 h2 rfl rfl)
theorem p_cost {h : aH} (hr : w_hr z_D h) (hJ : y_J h) (hC : j_cost h) {a b : Int32} (hk : ∀ (r : Int32) (H : aH), y_fr h H [19584] [161] → j_cost H → K0 (some (.int r)) H C S) : aOK s_P X (d + 2) a_m206 0 [some (.ref 155), some (.int a), some (.int b), none] [] h C S K0 := by
  obtain ⟨nd, sm, so, sa, s1, s2, s3, s4, s5⟩ := id hJ.2.2.2.2.1
  obtain ⟨b1, b2⟩ := y_ndb hr s1
  have out : ∀ {G : aH} {r : Int32}, y_fr h G [19584] [] → K0 (some (.int r)) G C S := fun g => hk _ _ (y_mo g rfl rfl) (j_cost_e g rfl rfl hC)
  have T22 : ∀ {G : aH} {v : Nat}, y_fr h G [19584] [] → a.toInt = v → v < 10 → 1 ≤ b.toInt → b.toInt ≤ 99 → aOK s_P X (d + 2) a_m206 22 [some (.ref 155), some (.int a), some (.int b), none] [.int (y_01 true)] G C S K0 := by
    intro G v e hv v10 c1 c2
    refine w_go z_hl [] [] 30 e.1 ?_
    refine ⟨fun _ => ⟨⟨by omega, by omega⟩, fun l hl len bb => ⟨⟨by omega, by omega⟩, ⟨by omega, by omega⟩, fun H hH => ?_⟩⟩, fun q => absurd q (by decide)⟩
    have e2 : y_fr h H [19584] [161] := y_st (y_mo e rfl rfl) hH (by repeat (first | exact w_nil | refine w_cons (Or.inl (y_m rfl)) ?_ | refine w_cons (Or.inr (by assumption)) ?_)) (by repeat (first | exact w_nil | refine w_cons (Or.inl (y_m rfl)) ?_ | refine w_cons (Or.inr (by assumption)) ?_))
    obtain ⟨ndc, co', knc, kcc, x1, x2, x3, x4, x5, x6⟩ := id hC
    obtain rfl := y_ai ((y_ae e rfl).trans x2) hl
    refine hk _ H e2 ⟨ndc, _, knc, kcc, (y_fe e2 rfl).trans x1, hH.2.2.1 161 _ rfl, (y_ae e2 rfl).trans x3, (y_ae e2 rfl).trans x4, fun u hu => ?_, x6⟩
    rw [y_cl1 hv, y_Nset (by omega)]
    split
    · exact c1
    · exact x5 u hu
  have T22n : ∀ {G : aH}, y_fr h G [19584] [] → aOK s_P X (d + 2) a_m206 22 [some (.ref 155), some (.int a), some (.int b), none] [.int (y_01 false)] G C S K0 := by
    intro G e
    refine w_go z_hl [] [] 30 e.1 ?_
    exact ⟨fun q => absurd q (by decide), fun _ => fun H hH => out (y_st e hH (by repeat (first | exact w_nil | refine w_cons (Or.inl (y_m rfl)) ?_ | refine w_cons (Or.inr (by assumption)) ?_)) (by repeat (first | exact w_nil | refine w_cons (Or.inl (y_m rfl)) ?_ | refine w_cons (Or.inr (by assumption)) ?_)))⟩
  have T10 : ∀ {G : aH} {v : Nat}, y_fr h G [19584] [] → a.toInt = v → v < 10 → aOK s_P X (d + 2) a_m206 10 [some (.ref 155), some (.int a), some (.int b), none] [.int (y_01 true)] G C S K0 := by
    intro G v e hv v10
    refine w_go z_hl [] [176] 30 e.1 ?_
    refine ⟨fun q => absurd q (by decide), fun _ => fun H hH => ?_⟩
    have e2 := y_st e hH (by repeat (first | exact w_nil | refine w_cons (Or.inl (y_m rfl)) ?_ | refine w_cons (Or.inr (by assumption)) ?_)) (by repeat (first | exact w_nil | refine w_cons (Or.inl (y_m rfl)) ?_ | refine w_cons (Or.inr (by assumption)) ?_))
    refine q_in (v := b.toInt64) (lo := Int64.ofNat 1) (hi := Int64.ofInt 99) e2.1 (fun H3 h3 l1 l2 => ⟨fun n e => (by cases e), ?_⟩) (fun H3 h3 _ => ⟨fun n e => (by cases e), ?_⟩)
    · rw [y_i2l] at l1 l2
      rw [y_i64 (by decide) (by decide)] at l2
      exact T22 (y_sq e2 h3 rfl rfl) hv v10 l1 l2
    · exact T22n (y_sq e2 h3 rfl rfl)
  have T10n : ∀ {G : aH}, y_fr h G [19584] [] → aOK s_P X (d + 2) a_m206 10 [some (.ref 155), some (.int a), some (.int b), none] [.int (y_01 false)] G C S K0 := by
    intro G e
    refine w_go z_hl [] [] 30 e.1 ?_
    exact ⟨fun _ => fun H hH => out (y_st e hH (by repeat (first | exact w_nil | refine w_cons (Or.inl (y_m rfl)) ?_ | refine w_cons (Or.inr (by assumption)) ?_)) (by repeat (first | exact w_nil | refine w_cons (Or.inl (y_m rfl)) ?_ | refine w_cons (Or.inr (by assumption)) ?_))), fun q => absurd q (by decide)⟩
  refine w_go z_hl [] [178] 30 hr ?_
  refine ⟨rfl, y_zini (by decide) (by decide), fun H1 h1 => ?_⟩
  have e1 : y_fr h H1 [19584] [] := y_st (y_mo (y_rf hr) rfl rfl) h1 (by repeat (first | exact w_nil | refine w_cons (Or.inl (y_m rfl)) ?_ | refine w_cons (Or.inr (by assumption)) ?_)) (by repeat (first | exact w_nil | refine w_cons (Or.inl (y_m rfl)) ?_ | refine w_cons (Or.inr (by assumption)) ?_))
  refine q_isNode (v := a) e1.1 ((y_fe e1 rfl).trans s1) (fun H2 v h2 hv hv2 _ => ⟨fun n e => (by cases e), ?_⟩) (fun H2 h2 => ⟨fun n e => (by cases e), ?_⟩)
  · exact T10 (y_sq e1 h2 rfl rfl) hv (by omega)
  · exact T10n (y_sq e1 h2 rfl rfl)
theorem y_sign_loop {a tI : Int32} (t0 : 0 ≤ tI.toInt) (t56 : tI.toInt ≤ 56) : ∀ (m : Nat) (h : aH) (kI : Int32) (k : Nat), w_hr z_D h → w_f h 19612 = some (.int tI) → kI.toInt = k → k + m = 4 → (∀ (r : Int32) (H : aH), y_fr h H [19612] [171] → K0 (some (.int r)) H C S) → aOK s_P X d a_m219 18 [some (.ref 155), some (.int a), some (.int kI)] [] h C S K0 := by
  intro m
  induction m with
  | zero =>
    intro h kI k hr g hk hm hK
    have inc : (tI + Int32.ofInt 4).toInt = tI.toInt + 4 := by
      rw [Int32.toInt_add, show (Int32.ofInt 4).toInt = 4 by decide]
      exact Int.bmod_eq_of_le (by omega) (by omega)
    refine w_go z_hl [18] [] 40 hr ?_
    refine ⟨fun _ => ?_, fun q => ?_⟩
    · intro x hx _ _
      obtain rfl := y_fi g hx
      exact ⟨rfl, y_zini (by show 0 ≤ (tI + Int32.ofInt 4).toInt; omega) (by show (tI + Int32.ofInt 4).toInt ≤ 60; omega), fun H hH => hK _ H (y_st (y_mo (y_rf hr) rfl rfl) hH (by repeat (first | exact w_nil | refine w_cons (Or.inl (y_m rfl)) ?_ | refine w_cons (Or.inr (by assumption)) ?_)) (by repeat (first | exact w_nil | refine w_cons (Or.inl (y_m rfl)) ?_ | refine w_cons (Or.inr (by assumption)) ?_)))⟩
    · have : ¬ ((Int32.ofInt 4).toInt ≤ kI.toInt) := y_cif q
      rw [show (Int32.ofInt 4).toInt = 4 by decide] at this
      omega
  | succ m ih =>
    intro h kI k hr g hk hm hK
    have ink : (kI + Int32.ofInt 1).toInt = ((k + 1 : Nat) : Int) := by rw [y_inc (by omega), hk]; rfl
    have tk : (tI + kI).toInt = tI.toInt + k := by
      rw [Int32.toInt_add, hk]
      exact Int.bmod_eq_of_le (by omega) (by omega)
    have bx : 0 ≤ (tI + kI).toInt ∧ (tI + kI).toInt < ((60 : Nat) : Int) := by omega
    have b255 : ∀ x : Int32, 0 ≤ (x &&& (Int16.ofInt 255).toInt32).toInt ∧ (x &&& (Int16.ofInt 255).toInt32).toInt ≤ 255 := fun x => by
      have := z_t_and (x := x) (y := (Int16.ofInt 255).toInt32) (by decide)
      rw [show ((Int16.ofInt 255).toInt32).toInt = 255 by decide] at this
      exact this
    refine w_go z_hl [18] [] 40 hr ?_
    refine ⟨fun q => ?_, fun _ => ?_⟩
    · have : (Int32.ofInt 4).toInt ≤ kI.toInt := (y_ci .ge _ _).mp q
      rw [show (Int32.ofInt 4).toInt = 4 by decide] at this
      omega
    · intro x hx _ _
      obtain rfl := y_fi g hx
      refine ⟨bx, b255 _, fun l hl len bb => fun H hH => ?_⟩
      have e : y_fr h H [] [171] := y_st (y_mo (y_rf hr) rfl rfl) hH (by repeat (first | exact w_nil | refine w_cons (Or.inl (y_m rfl)) ?_ | refine w_cons (Or.inr (by assumption)) ?_)) (by repeat (first | exact w_nil | refine w_cons (Or.inl (y_m rfl)) ?_ | refine w_cons (Or.inr (by assumption)) ?_))
      exact ih H _ (k + 1) e.1 ((y_fe e rfl).trans g) ink (by omega) (fun r H' f => hK r H' (y_sq (y_mo e rfl rfl) f rfl rfl))
theorem p_sign {h : aH} (hr : w_hr z_D h) {a : Int32} (hk : ∀ (r : Int32) (H : aH), y_fr h H [19584, 19612] [171] → K0 (some (.int r)) H C S) : aOK s_P X d a_m219 0 [some (.ref 155), some (.int a), none] [] h C S K0 := by
  refine w_go z_hl [18] [] 40 hr ?_
  refine ⟨rfl, y_zini (by decide) (by decide), ?_⟩
  intro x hx x0 x60
  refine ⟨fun q => fun H hH => ?_, fun _ => fun H hH => hk _ H (y_st (y_mo (y_rf hr) rfl rfl) hH (by repeat (first | exact w_nil | refine w_cons (Or.inl (y_m rfl)) ?_ | refine w_cons (Or.inr (by assumption)) ?_)) (by repeat (first | exact w_nil | refine w_cons (Or.inl (y_m rfl)) ?_ | refine w_cons (Or.inr (by assumption)) ?_)))⟩
  have q2 : x.toInt ≤ ((Int8.ofInt 56).toInt32).toInt := (y_ci .le _ _).mp q
  rw [show ((Int8.ofInt 56).toInt32).toInt = 56 by decide] at q2
  have e : y_fr h H [19584, 19612] [171] := y_st (y_mo (y_rf hr) rfl rfl) hH (by repeat (first | exact w_nil | refine w_cons (Or.inl (y_m rfl)) ?_ | refine w_cons (Or.inr (by assumption)) ?_)) (by repeat (first | exact w_nil | refine w_cons (Or.inl (y_m rfl)) ?_ | refine w_cons (Or.inr (by assumption)) ?_))
  have e0 : y_fr h H [19584] [] := y_st (y_mo (y_rf hr) rfl rfl) hH (by repeat (first | exact w_nil | refine w_cons (Or.inl (y_m rfl)) ?_ | refine w_cons (Or.inr (by assumption)) ?_)) (by repeat (first | exact w_nil | refine w_cons (Or.inl (y_m rfl)) ?_ | refine w_cons (Or.inr (by assumption)) ?_))
  exact y_sign_loop x0 q2 4 H _ 0 e.1 ((y_fe e0 rfl).trans hx) rfl rfl (fun r H' f => hk r H' (y_sq e f rfl rfl))
theorem p_end {h : aH} (hr : w_hr z_D h) {a : Int32} (hk : ∀ (r : Int32) (H : aH), y_fr h H [19584, 19612] [] → 0 ≤ r.toInt → r.toInt ≤ 1 → K0 (some (.int r)) H C S) : aOK s_P X (d + 1) a_m220 0 [some (.ref 155), some (.int a)] [] h C S K0 := by
  have T16 : ∀ {G : aH}, y_fr h G [19584, 19612] [] → 0 ≤ a.toInt → a.toInt ≤ 60 → aOK s_P X (d + 1) a_m220 16 [some (.ref 155), some (.int a)] [.int (y_01 true)] G C S K0 := by
    intro G e a0 a6
    refine w_go z_hl [] [] 30 e.1 ?_
    exact ⟨fun _ => ⟨rfl, y_zini a0 a6, by decide, fun H hH => hk _ H (y_st e hH (by repeat (first | exact w_nil | refine w_cons (Or.inl (y_m rfl)) ?_ | refine w_cons (Or.inr (by assumption)) ?_)) (by repeat (first | exact w_nil | refine w_cons (Or.inl (y_m rfl)) ?_ | refine w_cons (Or.inr (by assumption)) ?_))) (by decide) (by decide)⟩, fun q => absurd q (by decide)⟩
  have T16n : ∀ {G : aH}, y_fr h G [19584, 19612] [] → aOK s_P X (d + 1) a_m220 16 [some (.ref 155), some (.int a)] [.int (y_01 false)] G C S K0 := by
    intro G e
    refine w_go z_hl [] [] 30 e.1 ?_
    exact ⟨fun q => absurd q (by decide), fun _ => ⟨by decide, fun H hH => hk _ H (y_st e hH (by repeat (first | exact w_nil | refine w_cons (Or.inl (y_m rfl)) ?_ | refine w_cons (Or.inr (by assumption)) ?_)) (by repeat (first | exact w_nil | refine w_cons (Or.inl (y_m rfl)) ?_ | refine w_cons (Or.inr (by assumption)) ?_))) (by decide) (by decide)⟩⟩
  refine w_go z_hl [] [176] 30 hr ?_
  refine ⟨rfl, y_zini (by decide) (by decide), ?_⟩
  intro x hx x0 x60
  intro H hH
  have e : y_fr h H [19584, 19612] [] := y_st (y_mo (y_rf hr) rfl rfl) hH (by repeat (first | exact w_nil | refine w_cons (Or.inl (y_m rfl)) ?_ | refine w_cons (Or.inr (by assumption)) ?_)) (by repeat (first | exact w_nil | refine w_cons (Or.inl (y_m rfl)) ?_ | refine w_cons (Or.inr (by assumption)) ?_))
  refine q_in (v := a.toInt64) (lo := Int64.ofNat 0) (hi := x.toInt64) e.1 (fun H3 h3 l1 l2 => ⟨fun n e => (by cases e), ?_⟩) (fun H3 h3 _ => ⟨fun n e => (by cases e), ?_⟩)
  · rw [y_i2l] at l1
    rw [y_i2l, y_i2l] at l2
    have x60' : x.toInt ≤ 60 := x60
    exact T16 (y_sq e h3 rfl rfl) l1 (by omega)
  · exact T16n (y_sq e h3 rfl rfl)
theorem p_row {h : aH} (hr : w_hr z_D h) {a : Int32} (hk : ∀ (r : Int64) (H : aH), y_fr h H [19584] [] → K0 (some (.long r)) H C S) : aOK s_P X (d + 1) a_m287 0 [some (.ref 155), some (.int a)] [] h C S K0 := by
  have T18 : ∀ {G : aH}, y_fr h G [19584] [] → 0 ≤ a.toInt → a.toInt ≤ 7 → aOK s_P X (d + 1) a_m287 18 [some (.ref 155), some (.int a)] [.int (y_01 true)] G C S K0 := by
    intro G e a0 a6
    refine w_go z_hl [] [] 30 e.1 ?_
    exact ⟨fun _ => ⟨⟨by omega, by omega⟩, fun l hl len bb => fun H hH => hk _ H (y_st e hH (by repeat (first | exact w_nil | refine w_cons (Or.inl (y_m rfl)) ?_ | refine w_cons (Or.inr (by assumption)) ?_)) (by repeat (first | exact w_nil | refine w_cons (Or.inl (y_m rfl)) ?_ | refine w_cons (Or.inr (by assumption)) ?_)))⟩, fun q => absurd q (by decide)⟩
  have T18n : ∀ {G : aH}, y_fr h G [19584] [] → aOK s_P X (d + 1) a_m287 18 [some (.ref 155), some (.int a)] [.int (y_01 false)] G C S K0 := by
    intro G e
    refine w_go z_hl [] [] 30 e.1 ?_
    exact ⟨fun q => absurd q (by decide), fun _ => ⟨rfl, y_zini (by decide) (by decide), fun H hH => hk _ H (y_st e hH (by repeat (first | exact w_nil | refine w_cons (Or.inl (y_m rfl)) ?_ | refine w_cons (Or.inr (by assumption)) ?_)) (by repeat (first | exact w_nil | refine w_cons (Or.inl (y_m rfl)) ?_ | refine w_cons (Or.inr (by assumption)) ?_)))⟩⟩
  refine w_go z_hl [] [176] 30 hr ?_
  refine ⟨rfl, y_zini (by decide) (by decide), ?_⟩
  intro x hx x0 x8
  intro H hH
  have e : y_fr h H [19584] [] := y_st (y_mo (y_rf hr) rfl rfl) hH (by repeat (first | exact w_nil | refine w_cons (Or.inl (y_m rfl)) ?_ | refine w_cons (Or.inr (by assumption)) ?_)) (by repeat (first | exact w_nil | refine w_cons (Or.inl (y_m rfl)) ?_ | refine w_cons (Or.inr (by assumption)) ?_))
  have x0' : 0 ≤ x.toInt := x0
  have x8' : x.toInt ≤ 8 := x8
  refine q_in (v := a.toInt64) (lo := Int64.ofNat 0) (hi := (x - Int32.ofInt 1).toInt64) e.1 (fun H3 h3 l1 l2 => ⟨fun n e => (by cases e), ?_⟩) (fun H3 h3 _ => ⟨fun n e => (by cases e), ?_⟩)
  · rw [y_i2l] at l1
    rw [y_i2l, y_i2l, y_sub1 x0'] at l2
    exact T18 (y_sq e h3 rfl rfl) l1 (by omega)
  · exact T18n (y_sq e h3 rfl rfl)
theorem p_day {h : aH} (hr : w_hr z_D h) {a b c : Int32} (a0 : 0 ≤ a.toInt) (a1 : a.toInt ≤ 1) (b0 : 0 ≤ b.toInt) (b1 : b.toInt ≤ 1) (c0 : 0 ≤ c.toInt) (c1 : c.toInt ≤ 1) (hk : ∀ (r : Int32) (H : aH), y_fr h H [19584, 19643] [184, 185, 186] → K0 (some (.int r)) H C S) : aOK s_P X d a_m273 0 [some (.ref 155), some (.int a), some (.int b), some (.int c)] [] h C S K0 := by
  have e0 : y_fr h h [19584, 19643] [184, 185, 186] := y_mo (y_rf hr) rfl rfl
  have T24 : ∀ {G : aH} {x : Int32}, y_fr h G [19584, 19643] [184, 185, 186] → w_f G 19643 = some (.int x) → 0 ≤ x.toInt → x.toInt ≤ 29 → aOK s_P X d a_m273 24 [some (.ref 155), some (.int a), some (.int b), some (.int c)] [] G C S K0 := by
    intro G x e g x0 x29
    have inc : (x + Int32.ofInt 1).toInt = x.toInt + 1 := y_inc (by omega)
    refine w_go z_hl [] [] 60 e.1 ?_
    intro y hy _ _
    obtain rfl := y_fi g hy
    refine ⟨⟨by omega, by omega⟩, ⟨a0, a1, a0, a1⟩, fun l1 _ _ _ => ⟨⟨by omega, by omega⟩, ⟨b0, b1, b0, b1⟩, fun l2 _ _ _ => ⟨⟨by omega, by omega⟩, ⟨c0, c1, c0, c1⟩, fun l3 _ _ _ => ?_⟩⟩⟩
    exact ⟨rfl, y_zini (by show 0 ≤ (x + Int32.ofInt 1).toInt; omega) (by show (x + Int32.ofInt 1).toInt ≤ 30; omega), fun H hH => hk _ H (y_st e hH (by repeat (first | exact w_nil | refine w_cons (Or.inl (y_m rfl)) ?_ | refine w_cons (Or.inr (by assumption)) ?_)) (by repeat (first | exact w_nil | refine w_cons (Or.inl (y_m rfl)) ?_ | refine w_cons (Or.inr (by assumption)) ?_)))⟩
  refine w_go z_hl [24] [] 40 hr ?_
  refine ⟨rfl, y_zini (by decide) (by decide), ?_⟩
  intro x hx x0 x30
  have x0' : 0 ≤ x.toInt := x0
  have x30' : x.toInt ≤ 30 := x30
  refine ⟨fun _ => fun H hH => hk _ H (y_st e0 hH (by repeat (first | exact w_nil | refine w_cons (Or.inl (y_m rfl)) ?_ | refine w_cons (Or.inr (by assumption)) ?_)) (by repeat (first | exact w_nil | refine w_cons (Or.inl (y_m rfl)) ?_ | refine w_cons (Or.inr (by assumption)) ?_))), fun q => ?_⟩
  have q2 : ¬ (x.toInt = ((Int8.ofInt 30).toInt32).toInt) := y_cif q
  rw [show ((Int8.ofInt 30).toInt32).toInt = 30 by decide] at q2
  have go : ∀ {H : aH}, w_rel z_D h [(19643, .int x), (19584, .int (Int32.ofInt 0))] [] H → aOK s_P X d a_m273 24 [some (.ref 155), some (.int a), some (.int b), some (.int c)] [] H C S K0 := fun hH => T24 (y_st e0 hH (by repeat (first | exact w_nil | refine w_cons (Or.inl (y_m rfl)) ?_ | refine w_cons (Or.inr (by assumption)) ?_)) (by repeat (first | exact w_nil | refine w_cons (Or.inl (y_m rfl)) ?_ | refine w_cons (Or.inr (by assumption)) ?_))) (hH.2.1 19643 _ rfl) x0' (by omega)
  exact ⟨fun _ => fun H hH => go hH, fun _ => ⟨fun _ => fun H hH => go hH, fun _ => fun H hH => hk _ H (y_st e0 hH (by repeat (first | exact w_nil | refine w_cons (Or.inl (y_m rfl)) ?_ | refine w_cons (Or.inr (by assumption)) ?_)) (by repeat (first | exact w_nil | refine w_cons (Or.inl (y_m rfl)) ?_ | refine w_cons (Or.inr (by assumption)) ?_)))⟩⟩
theorem p_head {h : aH} (hr : w_hr z_D h) {a b : Int32} (hk : ∀ (r : Int32) (H : aH), y_fr h H [19584, 19625] [177, 178] → K0 (some (.int r)) H C S) : aOK s_P X (d + 1) a_m255 0 [some (.ref 155), some (.int a), some (.int b)] [] h C S K0 := by
  have T40 : ∀ {G : aH} {x : Int32}, y_fr h G [19584, 19625] [177, 178] → w_f G 19625 = some (.int x) → 0 ≤ x.toInt → x.toInt ≤ 5 → 0 ≤ a.toInt → a.toInt ≤ 31 → 1 ≤ b.toInt → b.toInt ≤ 99 → aOK s_P X (d + 1) a_m255 40 [some (.ref 155), some (.int a), some (.int b)] [] G C S K0 := by
    intro G x e g x0 x5 a0 a1 b0 b1
    have inc : (x + Int32.ofInt 1).toInt = x.toInt + 1 := y_inc (by omega)
    refine w_go z_hl [] [] 60 e.1 ?_
    intro y hy _ _
    obtain rfl := y_fi g hy
    refine ⟨⟨by omega, by omega⟩, ⟨by omega, by omega⟩, fun l1 _ _ _ => ⟨⟨by omega, by omega⟩, ⟨by omega, by omega⟩, fun l2 _ _ _ => ?_⟩⟩
    exact ⟨rfl, y_zini (by show 0 ≤ (x + Int32.ofInt 1).toInt; omega) (by show (x + Int32.ofInt 1).toInt ≤ 6; omega), fun H hH => hk _ H (y_st e hH (by repeat (first | exact w_nil | refine w_cons (Or.inl (y_m rfl)) ?_ | refine w_cons (Or.inr (by assumption)) ?_)) (by repeat (first | exact w_nil | refine w_cons (Or.inl (y_m rfl)) ?_ | refine w_cons (Or.inr (by assumption)) ?_)))⟩
  have T26 : ∀ {G : aH}, y_fr h G [19584] [] → 0 ≤ a.toInt → a.toInt ≤ 31 → 1 ≤ b.toInt → b.toInt ≤ 99 → aOK s_P X (d + 1) a_m255 26 [some (.ref 155), some (.int a), some (.int b)] [.int (y_01 true)] G C S K0 := by
    intro G e a0 a1 b0 b1
    refine w_go z_hl [40] [] 40 e.1 ?_
    refine ⟨fun q => absurd q (by decide), fun _ => ?_⟩
    intro x hx x0 x6
    have x0' : 0 ≤ x.toInt := x0
    have x6' : x.toInt ≤ 6 := x6
    refine ⟨fun q => fun H hH => ?_, fun _ => fun H hH => hk _ H (y_st (y_mo e rfl rfl) hH (by repeat (first | exact w_nil | refine w_cons (Or.inl (y_m rfl)) ?_ | refine w_cons (Or.inr (by assumption)) ?_)) (by repeat (first | exact w_nil | refine w_cons (Or.inl (y_m rfl)) ?_ | refine w_cons (Or.inr (by assumption)) ?_)))⟩
    have q2 : x.toInt ≠ ((Int8.ofInt 6).toInt32).toInt := (y_ci .ne _ _).mp q
    rw [y_c6] at q2
    exact T40 (y_st (y_mo e rfl rfl) hH (by repeat (first | exact w_nil | refine w_cons (Or.inl (y_m rfl)) ?_ | refine w_cons (Or.inr (by assumption)) ?_)) (by repeat (first | exact w_nil | refine w_cons (Or.inl (y_m rfl)) ?_ | refine w_cons (Or.inr (by assumption)) ?_))) (hH.2.1 19625 _ rfl) x0' (by omega) a0 a1 b0 b1
  have T26n : ∀ {G : aH}, y_fr h G [19584] [] → aOK s_P X (d + 1) a_m255 26 [some (.ref 155), some (.int a), some (.int b)] [.int (y_01 false)] G C S K0 := by
    intro G e
    refine w_go z_hl [] [] 40 e.1 ?_
    exact ⟨fun _ => fun H hH => hk _ H (y_st (y_mo e rfl rfl) hH (by repeat (first | exact w_nil | refine w_cons (Or.inl (y_m rfl)) ?_ | refine w_cons (Or.inr (by assumption)) ?_)) (by repeat (first | exact w_nil | refine w_cons (Or.inl (y_m rfl)) ?_ | refine w_cons (Or.inr (by assumption)) ?_))), fun q => absurd q (by decide)⟩
  have T14 : ∀ {G : aH}, y_fr h G [19584] [] → 0 ≤ a.toInt → a.toInt ≤ 31 → aOK s_P X (d + 1) a_m255 14 [some (.ref 155), some (.int a), some (.int b)] [.int (y_01 true)] G C S K0 := by
    intro G e a0 a1
    refine w_go z_hl [] [176] 40 e.1 ?_
    refine ⟨fun q => absurd q (by decide), fun _ => fun H hH => ?_⟩
    have e2 := y_st e hH (by repeat (first | exact w_nil | refine w_cons (Or.inl (y_m rfl)) ?_ | refine w_cons (Or.inr (by assumption)) ?_)) (by repeat (first | exact w_nil | refine w_cons (Or.inl (y_m rfl)) ?_ | refine w_cons (Or.inr (by assumption)) ?_))
    refine q_in (v := b.toInt64) (lo := Int64.ofNat 1) (hi := Int64.ofInt 99) e2.1 (fun H3 h3 l1 l2 => ⟨fun n e => (by cases e), ?_⟩) (fun H3 h3 _ => ⟨fun n e => (by cases e), ?_⟩)
    · rw [y_i2l] at l1 l2
      rw [y_i64 (by decide) (by decide)] at l2
      exact T26 (y_sq e2 h3 rfl rfl) a0 a1 l1 l2
    · exact T26n (y_sq e2 h3 rfl rfl)
  have T14n : ∀ {G : aH}, y_fr h G [19584] [] → aOK s_P X (d + 1) a_m255 14 [some (.ref 155), some (.int a), some (.int b)] [.int (y_01 false)] G C S K0 := by
    intro G e
    refine w_go z_hl [] [] 40 e.1 ?_
    exact ⟨fun _ => fun H hH => hk _ H (y_st (y_mo e rfl rfl) hH (by repeat (first | exact w_nil | refine w_cons (Or.inl (y_m rfl)) ?_ | refine w_cons (Or.inr (by assumption)) ?_)) (by repeat (first | exact w_nil | refine w_cons (Or.inl (y_m rfl)) ?_ | refine w_cons (Or.inr (by assumption)) ?_))), fun q => absurd q (by decide)⟩
  refine w_go z_hl [] [176] 30 hr ?_
  refine ⟨rfl, y_zini (by decide) (by decide), fun H hH => ?_⟩
  have e : y_fr h H [19584] [] := y_st (y_mo (y_rf hr) rfl rfl) hH (by repeat (first | exact w_nil | refine w_cons (Or.inl (y_m rfl)) ?_ | refine w_cons (Or.inr (by assumption)) ?_)) (by repeat (first | exact w_nil | refine w_cons (Or.inl (y_m rfl)) ?_ | refine w_cons (Or.inr (by assumption)) ?_))
  refine q_in (v := a.toInt64) (lo := Int64.ofNat 0) (hi := Int64.ofInt 31) e.1 (fun H3 h3 l1 l2 => ⟨fun n e => (by cases e), ?_⟩) (fun H3 h3 _ => ⟨fun n e => (by cases e), ?_⟩)
  · rw [y_i2l] at l1 l2
    rw [y_i64 (by decide) (by decide)] at l2
    exact T14 (y_sq e h3 rfl rfl) l1 l2
  · exact T14n (y_sq e h3 rfl rfl)
end WG
