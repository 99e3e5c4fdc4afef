/-! ===== v3: the reference's thingEnd, isJoined, alone ===== -/
section WG
variable {X : aX} {C S d : Nat} {K0 : Option Value → aH → Nat → Nat → Prop} {sg : List Int32}
theorem y_thingEnd_loop {rI fI tI : Int32} {r k0 till e0 : Nat} (h1 : rI.toInt = r) (r11 : r ≤ 11) (h3 : tI.toInt = till) (t40 : till ≤ 40) (ke : k0 ≤ e0) (et : e0 ≤ till) (no : ∀ j, k0 + j < e0 → y_tx sg r (k0 + j) = 38 → 1 ≤ y_dp (y_tx sg r) k0 j) (at0 : y_dp (y_tx sg r) k0 (e0 - k0) = 0) (ed : e0 = till ∨ y_tx sg r e0 = 38) : ∀ (m : Nat) (h : aH) (dI kI : Int32) (j : Nat) (o6 : Option Value), w_hr z_D h → w_a h 170 = some (0, .inl sg) → kI.toInt = ((k0 + j : Nat) : Int) → k0 + j + m = e0 → dI.toInt = y_dp (y_tx sg r) k0 j → -(j : Int) ≤ dI.toInt → dI.toInt ≤ j →
    (∀ (eI : Int32) (H : aH), y_fr h H [] [] → eI.toInt = e0 → K0 (some (.int eI)) H C S) →
    aOK s_P X (d + 1) a_m245 6 [some (.ref 155), some (.int rI), some (.int fI), some (.int tI), some (.int dI), some (.int kI), o6] [] h C S K0 := by
  have c40 : ((Int8.ofInt 40).toInt32).toInt = 40 := by decide
  have c41 : ((Int8.ofInt 41).toInt32).toInt = 41 := by decide
  have c38 : ((Int8.ofInt 38).toInt32).toInt = 38 := by decide
  have z0 : (0 : Int32).toInt = 0 := by decide
  intro m
  induction m with
  | zero =>
    intro h dI kI j o6 hr g hk hm hd d1 d2 hK
    have ej : e0 = k0 + j := by omega
    have dz : dI.toInt = 0 := by rw [hd, ← at0, show e0 - k0 = j by omega]
    refine w_go z_hl [6] [] 60 hr ?_
    refine ⟨fun _ => fun H hH => hK kI H (y_st (y_rf hr) hH (by repeat (first | exact w_nil | refine w_cons (Or.inl (y_m rfl)) ?_ | refine w_cons (Or.inr (by assumption)) ?_)) (by repeat (first | exact w_nil | refine w_cons (Or.inl (y_m rfl)) ?_ | refine w_cons (Or.inr (by assumption)) ?_))) (by omega), fun q => ?_⟩
    have q1 : ¬ (tI.toInt ≤ kI.toInt) := y_cif q
    have h38 : y_tx sg r e0 = 38 := by
      rcases ed with x | x
      · omega
      · exact x
    have ix : ((Int8.ofInt 40).toInt32 * rI + kI).toInt = ((40 * r + (k0 + j) : Nat) : Int) := y_addS _ (y_mulS _ y_c40 h1 rfl (by omega)) hk rfl (by omega)
    have cx := y_cl1 ix
    have bx : 0 ≤ ((Int8.ofInt 40).toInt32 * rI + kI).toInt ∧ ((Int8.ofInt 40).toInt32 * rI + kI).toInt < ((520 : Nat) : Int) := by omega
    refine ⟨fun q2 => ?_, fun q2 => ?_⟩
    · have q3 : (0 : Int32).toInt < dI.toInt := (y_ci .gt _ _).mp q2
      omega
    · refine ⟨bx, fun l hl len bb => ?_⟩
      obtain rfl := y_ai g hl
      refine ⟨fun _ => fun H hH => hK kI H (y_st (y_rf hr) hH (by repeat (first | exact w_nil | refine w_cons (Or.inl (y_m rfl)) ?_ | refine w_cons (Or.inr (by assumption)) ?_)) (by repeat (first | exact w_nil | refine w_cons (Or.inl (y_m rfl)) ?_ | refine w_cons (Or.inr (by assumption)) ?_))) (by omega), fun q3 => ?_⟩
      have q4 : ¬ ((sg.getD ((Int8.ofInt 40).toInt32 * rI + kI).toNatClampNeg 0).toInt = ((Int8.ofInt 38).toInt32).toInt) := y_cif q3
      rw [cx, c38] at q4
      rw [ej] at h38
      exact absurd h38 q4
  | succ m ih =>
    intro h dI kI j o6 hr g hk hm hd d1 d2 hK
    have ix : ((Int8.ofInt 40).toInt32 * rI + kI).toInt = ((40 * r + (k0 + j) : Nat) : Int) := y_addS _ (y_mulS _ y_c40 h1 rfl (by omega)) hk rfl (by omega)
    have cx := y_cl1 ix
    have bx : 0 ≤ ((Int8.ofInt 40).toInt32 * rI + kI).toInt ∧ ((Int8.ofInt 40).toInt32 * rI + kI).toInt < ((520 : Nat) : Int) := by omega
    have ink : (kI + Int32.ofInt 1).toInt = ((k0 + (j + 1) : Nat) : Int) := by rw [y_inc (by omega), hk]; omega
    have next : ∀ {G : aH} {d' : Int32} {o6 : Option Value}, y_fr h G [] [] → d'.toInt = dI.toInt + (if y_tx sg r (k0 + j) = 40 then 1 else 0) - (if y_tx sg r (k0 + j) = 41 then 1 else 0) → aOK s_P X (d + 1) a_m245 6 [some (.ref 155), some (.int rI), some (.int fI), some (.int tI), some (.int d'), some (.int (kI + Int32.ofInt 1)), o6] [] G C S K0 := by
      intro G d' o6 e hd'
      have hd2 : d'.toInt = y_dp (y_tx sg r) k0 (j + 1) := by
        rw [hd', hd]
        rfl
      refine ih G _ _ (j + 1) _ e.1 ((y_ae e rfl).trans g) ink (by omega) hd2 ?_ ?_ (fun eI H f x => hK eI H (y_sq e f rfl rfl) x)
      · rw [hd']
        split <;> split <;> omega
      · rw [hd']
        split <;> split <;> omega
    have T34 : ∀ {G : aH}, y_fr h G [] [] → aOK s_P X (d + 1) a_m245 34 [some (.ref 155), some (.int rI), some (.int fI), some (.int tI), some (.int dI), some (.int kI), o6] [] G C S K0 := by
      intro G e
      refine w_go z_hl [6] [] 60 e.1 ?_
      refine ⟨bx, fun l hl len bb => ?_⟩
      obtain rfl := y_ai ((y_ae e rfl).trans g) hl
      have ec : (sg.getD ((Int8.ofInt 40).toInt32 * rI + kI).toNatClampNeg 0).toInt = y_tx sg r (k0 + j) := by rw [cx]; rfl
      have v : ∀ {a b : Int32}, 0 ≤ a.toInt → a.toInt ≤ 1 → 0 ≤ b.toInt → b.toInt ≤ 1 → (dI + (a - b)).toInt = dI.toInt + a.toInt - b.toInt := by
        intro a b a0 a1 b0 b1
        rw [Int32.toInt_add, Int32.toInt_sub, Int.bmod_eq_of_le (n := a.toInt - b.toInt) (by omega) (by omega), Int.bmod_eq_of_le (by omega) (by omega)]
        omega
      refine ⟨fun q1 => ⟨fun _ => ⟨fun q2 => ⟨fun _ => fun H hH => next (y_st e hH (by repeat (first | exact w_nil | refine w_cons (Or.inl (y_m rfl)) ?_ | refine w_cons (Or.inr (by assumption)) ?_)) (by repeat (first | exact w_nil | refine w_cons (Or.inl (y_m rfl)) ?_ | refine w_cons (Or.inr (by assumption)) ?_))) ?_, fun q => absurd q (by decide)⟩, fun q2 => ⟨fun q => absurd q (by decide), fun _ => fun H hH => next (y_st e hH (by repeat (first | exact w_nil | refine w_cons (Or.inl (y_m rfl)) ?_ | refine w_cons (Or.inr (by assumption)) ?_)) (by repeat (first | exact w_nil | refine w_cons (Or.inl (y_m rfl)) ?_ | refine w_cons (Or.inr (by assumption)) ?_))) ?_⟩⟩, fun q => absurd q (by decide)⟩, fun q1 => ⟨fun q => absurd q (by decide), fun _ => ⟨fun q2 => ⟨fun _ => fun H hH => next (y_st e hH (by repeat (first | exact w_nil | refine w_cons (Or.inl (y_m rfl)) ?_ | refine w_cons (Or.inr (by assumption)) ?_)) (by repeat (first | exact w_nil | refine w_cons (Or.inl (y_m rfl)) ?_ | refine w_cons (Or.inr (by assumption)) ?_))) ?_, fun q => absurd q (by decide)⟩, fun q2 => ⟨fun q => absurd q (by decide), fun _ => fun H hH => next (y_st e hH (by repeat (first | exact w_nil | refine w_cons (Or.inl (y_m rfl)) ?_ | refine w_cons (Or.inr (by assumption)) ?_)) (by repeat (first | exact w_nil | refine w_cons (Or.inl (y_m rfl)) ?_ | refine w_cons (Or.inr (by assumption)) ?_))) ?_⟩⟩⟩⟩
      · have x1 : (sg.getD ((Int8.ofInt 40).toInt32 * rI + kI).toNatClampNeg 0).toInt ≠ ((Int8.ofInt 40).toInt32).toInt := (y_ci .ne _ _).mp q1
        have x2 : (sg.getD ((Int8.ofInt 40).toInt32 * rI + kI).toNatClampNeg 0).toInt ≠ ((Int8.ofInt 41).toInt32).toInt := (y_ci .ne _ _).mp q2
        rw [ec, c40] at x1
        rw [ec, c41] at x2
        rw [if_neg x1, if_neg x2]
        exact v (a := Int32.ofInt 0) (b := Int32.ofInt 0) (by decide) (by decide) (by decide) (by decide)
      · have x1 : (sg.getD ((Int8.ofInt 40).toInt32 * rI + kI).toNatClampNeg 0).toInt ≠ ((Int8.ofInt 40).toInt32).toInt := (y_ci .ne _ _).mp q1
        have x2 : ¬ ((sg.getD ((Int8.ofInt 40).toInt32 * rI + kI).toNatClampNeg 0).toInt ≠ ((Int8.ofInt 41).toInt32).toInt) := y_cif q2
        rw [ec, c40] at x1
        rw [ec, c41] at x2
        rw [if_neg x1, if_pos (Decidable.not_not.mp x2)]
        exact v (a := Int32.ofInt 0) (b := Int32.ofInt 1) (by decide) (by decide) (by decide) (by decide)
      · have x1 : ¬ ((sg.getD ((Int8.ofInt 40).toInt32 * rI + kI).toNatClampNeg 0).toInt ≠ ((Int8.ofInt 40).toInt32).toInt) := y_cif q1
        have x2 : (sg.getD ((Int8.ofInt 40).toInt32 * rI + kI).toNatClampNeg 0).toInt ≠ ((Int8.ofInt 41).toInt32).toInt := (y_ci .ne _ _).mp q2
        rw [ec, c40] at x1
        rw [ec, c41] at x2
        rw [if_pos (Decidable.not_not.mp x1), if_neg x2]
        exact v (a := Int32.ofInt 1) (b := Int32.ofInt 0) (by decide) (by decide) (by decide) (by decide)
      · have x1 : ¬ ((sg.getD ((Int8.ofInt 40).toInt32 * rI + kI).toNatClampNeg 0).toInt ≠ ((Int8.ofInt 40).toInt32).toInt) := y_cif q1
        have x2 : ¬ ((sg.getD ((Int8.ofInt 40).toInt32 * rI + kI).toNatClampNeg 0).toInt ≠ ((Int8.ofInt 41).toInt32).toInt) := y_cif q2
        rw [ec, c40] at x1
        rw [ec, c41] at x2
        rw [Decidable.not_not.mp x1] at x2
        omega
    refine w_go z_hl [6, 34] [] 60 hr ?_
    refine ⟨fun q => ?_, fun _ => ⟨fun _ => fun H hH => T34 (y_st (y_rf hr) hH (by repeat (first | exact w_nil | refine w_cons (Or.inl (y_m rfl)) ?_ | refine w_cons (Or.inr (by assumption)) ?_)) (by repeat (first | exact w_nil | refine w_cons (Or.inl (y_m rfl)) ?_ | refine w_cons (Or.inr (by assumption)) ?_))), fun q2 => ?_⟩⟩
    · have q1 : tI.toInt ≤ kI.toInt := (y_ci .ge _ _).mp q
      omega
    · have q3 : ¬ ((0 : Int32).toInt < dI.toInt) := y_cif q2
      rw [z0] at q3
      refine ⟨bx, fun l hl len bb => ?_⟩
      obtain rfl := y_ai g hl
      refine ⟨fun q4 => ?_, fun _ => fun H hH => T34 (y_st (y_rf hr) hH (by repeat (first | exact w_nil | refine w_cons (Or.inl (y_m rfl)) ?_ | refine w_cons (Or.inr (by assumption)) ?_)) (by repeat (first | exact w_nil | refine w_cons (Or.inl (y_m rfl)) ?_ | refine w_cons (Or.inr (by assumption)) ?_)))⟩
      have q5 : (sg.getD ((Int8.ofInt 40).toInt32 * rI + kI).toNatClampNeg 0).toInt = ((Int8.ofInt 38).toInt32).toInt := (y_ci .eq _ _).mp q4
      rw [cx, c38] at q5
      have := no j (by omega) q5
      omega
theorem y_thingEnd {h : aH} (hr : w_hr z_D h) (g : w_a h 170 = some (0, .inl sg)) {rI fI tI : Int32} {r k0 till e0 n : Nat} (h1 : rI.toInt = r) (r11 : r ≤ 11) (h2 : fI.toInt = k0) (h3 : tI.toInt = till) (t40 : till ≤ 40) (hE : y_E (y_tx sg r) till n 0 k0 e0) (et : e0 ≤ till) (ed : e0 = till ∨ y_tx sg r e0 = 38) (hK : ∀ (eI : Int32) (H : aH), y_fr h H [] [] → eI.toInt = e0 → K0 (some (.int eI)) H C S) : aOK s_P X (d + 1) a_m245 0 [some (.ref 155), some (.int rI), some (.int fI), some (.int tI), none, none, none] [] h C S K0 := by
  have lt := (y_E_lt (T := y_tx sg r) (st := till) n).1 0 (by decide) hE
  have dp := y_E_dp n (by decide) hE
  refine w_go z_hl [6] [] 60 hr ?_
  intro H hH
  have e : y_fr h H [] [] := y_st (y_rf hr) hH (by repeat (first | exact w_nil | refine w_cons (Or.inl (y_m rfl)) ?_ | refine w_cons (Or.inr (by assumption)) ?_)) (by repeat (first | exact w_nil | refine w_cons (Or.inl (y_m rfl)) ?_ | refine w_cons (Or.inr (by assumption)) ?_))
  exact y_thingEnd_loop h1 r11 h3 t40 (by omega) et (fun j hj x => dp.2.2 rfl j hj x) dp.1 ed (e0 - k0) H _ _ 0 _ e.1 ((y_ae e rfl).trans g) (by rw [h2]; rfl) (by omega) rfl (by decide) (by decide) (fun eI H' f x => hK eI H' (y_sq e f rfl rfl) x)
theorem y_isJoined_loop {rI fI tI : Int32} {r k0 till : Nat} (h1 : rI.toInt = r) (r11 : r ≤ 11) (h3 : tI.toInt = till) (t40 : till ≤ 40) : ∀ (m : Nat) (h : aH) (dI kI : Int32) (b : Bool) (j : Nat) (o7 : Option Value), w_hr z_D h → w_a h 170 = some (0, .inl sg) → kI.toInt = ((k0 + j : Nat) : Int) → k0 + j + m = till → dI.toInt = y_dp (y_tx sg r) k0 j → -(j : Int) ≤ dI.toInt → dI.toInt ≤ j → (∀ i, i < j → y_tx sg r (k0 + i) = 124 → y_dp (y_tx sg r) k0 i ≠ 0) →
    (∀ (b' : Bool) (H : aH), y_fr h H [] [] → (b' = true → ∀ i, k0 + i < till → y_tx sg r (k0 + i) = 124 → y_dp (y_tx sg r) k0 i ≠ 0) → K0 (some (.int (y_01 b'))) H C S) →
    aOK s_P X (d + 1) a_m243 9 [some (.ref 155), some (.int rI), some (.int fI), some (.int tI), some (.int dI), some (.int (y_01 b)), some (.int kI), o7] [] h C S K0 := by
  have c40 : ((Int8.ofInt 40).toInt32).toInt = 40 := by decide
  have c41 : ((Int8.ofInt 41).toInt32).toInt = 41 := by decide
  have c124 : ((Int8.ofInt 124).toInt32).toInt = 124 := by decide
  have z0 : (0 : Int32).toInt = 0 := by decide
  intro m
  induction m with
  | zero =>
    intro h dI kI b j o7 hr g hk hm hd d1 d2 hno hK
    refine w_go z_hl [9] [] 60 hr ?_
    refine ⟨fun _ => ⟨y_01b b, fun H hH => hK b H (y_st (y_rf hr) hH (by repeat (first | exact w_nil | refine w_cons (Or.inl (y_m rfl)) ?_ | refine w_cons (Or.inr (by assumption)) ?_)) (by repeat (first | exact w_nil | refine w_cons (Or.inl (y_m rfl)) ?_ | refine w_cons (Or.inr (by assumption)) ?_))) (fun _ i hi => hno i (by omega))⟩, fun q => ?_⟩
    have q1 : ¬ (tI.toInt ≤ kI.toInt) := y_cif q
    omega
  | succ m ih =>
    intro h dI kI b j o7 hr g hk hm hd d1 d2 hno hK
    have ix : ((Int8.ofInt 40).toInt32 * rI + kI).toInt = ((40 * r + (k0 + j) : Nat) : Int) := y_addS _ (y_mulS _ y_c40 h1 rfl (by omega)) hk rfl (by omega)
    have cx := y_cl1 ix
    have bx : 0 ≤ ((Int8.ofInt 40).toInt32 * rI + kI).toInt ∧ ((Int8.ofInt 40).toInt32 * rI + kI).toInt < ((520 : Nat) : Int) := by omega
    have ink : (kI + Int32.ofInt 1).toInt = ((k0 + (j + 1) : Nat) : Int) := by rw [y_inc (by omega), hk]; omega
    have next : ∀ {G : aH} {d' c : Int32} {b' : Bool}, y_fr h G [] [] → d'.toInt = y_dp (y_tx sg r) k0 (j + 1) → -((j + 1 : Nat) : Int) ≤ d'.toInt → d'.toInt ≤ ((j + 1 : Nat) : Int) → (y_tx sg r (k0 + j) = 124 → y_dp (y_tx sg r) k0 j ≠ 0) → aOK s_P X (d + 1) a_m243 101 [some (.ref 155), some (.int rI), some (.int fI), some (.int tI), some (.int d'), some (.int (y_01 b)), some (.int kI), some (.int c)] [.int (y_01 b')] G C S K0 := by
      intro G d' c b' e hd' e1 e2 hn
      refine w_go z_hl [9] [] 60 e.1 ?_
      intro H hH
      have f := y_st e hH (by repeat (first | exact w_nil | refine w_cons (Or.inl (y_m rfl)) ?_ | refine w_cons (Or.inr (by assumption)) ?_)) (by repeat (first | exact w_nil | refine w_cons (Or.inl (y_m rfl)) ?_ | refine w_cons (Or.inr (by assumption)) ?_))
      refine ih H _ _ b' (j + 1) _ f.1 ((y_ae f rfl).trans g) ink (by omega) hd' e1 e2 (fun i hi x => ?_) (fun b'' H2 f2 x => hK b'' H2 (y_sq f f2 rfl rfl) x)
      by_cases q : i = j
      · subst q
        exact hn x
      · exact hno i (by omega) x
    have T65 : ∀ {G : aH} {d' c : Int32}, y_fr h G [] [] → c.toInt = y_tx sg r (k0 + j) → d'.toInt = dI.toInt + (if y_tx sg r (k0 + j) = 40 then 1 else 0) - (if y_tx sg r (k0 + j) = 41 then 1 else 0) → aOK s_P X (d + 1) a_m243 65 [some (.ref 155), some (.int rI), some (.int fI), some (.int tI), some (.int d'), some (.int (y_01 b)), some (.int kI), some (.int c)] [] G C S K0 := by
      intro G d' c e hc hd'
      have hd2 : d'.toInt = y_dp (y_tx sg r) k0 (j + 1) := by
        rw [hd', hd]
        rfl
      have e1 : -((j + 1 : Nat) : Int) ≤ d'.toInt := by
        rw [hd']
        split <;> split <;> omega
      have e2 : d'.toInt ≤ ((j + 1 : Nat) : Int) := by
        rw [hd']
        split <;> split <;> omega
      have keep : (d'.toInt ≠ 0 ∨ c.toInt ≠ 124) → y_tx sg r (k0 + j) = 124 → y_dp (y_tx sg r) k0 j ≠ 0 := by
        intro x y
        rcases x with x | x
        · rw [hd', y, if_neg (by decide), if_neg (by decide), hd] at x
          omega
        · rw [hc] at x
          exact absurd y x
      have T79 : ∀ {H : aH}, y_fr h H [] [] → (y_tx sg r (k0 + j) = 124 → y_dp (y_tx sg r) k0 j ≠ 0) → aOK s_P X (d + 1) a_m243 79 [some (.ref 155), some (.int rI), some (.int fI), some (.int tI), some (.int d'), some (.int (y_01 b)), some (.int kI), some (.int c)] [] H C S K0 := by
        intro H f hn
        refine w_go z_hl [101] [] 60 f.1 ?_
        refine ⟨fun _ => fun H2 h2 => next (b' := true) (y_st f h2 (by repeat (first | exact w_nil | refine w_cons (Or.inl (y_m rfl)) ?_ | refine w_cons (Or.inr (by assumption)) ?_)) (by repeat (first | exact w_nil | refine w_cons (Or.inl (y_m rfl)) ?_ | refine w_cons (Or.inr (by assumption)) ?_))) hd2 e1 e2 hn, fun _ => ⟨fun _ => fun H2 h2 => next (b' := false) (y_st f h2 (by repeat (first | exact w_nil | refine w_cons (Or.inl (y_m rfl)) ?_ | refine w_cons (Or.inr (by assumption)) ?_)) (by repeat (first | exact w_nil | refine w_cons (Or.inl (y_m rfl)) ?_ | refine w_cons (Or.inr (by assumption)) ?_))) hd2 e1 e2 hn, fun _ => ⟨fun _ => fun H2 h2 => next (b' := false) (y_st f h2 (by repeat (first | exact w_nil | refine w_cons (Or.inl (y_m rfl)) ?_ | refine w_cons (Or.inr (by assumption)) ?_)) (by repeat (first | exact w_nil | refine w_cons (Or.inl (y_m rfl)) ?_ | refine w_cons (Or.inr (by assumption)) ?_))) hd2 e1 e2 hn, fun _ => fun H2 h2 => next (b' := true) (y_st f h2 (by repeat (first | exact w_nil | refine w_cons (Or.inl (y_m rfl)) ?_ | refine w_cons (Or.inr (by assumption)) ?_)) (by repeat (first | exact w_nil | refine w_cons (Or.inl (y_m rfl)) ?_ | refine w_cons (Or.inr (by assumption)) ?_))) hd2 e1 e2 hn⟩⟩⟩
      refine w_go z_hl [79] [] 60 e.1 ?_
      refine ⟨fun q => fun H hH => T79 (y_st e hH (by repeat (first | exact w_nil | refine w_cons (Or.inl (y_m rfl)) ?_ | refine w_cons (Or.inr (by assumption)) ?_)) (by repeat (first | exact w_nil | refine w_cons (Or.inl (y_m rfl)) ?_ | refine w_cons (Or.inr (by assumption)) ?_))) (keep (Or.inl ?_)), fun _ => ⟨fun q => fun H hH => T79 (y_st e hH (by repeat (first | exact w_nil | refine w_cons (Or.inl (y_m rfl)) ?_ | refine w_cons (Or.inr (by assumption)) ?_)) (by repeat (first | exact w_nil | refine w_cons (Or.inl (y_m rfl)) ?_ | refine w_cons (Or.inr (by assumption)) ?_))) (keep (Or.inr ?_)), fun _ => ⟨by decide, fun H hH => hK false H (y_st e hH (by repeat (first | exact w_nil | refine w_cons (Or.inl (y_m rfl)) ?_ | refine w_cons (Or.inr (by assumption)) ?_)) (by repeat (first | exact w_nil | refine w_cons (Or.inl (y_m rfl)) ?_ | refine w_cons (Or.inr (by assumption)) ?_))) (fun q => by cases q)⟩⟩⟩
      · have q1 : d'.toInt ≠ (0 : Int32).toInt := (y_ci .ne _ _).mp q
        rw [z0] at q1
        exact q1
      · have q1 : c.toInt ≠ ((Int8.ofInt 124).toInt32).toInt := (y_ci .ne _ _).mp q
        rw [c124] at q1
        exact q1
    refine w_go z_hl [9, 65] [] 60 hr ?_
    refine ⟨fun q => ?_, fun _ => ?_⟩
    · have q1 : tI.toInt ≤ kI.toInt := (y_ci .ge _ _).mp q
      omega
    · refine ⟨bx, fun l hl len bb => ?_⟩
      obtain rfl := y_ai g hl
      have ec : (sg.getD ((Int8.ofInt 40).toInt32 * rI + kI).toNatClampNeg 0).toInt = y_tx sg r (k0 + j) := by rw [cx]; rfl
      have v : ∀ {a b : Int32}, 0 ≤ a.toInt → a.toInt ≤ 1 → 0 ≤ b.toInt → b.toInt ≤ 1 → (dI + (a - b)).toInt = dI.toInt + a.toInt - b.toInt := by
        intro a b a0 a1 b0 b1
        rw [Int32.toInt_add, Int32.toInt_sub, Int.bmod_eq_of_le (n := a.toInt - b.toInt) (by omega) (by omega), Int.bmod_eq_of_le (by omega) (by omega)]
        omega
      have e0 : y_fr h h [] [] := y_rf hr
      refine ⟨fun q1 => ⟨fun _ => ⟨fun q2 => ⟨fun _ => fun H hH => T65 (y_st e0 hH (by repeat (first | exact w_nil | refine w_cons (Or.inl (y_m rfl)) ?_ | refine w_cons (Or.inr (by assumption)) ?_)) (by repeat (first | exact w_nil | refine w_cons (Or.inl (y_m rfl)) ?_ | refine w_cons (Or.inr (by assumption)) ?_))) ec ?_, fun q => absurd q (by decide)⟩, fun q2 => ⟨fun q => absurd q (by decide), fun _ => fun H hH => T65 (y_st e0 hH (by repeat (first | exact w_nil | refine w_cons (Or.inl (y_m rfl)) ?_ | refine w_cons (Or.inr (by assumption)) ?_)) (by repeat (first | exact w_nil | refine w_cons (Or.inl (y_m rfl)) ?_ | refine w_cons (Or.inr (by assumption)) ?_))) ec ?_⟩⟩, fun q => absurd q (by decide)⟩, fun q1 => ⟨fun q => absurd q (by decide), fun _ => ⟨fun q2 => ⟨fun _ => fun H hH => T65 (y_st e0 hH (by repeat (first | exact w_nil | refine w_cons (Or.inl (y_m rfl)) ?_ | refine w_cons (Or.inr (by assumption)) ?_)) (by repeat (first | exact w_nil | refine w_cons (Or.inl (y_m rfl)) ?_ | refine w_cons (Or.inr (by assumption)) ?_))) ec ?_, fun q => absurd q (by decide)⟩, fun q2 => ⟨fun q => absurd q (by decide), fun _ => fun H hH => T65 (y_st e0 hH (by repeat (first | exact w_nil | refine w_cons (Or.inl (y_m rfl)) ?_ | refine w_cons (Or.inr (by assumption)) ?_)) (by repeat (first | exact w_nil | refine w_cons (Or.inl (y_m rfl)) ?_ | refine w_cons (Or.inr (by assumption)) ?_))) ec ?_⟩⟩⟩⟩
      · have x1 : (sg.getD ((Int8.ofInt 40).toInt32 * rI + kI).toNatClampNeg 0).toInt ≠ ((Int8.ofInt 40).toInt32).toInt := (y_ci .ne _ _).mp q1
        have x2 : (sg.getD ((Int8.ofInt 40).toInt32 * rI + kI).toNatClampNeg 0).toInt ≠ ((Int8.ofInt 41).toInt32).toInt := (y_ci .ne _ _).mp q2
        rw [ec, c40] at x1
        rw [ec, c41] at x2
        rw [if_neg x1, if_neg x2]
        exact v (a := Int32.ofInt 0) (b := Int32.ofInt 0) (by decide) (by decide) (by decide) (by decide)
      · have x1 : (sg.getD ((Int8.ofInt 40).toInt32 * rI + kI).toNatClampNeg 0).toInt ≠ ((Int8.ofInt 40).toInt32).toInt := (y_ci .ne _ _).mp q1
        have x2 : ¬ ((sg.getD ((Int8.ofInt 40).toInt32 * rI + kI).toNatClampNeg 0).toInt ≠ ((Int8.ofInt 41).toInt32).toInt) := y_cif q2
        rw [ec, c40] at x1
        rw [ec, c41] at x2
        rw [if_neg x1, if_pos (Decidable.not_not.mp x2)]
        exact v (a := Int32.ofInt 0) (b := Int32.ofInt 1) (by decide) (by decide) (by decide) (by decide)
      · have x1 : ¬ ((sg.getD ((Int8.ofInt 40).toInt32 * rI + kI).toNatClampNeg 0).toInt ≠ ((Int8.ofInt 40).toInt32).toInt) := y_cif q1
        have x2 : (sg.getD ((Int8.ofInt 40).toInt32 * rI + kI).toNatClampNeg 0).toInt ≠ ((Int8.ofInt 41).toInt32).toInt := (y_ci .ne _ _).mp q2
        rw [ec, c40] at x1
        rw [ec, c41] at x2
        rw [if_pos (Decidable.not_not.mp x1), if_neg x2]
        exact v (a := Int32.ofInt 1) (b := Int32.ofInt 0) (by decide) (by decide) (by decide) (by decide)
      · have x1 : ¬ ((sg.getD ((Int8.ofInt 40).toInt32 * rI + kI).toNatClampNeg 0).toInt ≠ ((Int8.ofInt 40).toInt32).toInt) := y_cif q1
        have x2 : ¬ ((sg.getD ((Int8.ofInt 40).toInt32 * rI + kI).toNatClampNeg 0).toInt ≠ ((Int8.ofInt 41).toInt32).toInt) := y_cif q2
        rw [ec, c40] at x1
        rw [ec, c41] at x2
        rw [Decidable.not_not.mp x1] at x2
        omega
theorem y_isJoined {h : aH} (hr : w_hr z_D h) (g : w_a h 170 = some (0, .inl sg)) {rI fI tI : Int32} {r k0 till : Nat} (h1 : rI.toInt = r) (r11 : r ≤ 11) (h2 : fI.toInt = k0) (h3 : tI.toInt = till) (kt : k0 ≤ till) (t40 : till ≤ 40) (hK : ∀ (b' : Bool) (H : aH), y_fr h H [] [] → (b' = true → ∀ i, k0 + i < till → y_tx sg r (k0 + i) = 124 → y_dp (y_tx sg r) k0 i ≠ 0) → K0 (some (.int (y_01 b'))) H C S) : aOK s_P X (d + 1) a_m243 0 [some (.ref 155), some (.int rI), some (.int fI), some (.int tI), none, none, none, none] [] h C S K0 := by
  refine w_go z_hl [9] [] 60 hr ?_
  intro H hH
  have e : y_fr h H [] [] := y_st (y_rf hr) hH (by repeat (first | exact w_nil | refine w_cons (Or.inl (y_m rfl)) ?_ | refine w_cons (Or.inr (by assumption)) ?_)) (by repeat (first | exact w_nil | refine w_cons (Or.inl (y_m rfl)) ?_ | refine w_cons (Or.inr (by assumption)) ?_))
  exact y_isJoined_loop h1 r11 h3 t40 (till - k0) H _ _ false 0 _ e.1 ((y_ae e rfl).trans g) (by rw [h2]; rfl) (by omega) rfl (by decide) (by decide) (fun i hi => absurd hi (by omega)) (fun b' H' f x => hK b' H' (y_sq e f rfl rfl) x)
end WG
