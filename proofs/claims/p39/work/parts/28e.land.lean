/-! ===== v3: the reference's land, mark ===== -/
section WG
variable {X : aX} {C S d : Nat} {K0 : Option Value → aH → Nat → Nat → Prop}
theorem y_land_loop {al kd n f st ln : Int32} (l0 : 0 ≤ ln.toInt) (l7 : ln.toInt ≤ 7) (a1 : 1 ≤ al.toInt) (a2 : al.toInt ≤ 1000000) : ∀ (t : Nat) (h : aH) (vI kI : Int32) (k : Nat) (o8 o9 : Option Value), w_hr z_D h → w_f h 19640 = some (.int ln) → kI.toInt = k → k + t = 6 →
    (∀ (r : Int32) (H : aH), y_fr h H [] [183] → K0 (some (.int r)) H C S) →
    (∀ (H : aH) (v' k' : Int32) (o8 o9 : Option Value), y_fr h H [] [183] → aOK s_P X (d + 1) a_m270 173 [some (.ref 155), some (.int al), some (.int kd), some (.int n), some (.int f), some (.int st), some (.int v'), some (.int k'), o8, o9] [] H C S K0) →
    aOK s_P X (d + 1) a_m270 65 [some (.ref 155), some (.int al), some (.int kd), some (.int n), some (.int f), some (.int st), some (.int vI), some (.int kI), o8, o9] [] h C S K0 := by
  intro t
  induction t with
  | zero =>
    intro h vI kI k o8 o9 hr g1 hk hkt hK hE
    refine w_go z_hl [65, 173] [176] 60 hr ?_
    refine ⟨fun q => fun H hH => hE H _ _ _ _ (y_st (y_mo (y_rf hr) rfl rfl) hH (by repeat (first | exact w_nil | refine w_cons (Or.inl (y_m rfl)) ?_ | refine w_cons (Or.inr (by assumption)) ?_)) (by repeat (first | exact w_nil | refine w_cons (Or.inl (y_m rfl)) ?_ | refine w_cons (Or.inr (by assumption)) ?_))), fun q => ?_⟩
    have : ¬ (((Int8.ofInt 6).toInt32).toInt ≤ kI.toInt) := y_cif q
    rw [y_c6] at this
    omega
  | succ t ih =>
    intro h vI kI k o8 o9 hr g1 hk hkt hK hE
    have hik : (kI + Int32.ofInt 1).toInt = ((k + 1 : Nat) : Int) := by rw [y_inc (by omega), hk]; rfl
    obtain ⟨p, hp⟩ : ∃ p : Nat, ln.toInt = p := ⟨ln.toInt.toNat, by omega⟩
    have i6 := y_i6 hp hk (by omega) (by omega)
    have b6 : 0 ≤ ((Int8.ofInt 6).toInt32 * ln + kI).toInt ∧ ((Int8.ofInt 6).toInt32 * ln + kI).toInt < ((48 : Nat) : Int) := by omega
    have next : ∀ {H : aH} {v' : Int32} {o8 o9 : Option Value}, y_fr h H [] [183] → aOK s_P X (d + 1) a_m270 65 [some (.ref 155), some (.int al), some (.int kd), some (.int n), some (.int f), some (.int st), some (.int v'), some (.int (kI + Int32.ofInt 1)), o8, o9] [] H C S K0 := by
      intro H v' o8 o9 e
      exact ih H _ _ (k + 1) _ _ e.1 ((y_fe e rfl).trans g1) hik (by omega) (fun r H' g => hK r H' (y_sq e g rfl rfl)) (fun H' v' k' o8 o9 g => hE H' v' k' o8 o9 (y_sq e g rfl rfl))
    have T134n : ∀ {G : aH} {i : Int32}, y_fr h G [] [183] → aOK s_P X (d + 1) a_m270 134 [some (.ref 155), some (.int al), some (.int kd), some (.int n), some (.int f), some (.int st), some (.int vI), some (.int kI), some (.int i), some (.int (Int32.ofInt 0))] [] G C S K0 := by
      intro G i e
      refine w_go z_hl [65] [] 60 e.1 ?_
      intro x hx _ _
      obtain rfl := y_fi ((y_fe e rfl).trans g1) hx
      refine ⟨fun _ => ⟨b6, by decide, fun l hl len bb => fun H hH => next (y_st e hH (by repeat (first | exact w_nil | refine w_cons (Or.inl (y_m rfl)) ?_ | refine w_cons (Or.inr (by assumption)) ?_)) (by repeat (first | exact w_nil | refine w_cons (Or.inl (y_m rfl)) ?_ | refine w_cons (Or.inr (by assumption)) ?_)))⟩, fun q => absurd q (by decide)⟩
    have T134y : ∀ {G : aH} {i : Int32}, y_fr h G [] [183] → 0 ≤ i.toInt → i.toInt ≤ 1000000 → aOK s_P X (d + 1) a_m270 134 [some (.ref 155), some (.int al), some (.int kd), some (.int n), some (.int f), some (.int st), some (.int vI), some (.int kI), some (.int i), some (.int (Int32.ofInt 1))] [] G C S K0 := by
      intro G i e i0 i1
      refine w_go z_hl [65] [] 60 e.1 ?_
      intro x hx _ _
      obtain rfl := y_fi ((y_fe e rfl).trans g1) hx
      refine ⟨fun q => absurd q (by decide), fun _ => ⟨b6, ⟨by omega, by omega⟩, fun l hl len bb => fun H hH => next (y_st e hH (by repeat (first | exact w_nil | refine w_cons (Or.inl (y_m rfl)) ?_ | refine w_cons (Or.inr (by assumption)) ?_)) (by repeat (first | exact w_nil | refine w_cons (Or.inl (y_m rfl)) ?_ | refine w_cons (Or.inr (by assumption)) ?_)))⟩⟩
    have T129 : ∀ {G : aH} {i : Int32}, y_fr h G [] [183] → 0 ≤ i.toInt → i.toInt ≤ al.toInt → aOK s_P X (d + 1) a_m270 129 [some (.ref 155), some (.int al), some (.int kd), some (.int n), some (.int f), some (.int st), some (.int vI), some (.int kI), some (.int i), some (.int (Int32.ofInt 1))] [.int (y_01 true)] G C S K0 := by
      intro G i e i0 i1
      refine w_go z_hl [134] [] 60 e.1 ?_
      exact ⟨fun _ => fun H hH => T134y (y_st e hH (by repeat (first | exact w_nil | refine w_cons (Or.inl (y_m rfl)) ?_ | refine w_cons (Or.inr (by assumption)) ?_)) (by repeat (first | exact w_nil | refine w_cons (Or.inl (y_m rfl)) ?_ | refine w_cons (Or.inr (by assumption)) ?_))) i0 (by omega), fun q => absurd q (by decide)⟩
    have T129n : ∀ {G : aH} {i : Int32}, y_fr h G [] [183] → aOK s_P X (d + 1) a_m270 129 [some (.ref 155), some (.int al), some (.int kd), some (.int n), some (.int f), some (.int st), some (.int vI), some (.int kI), some (.int i), some (.int (Int32.ofInt 1))] [.int (y_01 false)] G C S K0 := by
      intro G i e
      refine w_go z_hl [134] [] 60 e.1 ?_
      exact ⟨fun q => absurd q (by decide), fun _ => fun H hH => hK _ H (y_st e hH (by repeat (first | exact w_nil | refine w_cons (Or.inl (y_m rfl)) ?_ | refine w_cons (Or.inr (by assumption)) ?_)) (by repeat (first | exact w_nil | refine w_cons (Or.inl (y_m rfl)) ?_ | refine w_cons (Or.inr (by assumption)) ?_)))⟩
    have T115 : ∀ {G : aH} {i b : Int32}, y_fr h G [] [183] → (b = Int32.ofInt 0 ∨ b = Int32.ofInt 1) → aOK s_P X (d + 1) a_m270 115 [some (.ref 155), some (.int al), some (.int kd), some (.int n), some (.int f), some (.int st), some (.int vI), some (.int kI), some (.int i), some (.int b)] [] G C S K0 := by
      intro G i b e hb
      rcases hb with rfl | rfl
      · refine w_go z_hl [134] [176] 60 e.1 ?_
        exact ⟨fun _ => fun H hH => T134n (y_st e hH (by repeat (first | exact w_nil | refine w_cons (Or.inl (y_m rfl)) ?_ | refine w_cons (Or.inr (by assumption)) ?_)) (by repeat (first | exact w_nil | refine w_cons (Or.inl (y_m rfl)) ?_ | refine w_cons (Or.inr (by assumption)) ?_))), fun q => absurd q (by decide)⟩
      · refine w_go z_hl [134] [176] 60 e.1 ?_
        refine ⟨fun q => absurd q (by decide), fun _ => fun H hH => ?_⟩
        have e2 := y_st e hH (by repeat (first | exact w_nil | refine w_cons (Or.inl (y_m rfl)) ?_ | refine w_cons (Or.inr (by assumption)) ?_)) (by repeat (first | exact w_nil | refine w_cons (Or.inl (y_m rfl)) ?_ | refine w_cons (Or.inr (by assumption)) ?_))
        refine q_in (v := i.toInt64) (lo := Int64.ofNat 0) (hi := al.toInt64) e2.1 (fun H3 h3 l1 l2 => ⟨fun n e => (by cases e), ?_⟩) (fun H3 h3 _ => ⟨fun n e => (by cases e), ?_⟩)
        · rw [y_i2l] at l1
          rw [y_i2l, y_i2l] at l2
          exact T129 (y_sq e2 h3 rfl rfl) l1 l2
        · exact T129n (y_sq e2 h3 rfl rfl)
    have T95 : ∀ {G : aH} {i : Int32}, y_fr h G [] [183] → aOK s_P X (d + 1) a_m270 95 [some (.ref 155), some (.int al), some (.int kd), some (.int n), some (.int f), some (.int st), some (.int vI), some (.int kI), o8, o9] [.int i] G C S K0 := by
      intro G i e
      refine w_go z_hl [115] [] 60 e.1 ?_
      refine ⟨fun _ => fun H hH => T115 (y_st e hH (by repeat (first | exact w_nil | refine w_cons (Or.inl (y_m rfl)) ?_ | refine w_cons (Or.inr (by assumption)) ?_)) (by repeat (first | exact w_nil | refine w_cons (Or.inl (y_m rfl)) ?_ | refine w_cons (Or.inr (by assumption)) ?_))) (Or.inl rfl), fun _ => ⟨fun _ => fun H hH => T115 (y_st e hH (by repeat (first | exact w_nil | refine w_cons (Or.inl (y_m rfl)) ?_ | refine w_cons (Or.inr (by assumption)) ?_)) (by repeat (first | exact w_nil | refine w_cons (Or.inl (y_m rfl)) ?_ | refine w_cons (Or.inr (by assumption)) ?_))) (Or.inl rfl), fun _ => fun H hH => T115 (y_st e hH (by repeat (first | exact w_nil | refine w_cons (Or.inl (y_m rfl)) ?_ | refine w_cons (Or.inr (by assumption)) ?_)) (by repeat (first | exact w_nil | refine w_cons (Or.inl (y_m rfl)) ?_ | refine w_cons (Or.inr (by assumption)) ?_))) (Or.inr rfl)⟩⟩
    have e0 : y_fr h h [] [183] := y_mo (y_rf hr) rfl rfl
    refine w_go z_hl [95, 65] [] 60 hr ?_
    refine ⟨fun q => ?_, fun _ => ⟨fun _ => ⟨fun _ => fun H hH => T95 (y_st e0 hH (by repeat (first | exact w_nil | refine w_cons (Or.inl (y_m rfl)) ?_ | refine w_cons (Or.inr (by assumption)) ?_)) (by repeat (first | exact w_nil | refine w_cons (Or.inl (y_m rfl)) ?_ | refine w_cons (Or.inr (by assumption)) ?_))), fun _ => fun H hH => T95 (y_st e0 hH (by repeat (first | exact w_nil | refine w_cons (Or.inl (y_m rfl)) ?_ | refine w_cons (Or.inr (by assumption)) ?_)) (by repeat (first | exact w_nil | refine w_cons (Or.inl (y_m rfl)) ?_ | refine w_cons (Or.inr (by assumption)) ?_)))⟩, fun _ => fun H hH => T95 (y_st e0 hH (by repeat (first | exact w_nil | refine w_cons (Or.inl (y_m rfl)) ?_ | refine w_cons (Or.inr (by assumption)) ?_)) (by repeat (first | exact w_nil | refine w_cons (Or.inl (y_m rfl)) ?_ | refine w_cons (Or.inr (by assumption)) ?_)))⟩⟩
    have : ((Int8.ofInt 6).toInt32).toInt ≤ kI.toInt := (y_ci .ge _ _).mp q
    rw [y_c6] at this
    omega
theorem p_land {h : aH} (hr : w_hr z_D h) (hJ : y_J h) {al kd n f st : Int32} (hk : ∀ (r : Int32) (H : aH), y_fr h H [19584, 19640] [182, 183] → y_J H → K0 (some (.int r)) H C S) : aOK s_P X (d + 1) a_m270 0 [some (.ref 155), some (.int al), some (.int kd), some (.int n), some (.int f), some (.int st), none, none, none, none] [] h C S K0 := by
  have hJ' := hJ
  obtain ⟨q1, q2, q3, q4, q5, q6, q7⟩ := hJ'
  obtain ⟨ln, pe, l1, l2, l3⟩ := id q7
  obtain ⟨b1, b2⟩ := y_lnb hr l1
  have out : ∀ {G : aH} {r : Int32}, y_fr h G [19584] [183] → K0 (some (.int r)) G C S := fun g => hk _ _ (y_mo g rfl rfl) (y_J_fr g rfl rfl hJ)
  have T173 : ∀ {G : aH} {v' k' : Int32} {o8 o9 : Option Value}, y_fr h G [19584] [183] → ln.toInt ≤ 7 → 1 ≤ al.toInt → al.toInt ≤ 1000000 → aOK s_P X (d + 1) a_m270 173 [some (.ref 155), some (.int al), some (.int kd), some (.int n), some (.int f), some (.int st), some (.int v'), some (.int k'), o8, o9] [] G C S K0 := by
    intro G v' k' o8 o9 e l7 a1 a2
    have hinc : (ln + Int32.ofInt 1).toInt = ln.toInt + 1 := y_inc (by omega)
    refine w_go z_hl [] [] 60 e.1 ?_
    intro x hx _ _
    obtain rfl := y_fi ((y_fe e rfl).trans l1) hx
    refine ⟨⟨by omega, by omega⟩, ⟨by omega, by omega⟩, fun l hl len bb => ?_⟩
    obtain rfl := y_ai ((y_ae e rfl).trans l2) hl
    refine ⟨rfl, y_zini (by show 0 ≤ (ln + Int32.ofInt 1).toInt; omega) (by show (ln + Int32.ofInt 1).toInt ≤ 8; omega), ?_⟩
    intro H hH
    have e2 : y_fr h H [19584, 19640] [182, 183] := y_st (y_mo e rfl rfl) hH (by repeat (first | exact w_nil | refine w_cons (Or.inl (y_m rfl)) ?_ | refine w_cons (Or.inr (by assumption)) ?_)) (by repeat (first | exact w_nil | refine w_cons (Or.inl (y_m rfl)) ?_ | refine w_cons (Or.inr (by assumption)) ?_))
    refine hk _ H e2 ⟨j_net_e (y_fe e2 rfl) (y_ae e2 rfl) (y_ae e2 rfl) (y_ae e2 rfl) q1, j_dp_e (y_fe e2 rfl) (y_fe e2 rfl) (y_ae e2 rfl) q2, j_old_e (y_ae e2 rfl) (y_ae e2 rfl) (y_ae e2 rfl) (y_ae e2 rfl) (y_ae e2 rfl) (y_ae e2 rfl) q3, j_w_e (y_fe e2 rfl) (y_ae e2 rfl) q4, j_seen_e (y_fe e2 rfl) (y_fe e2 rfl) (y_ae e2 rfl) (y_ae e2 rfl) q5, j_kept_e (y_fe e2 rfl) (y_ae e2 rfl) (y_ae e2 rfl) (y_ae e2 rfl) (y_ae e2 rfl) q6, ⟨_, _, hH.2.1 19640 _ rfl, hH.2.2.1 182 _ rfl, fun k hk' => ?_⟩⟩
    rw [y_Nset (show ln.toNatClampNeg < pe.length by show ln.toInt.toNat < _; omega)]
    split
    · exact a1
    · rename_i ne
      refine l3 k ?_
      have hk2 : (k : Int) < (ln + Int32.ofInt 1).toInt := hk'
      have hcl : ln.toNatClampNeg = ln.toInt.toNat := rfl
      omega
  have T46 : ∀ {G : aH}, y_fr h G [19584] [] → ln.toInt ≤ 7 → 1 ≤ al.toInt → al.toInt ≤ 1000000 → aOK s_P X (d + 1) a_m270 46 [some (.ref 155), some (.int al), some (.int kd), some (.int n), some (.int f), some (.int st), none, none, none, none] [] G C S K0 := by
    intro G e l7 a1 a2
    have go : ∀ {H : aH}, y_fr h H [19584] [] → aOK s_P X (d + 1) a_m270 58 [some (.ref 155), some (.int al), some (.int kd), some (.int n), some (.int f), some (.int st), none, none, none, none] [] H C S K0 := by
      intro H e2
      refine w_go z_hl [65] [] 60 e2.1 ?_
      intro H3 h3
      have e3 := y_st e2 h3 (by repeat (first | exact w_nil | refine w_cons (Or.inl (y_m rfl)) ?_ | refine w_cons (Or.inr (by assumption)) ?_)) (by repeat (first | exact w_nil | refine w_cons (Or.inl (y_m rfl)) ?_ | refine w_cons (Or.inr (by assumption)) ?_))
      exact y_land_loop b1 l7 a1 a2 6 H3 _ _ 0 _ _ e3.1 ((y_fe e3 rfl).trans l1) rfl rfl (fun r H4 e4 => out (y_sq (y_mo e3 rfl rfl) e4 rfl rfl)) (fun H4 v' k' o8 o9 e4 => T173 (y_sq (y_mo e3 rfl rfl) e4 rfl rfl) l7 a1 a2)
    refine w_go z_hl [58] [] 60 e.1 ?_
    refine ⟨fun _ => fun H hH => go (y_st e hH (by repeat (first | exact w_nil | refine w_cons (Or.inl (y_m rfl)) ?_ | refine w_cons (Or.inr (by assumption)) ?_)) (by repeat (first | exact w_nil | refine w_cons (Or.inl (y_m rfl)) ?_ | refine w_cons (Or.inr (by assumption)) ?_))), fun _ => ⟨fun _ => fun H hH => go (y_st e hH (by repeat (first | exact w_nil | refine w_cons (Or.inl (y_m rfl)) ?_ | refine w_cons (Or.inr (by assumption)) ?_)) (by repeat (first | exact w_nil | refine w_cons (Or.inl (y_m rfl)) ?_ | refine w_cons (Or.inr (by assumption)) ?_))), fun _ => fun H hH => out (y_st (y_mo e rfl rfl) hH (by repeat (first | exact w_nil | refine w_cons (Or.inl (y_m rfl)) ?_ | refine w_cons (Or.inr (by assumption)) ?_)) (by repeat (first | exact w_nil | refine w_cons (Or.inl (y_m rfl)) ?_ | refine w_cons (Or.inr (by assumption)) ?_)))⟩⟩
  have T26n : ∀ {G : aH}, y_fr h G [19584] [] → aOK s_P X (d + 1) a_m270 26 [some (.ref 155), some (.int al), some (.int kd), some (.int n), some (.int f), some (.int st), none, none, none, none] [.int (y_01 false)] G C S K0 := by
    intro G e
    refine w_go z_hl [] [] 60 e.1 ?_
    exact ⟨fun _ => fun H hH => out (y_st (y_mo e rfl rfl) hH (by repeat (first | exact w_nil | refine w_cons (Or.inl (y_m rfl)) ?_ | refine w_cons (Or.inr (by assumption)) ?_)) (by repeat (first | exact w_nil | refine w_cons (Or.inl (y_m rfl)) ?_ | refine w_cons (Or.inr (by assumption)) ?_))), fun q => absurd q (by decide)⟩
  have T26 : ∀ {G : aH}, y_fr h G [19584] [] → 1 ≤ al.toInt → al.toInt ≤ 1000000 → aOK s_P X (d + 1) a_m270 26 [some (.ref 155), some (.int al), some (.int kd), some (.int n), some (.int f), some (.int st), none, none, none, none] [.int (y_01 true)] G C S K0 := by
    intro G e a1 a2
    refine w_go z_hl [46] [] 60 e.1 ?_
    refine ⟨fun q => absurd q (by decide), fun _ => ⟨fun _ => fun H hH => out (y_st (y_mo e rfl rfl) hH (by repeat (first | exact w_nil | refine w_cons (Or.inl (y_m rfl)) ?_ | refine w_cons (Or.inr (by assumption)) ?_)) (by repeat (first | exact w_nil | refine w_cons (Or.inl (y_m rfl)) ?_ | refine w_cons (Or.inr (by assumption)) ?_))), fun _ => ?_⟩⟩
    intro x hx _ _
    obtain rfl := y_fi ((y_fe e rfl).trans l1) hx
    refine ⟨fun q => fun H hH => ?_, fun _ => fun H hH => out (y_st (y_mo e rfl rfl) hH (by repeat (first | exact w_nil | refine w_cons (Or.inl (y_m rfl)) ?_ | refine w_cons (Or.inr (by assumption)) ?_)) (by repeat (first | exact w_nil | refine w_cons (Or.inl (y_m rfl)) ?_ | refine w_cons (Or.inr (by assumption)) ?_)))⟩
    have q8 : ln.toInt ≠ ((Int8.ofInt 8).toInt32).toInt := (y_ci .ne _ _).mp q
    rw [y_c8] at q8
    exact T46 (y_st e hH (by repeat (first | exact w_nil | refine w_cons (Or.inl (y_m rfl)) ?_ | refine w_cons (Or.inr (by assumption)) ?_)) (by repeat (first | exact w_nil | refine w_cons (Or.inl (y_m rfl)) ?_ | refine w_cons (Or.inr (by assumption)) ?_))) (by omega) a1 a2
  have T14n : ∀ {G : aH}, y_fr h G [19584] [] → aOK s_P X (d + 1) a_m270 14 [some (.ref 155), some (.int al), some (.int kd), some (.int n), some (.int f), some (.int st), none, none, none, none] [.int (y_01 false)] G C S K0 := by
    intro G e
    refine w_go z_hl [] [] 60 e.1 ?_
    exact ⟨fun _ => fun H hH => out (y_st (y_mo e rfl rfl) hH (by repeat (first | exact w_nil | refine w_cons (Or.inl (y_m rfl)) ?_ | refine w_cons (Or.inr (by assumption)) ?_)) (by repeat (first | exact w_nil | refine w_cons (Or.inl (y_m rfl)) ?_ | refine w_cons (Or.inr (by assumption)) ?_))), fun q => absurd q (by decide)⟩
  have T14 : ∀ {G : aH}, y_fr h G [19584] [] → 1 ≤ al.toInt → al.toInt ≤ 1000000 → aOK s_P X (d + 1) a_m270 14 [some (.ref 155), some (.int al), some (.int kd), some (.int n), some (.int f), some (.int st), none, none, none, none] [.int (y_01 true)] G C S K0 := by
    intro G e a1 a2
    refine w_go z_hl [] [176] 60 e.1 ?_
    refine ⟨fun q => absurd q (by decide), fun _ => fun H hH => ?_⟩
    have e2 := y_st e hH (by repeat (first | exact w_nil | refine w_cons (Or.inl (y_m rfl)) ?_ | refine w_cons (Or.inr (by assumption)) ?_)) (by repeat (first | exact w_nil | refine w_cons (Or.inl (y_m rfl)) ?_ | refine w_cons (Or.inr (by assumption)) ?_))
    refine q_in e2.1 (fun H3 h3 _ _ => ⟨fun n e => (by cases e), ?_⟩) (fun H3 h3 _ => ⟨fun n e => (by cases e), ?_⟩)
    · exact T26 (y_sq e2 h3 rfl rfl) a1 a2
    · exact T26n (y_sq e2 h3 rfl rfl)
  refine w_go z_hl [] [176] 30 hr ?_
  refine ⟨rfl, y_zini (by decide) (by decide), fun H1 h1 => ?_⟩
  have e1 : y_fr h H1 [19584] [] := y_st (y_mo (y_rf hr) rfl rfl) h1 (by repeat (first | exact w_nil | refine w_cons (Or.inl (y_m rfl)) ?_ | refine w_cons (Or.inr (by assumption)) ?_)) (by repeat (first | exact w_nil | refine w_cons (Or.inl (y_m rfl)) ?_ | refine w_cons (Or.inr (by assumption)) ?_))
  refine q_in (v := al.toInt64) (lo := Int64.ofNat 1) (hi := Int64.ofInt 1000000) e1.1 (fun H3 h3 a1 a2 => ⟨fun n e => (by cases e), ?_⟩) (fun H3 h3 _ => ⟨fun n e => (by cases e), ?_⟩)
  · rw [y_i2l] at a1 a2
    rw [y_i64 (by decide) (by decide)] at a2
    exact T14 (y_sq e1 h3 rfl rfl) a1 a2
  · exact T14n (y_sq e1 h3 rfl rfl)
theorem p_mark {h : aH} (hr : w_hr z_D h) (hJ : y_J h) {la mk : Int32} (hk : ∀ (r : Int32) (H : aH), y_fr h H [19584, 19585, 19587, 19588] [154] → y_J H → K0 (some (.int r)) H C S) : aOK s_P X (d + 2) a_m271 0 [some (.ref 155), some (.int la), some (.int mk), none] [] h C S K0 := by
  obtain ⟨ln, pe, l1, l2, l3⟩ := id hJ.2.2.2.2.2.2
  obtain ⟨b1, b2⟩ := y_lnb hr l1
  have out : ∀ {G : aH} {r : Int32}, y_fr h G [19584, 19585, 19587, 19588] [154] → K0 (some (.int r)) G C S := fun g => hk _ _ g (y_J_fr g rfl rfl hJ)
  have T76 : ∀ {G : aH} {o3 : Option Value}, y_fr h G [19584, 19585, 19587, 19588] [154] → aOK s_P X (d + 2) a_m271 76 [some (.ref 155), some (.int la), some (.int mk), o3] [] G C S K0 := by
    intro G o3 e
    refine w_go z_hl [] [] 30 e.1 ?_
    intro H hH
    exact out (y_st e hH (by repeat (first | exact w_nil | refine w_cons (Or.inl (y_m rfl)) ?_ | refine w_cons (Or.inr (by assumption)) ?_)) (by repeat (first | exact w_nil | refine w_cons (Or.inl (y_m rfl)) ?_ | refine w_cons (Or.inr (by assumption)) ?_)))
  have T67 : ∀ {G : aH} {o3 : Option Value}, y_fr h G [19584, 19585, 19587, 19588] [154] → aOK s_P X (d + 2) a_m271 67 [some (.ref 155), some (.int la), some (.int mk), o3] [] G C S K0 := by
    intro G o3 e
    refine w_go z_hl [] [196] 30 e.1 ?_
    refine ⟨rfl, y_zini (by decide) (by decide), fun H hH => ?_⟩
    have e2 := y_st e hH (by repeat (first | exact w_nil | refine w_cons (Or.inl (y_m rfl)) ?_ | refine w_cons (Or.inr (by assumption)) ?_)) (by repeat (first | exact w_nil | refine w_cons (Or.inl (y_m rfl)) ?_ | refine w_cons (Or.inr (by assumption)) ?_))
    refine y_tells e2.1 (hH.2.1 19585 _ rfl) (by decide) (by decide) (fun H2 r2 e3 _ _ => ⟨fun n e => (by cases e), ?_⟩)
    exact T76 (y_sq e2 e3 rfl rfl)
  have T30 : ∀ {G : aH} {p k : Nat}, y_fr h G [19584] [] → la.toInt = p → la.toInt < ln.toInt → mk.toInt = k → k < 6 → aOK s_P X (d + 2) a_m271 30 [some (.ref 155), some (.int la), some (.int mk), none] [.int (y_01 true)] G C S K0 := by
    intro G p k e hp hp2 hk' hk6
    have i6 := y_i6 hp hk' (by omega) (by omega)
    have b6 : 0 ≤ ((Int8.ofInt 6).toInt32 * la + mk).toInt ∧ ((Int8.ofInt 6).toInt32 * la + mk).toInt < ((48 : Nat) : Int) := by omega
    have pc := y_cl1 hp
    refine w_go z_hl [] [194] 60 e.1 ?_
    refine ⟨fun _ => ?_, fun q => absurd q (by decide)⟩
    refine ⟨b6, fun l hl len bb => ⟨fun q => ?_, fun _ => fun H hH => out (y_st (y_mo e rfl rfl) hH (by repeat (first | exact w_nil | refine w_cons (Or.inl (y_m rfl)) ?_ | refine w_cons (Or.inr (by assumption)) ?_)) (by repeat (first | exact w_nil | refine w_cons (Or.inl (y_m rfl)) ?_ | refine w_cons (Or.inr (by assumption)) ?_)))⟩⟩
    have q0 : (0 : Int32).toInt ≤ (l.getD ((Int8.ofInt 6).toInt32 * la + mk).toNatClampNeg 0).toInt := (y_ci .ge _ _).mp q
    refine ⟨⟨by omega, by omega⟩, fun l' hl' len' bb' => ?_⟩
    obtain rfl := y_ai ((y_ae e rfl).trans l2) hl'
    intro H hH
    have e2 := y_st e hH (by repeat (first | exact w_nil | refine w_cons (Or.inl (y_m rfl)) ?_ | refine w_cons (Or.inr (by assumption)) ?_)) (by repeat (first | exact w_nil | refine w_cons (Or.inl (y_m rfl)) ?_ | refine w_cons (Or.inr (by assumption)) ?_))
    have h1 := l3 p (by omega)
    refine q_lowest (n := (l.getD ((Int8.ofInt 6).toInt32 * la + mk).toNatClampNeg 0).toInt64) (m := (pe.getD la.toNatClampNeg 0).toInt64) e2.1 (by rw [y_i2l]; rw [show (0 : Int32).toInt = 0 by decide] at q0; omega) (by rw [y_i2l, pc]; exact h1) (fun u l H2 e3 _ _ _ _ _ _ _ => ⟨fun n e => (by cases e), ?_⟩)
    exact T67 (y_sq (y_mo e2 rfl rfl) e3 rfl rfl)
  have T30n : ∀ {G : aH}, y_fr h G [19584] [] → aOK s_P X (d + 2) a_m271 30 [some (.ref 155), some (.int la), some (.int mk), none] [.int (y_01 false)] G C S K0 := by
    intro G e
    refine w_go z_hl [] [] 60 e.1 ?_
    exact ⟨fun q => absurd q (by decide), fun _ => fun H hH => out (y_st (y_mo e rfl rfl) hH (by repeat (first | exact w_nil | refine w_cons (Or.inl (y_m rfl)) ?_ | refine w_cons (Or.inr (by assumption)) ?_)) (by repeat (first | exact w_nil | refine w_cons (Or.inl (y_m rfl)) ?_ | refine w_cons (Or.inr (by assumption)) ?_)))⟩
  have T18 : ∀ {G : aH} {p : Nat}, y_fr h G [19584] [] → la.toInt = p → la.toInt < ln.toInt → aOK s_P X (d + 2) a_m271 18 [some (.ref 155), some (.int la), some (.int mk), none] [.int (y_01 true)] G C S K0 := by
    intro G p e hp hp2
    refine w_go z_hl [] [176] 60 e.1 ?_
    refine ⟨fun q => absurd q (by decide), fun _ => fun H hH => ?_⟩
    have e2 := y_st e hH (by repeat (first | exact w_nil | refine w_cons (Or.inl (y_m rfl)) ?_ | refine w_cons (Or.inr (by assumption)) ?_)) (by repeat (first | exact w_nil | refine w_cons (Or.inl (y_m rfl)) ?_ | refine w_cons (Or.inr (by assumption)) ?_))
    refine q_in (v := mk.toInt64) (lo := Int64.ofNat 0) (hi := Int64.ofInt 5) e2.1 (fun H3 h3 a1 a2 => ⟨fun n e => (by cases e), ?_⟩) (fun H3 h3 _ => ⟨fun n e => (by cases e), ?_⟩)
    · rw [y_i2l] at a1 a2
      rw [y_i64 (by decide) (by decide)] at a2
      have a1 : 0 ≤ mk.toInt := a1
      exact T30 (k := mk.toInt.toNat) (y_sq e2 h3 rfl rfl) hp hp2 (by omega) (by omega)
    · exact T30n (y_sq e2 h3 rfl rfl)
  have T18n : ∀ {G : aH}, y_fr h G [19584] [] → aOK s_P X (d + 2) a_m271 18 [some (.ref 155), some (.int la), some (.int mk), none] [.int (y_01 false)] G C S K0 := by
    intro G e
    refine w_go z_hl [] [] 60 e.1 ?_
    exact ⟨fun _ => fun H hH => out (y_st (y_mo e rfl rfl) hH (by repeat (first | exact w_nil | refine w_cons (Or.inl (y_m rfl)) ?_ | refine w_cons (Or.inr (by assumption)) ?_)) (by repeat (first | exact w_nil | refine w_cons (Or.inl (y_m rfl)) ?_ | refine w_cons (Or.inr (by assumption)) ?_))), fun q => absurd q (by decide)⟩
  refine w_go z_hl [] [176] 30 hr ?_
  refine ⟨rfl, y_zini (by decide) (by decide), ?_⟩
  intro x hx _ _
  obtain rfl := y_fi l1 hx
  intro H1 h1
  have e1 : y_fr h H1 [19584] [] := y_st (y_mo (y_rf hr) rfl rfl) h1 (by repeat (first | exact w_nil | refine w_cons (Or.inl (y_m rfl)) ?_ | refine w_cons (Or.inr (by assumption)) ?_)) (by repeat (first | exact w_nil | refine w_cons (Or.inl (y_m rfl)) ?_ | refine w_cons (Or.inr (by assumption)) ?_))
  refine q_in (v := la.toInt64) (lo := Int64.ofNat 0) (hi := (ln - Int32.ofInt 1).toInt64) e1.1 (fun H3 h3 a1 a2 => ⟨fun n e => (by cases e), ?_⟩) (fun H3 h3 _ => ⟨fun n e => (by cases e), ?_⟩)
  · rw [y_i2l] at a1
    rw [y_i2l, y_i2l, y_sub1 b1] at a2
    have a1 : 0 ≤ la.toInt := a1
    exact T18 (p := la.toInt.toNat) (y_sq e1 h3 rfl rfl) (by omega) (by omega)
  · exact T18n (y_sq e1 h3 rfl rfl)
end WG
