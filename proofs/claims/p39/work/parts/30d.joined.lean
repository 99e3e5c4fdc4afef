/-! ===== v3: the reference's even, joined, bounds ===== -/
section WG
variable {X : aX} {C S d : Nat} {K0 : Option Value → aH → Nat → Nat → Prop} {h : aH} {nd : Int32} {sa : List Int32} {wl : List Int64}
theorem y_even_loop {a b gv : Int32} : ∀ (m : Nat) (h : aH) (sI : Int32) (o5 o6 o8 o10 : Option Value), y_wc h nd sa wl → sI.toInt + 1 = m → (∀ (r : Int32) (H : aH), y_fr h H [] [] → K0 (some (.int r)) H C S) → aOK s_P X (d + 2) a_m213 24 [some (.ref 155), some (.int a), some (.int b), some (.int gv), some (.int sI), o5, o6, none, o8, none, o10, none] [] h C S K0 := by
  intro m
  induction m with
  | zero =>
    intro h sI o5 o6 o8 o10 s hm hK
    refine w_go z_hl [24] [] 30 s.1 ?_
    refine ⟨fun _ => fun H hH => hK _ H (y_st (y_rf s.1) hH (by repeat (first | exact w_nil | refine w_cons (Or.inl (y_m rfl)) ?_ | refine w_cons (Or.inr (by assumption)) ?_)) (by repeat (first | exact w_nil | refine w_cons (Or.inl (y_m rfl)) ?_ | refine w_cons (Or.inr (by assumption)) ?_))), fun q => ?_⟩
    have q2 : ¬ (sI.toInt < (0 : Int32).toInt) := y_cif q
    rw [show (0 : Int32).toInt = 0 by decide] at q2
    omega
  | succ m ih =>
    intro h sI o5 o6 o8 o10 s hm hK
    have ink : (sI + Int32.ofInt (-1)).toInt = sI.toInt - 1 := by
      have := sI.toInt_lt
      rw [Int32.toInt_add, show (Int32.ofInt (-1)).toInt = -1 by decide]
      exact Int.bmod_eq_of_le (by omega) (by omega)
    have next : ∀ {G : aH} {o5 o6 o8 o10 : Option Value}, y_fr h G [] [] → aOK s_P X (d + 2) a_m213 117 [some (.ref 155), some (.int a), some (.int b), some (.int gv), some (.int sI), o5, o6, none, o8, none, o10, none] [] G C S K0 := by
      intro G o5 o6 o8 o10 e
      refine w_go z_hl [24] [] 30 e.1 ?_
      intro H hH
      have e2 := y_st e hH (by repeat (first | exact w_nil | refine w_cons (Or.inl (y_m rfl)) ?_ | refine w_cons (Or.inr (by assumption)) ?_)) (by repeat (first | exact w_nil | refine w_cons (Or.inl (y_m rfl)) ?_ | refine w_cons (Or.inr (by assumption)) ?_))
      exact ih H _ _ _ _ _ (y_wc_fr s e2 rfl rfl rfl) (by show (sI + Int32.ofInt (-1)).toInt + 1 = _; omega) (fun r H' f => hK r H' (y_sq e2 f rfl rfl))
    have T105 : ∀ {G : aH} {x5 : Int32} {x6 x8 x10 y : Int64}, y_fr h G [] [] → aOK s_P X (d + 2) a_m213 105 [some (.ref 155), some (.int a), some (.int b), some (.int gv), some (.int sI), some (.int x5), some (.long x6), none, some (.long x8), none, some (.long x10), none] [.long y, .long x6] G C S K0 := by
      intro G x5 x6 x8 x10 y e
      refine w_go z_hl [117] [] 30 e.1 ?_
      exact ⟨fun _ => fun H hH => next (y_st e hH (by repeat (first | exact w_nil | refine w_cons (Or.inl (y_m rfl)) ?_ | refine w_cons (Or.inr (by assumption)) ?_)) (by repeat (first | exact w_nil | refine w_cons (Or.inl (y_m rfl)) ?_ | refine w_cons (Or.inr (by assumption)) ?_))), fun _ => fun H hH => hK _ H (y_st e hH (by repeat (first | exact w_nil | refine w_cons (Or.inl (y_m rfl)) ?_ | refine w_cons (Or.inr (by assumption)) ?_)) (by repeat (first | exact w_nil | refine w_cons (Or.inl (y_m rfl)) ?_ | refine w_cons (Or.inr (by assumption)) ?_)))⟩
    have T93 : ∀ {G : aH} {x5 : Int32} {x6 x8 x10 : Int64}, y_fr h G [] [] → aOK s_P X (d + 2) a_m213 93 [some (.ref 155), some (.int a), some (.int b), some (.int gv), some (.int sI), some (.int x5), some (.long x6), none, some (.long x8), none, o10, none] [.long x10] G C S K0 := by
      intro G x5 x6 x8 x10 e
      refine w_go z_hl [] [193] 30 e.1 ?_
      intro H hH
      have e2 := y_st e hH (by repeat (first | exact w_nil | refine w_cons (Or.inl (y_m rfl)) ?_ | refine w_cons (Or.inr (by assumption)) ?_)) (by repeat (first | exact w_nil | refine w_cons (Or.inl (y_m rfl)) ?_ | refine w_cons (Or.inr (by assumption)) ?_))
      refine q_weighs (y_wc_fr s e2 rfl rfl rfl) (fun r H2 e3 _ _ => ⟨fun n e => (by cases e), ?_⟩)
      exact T105 (y_sq e2 e3 rfl rfl)
    have T79 : ∀ {G : aH} {x5 : Int32} {x6 x8 : Int64}, y_fr h G [] [] → aOK s_P X (d + 2) a_m213 79 [some (.ref 155), some (.int a), some (.int b), some (.int gv), some (.int sI), some (.int x5), some (.long x6), none, o8, none, o10, none] [.long x8] G C S K0 := by
      intro G x5 x6 x8 e
      refine w_go z_hl [] [193] 30 e.1 ?_
      intro H hH
      have e2 := y_st e hH (by repeat (first | exact w_nil | refine w_cons (Or.inl (y_m rfl)) ?_ | refine w_cons (Or.inr (by assumption)) ?_)) (by repeat (first | exact w_nil | refine w_cons (Or.inl (y_m rfl)) ?_ | refine w_cons (Or.inr (by assumption)) ?_))
      refine q_weighs (y_wc_fr s e2 rfl rfl rfl) (fun r H2 e3 _ _ => ⟨fun n e => (by cases e), ?_⟩)
      exact T93 (y_sq e2 e3 rfl rfl)
    have T65 : ∀ {G : aH} {x5 : Int32} {x6 : Int64}, y_fr h G [] [] → aOK s_P X (d + 2) a_m213 65 [some (.ref 155), some (.int a), some (.int b), some (.int gv), some (.int sI), some (.int x5), o6, none, o8, none, o10, none] [.long x6] G C S K0 := by
      intro G x5 x6 e
      refine w_go z_hl [] [193] 30 e.1 ?_
      intro H hH
      have e2 := y_st e hH (by repeat (first | exact w_nil | refine w_cons (Or.inl (y_m rfl)) ?_ | refine w_cons (Or.inr (by assumption)) ?_)) (by repeat (first | exact w_nil | refine w_cons (Or.inl (y_m rfl)) ?_ | refine w_cons (Or.inr (by assumption)) ?_))
      refine q_weighs (y_wc_fr s e2 rfl rfl rfl) (fun r H2 e3 _ _ => ⟨fun n e => (by cases e), ?_⟩)
      exact T79 (y_sq e2 e3 rfl rfl)
    have T41 : ∀ {G : aH}, y_fr h G [] [] → aOK s_P X (d + 2) a_m213 41 [some (.ref 155), some (.int a), some (.int b), some (.int gv), some (.int sI), o5, o6, none, o8, none, o10, none] [] G C S K0 := by
      intro G e
      refine w_go z_hl [] [193] 30 e.1 ?_
      intro H hH
      have e2 := y_st e hH (by repeat (first | exact w_nil | refine w_cons (Or.inl (y_m rfl)) ?_ | refine w_cons (Or.inr (by assumption)) ?_)) (by repeat (first | exact w_nil | refine w_cons (Or.inl (y_m rfl)) ?_ | refine w_cons (Or.inr (by assumption)) ?_))
      refine q_weighs (y_wc_fr s e2 rfl rfl rfl) (fun r H2 e3 _ _ => ⟨fun n e => (by cases e), ?_⟩)
      exact T65 (y_sq e2 e3 rfl rfl)
    have e0 : y_fr h h [] [] := y_rf s.1
    refine w_go z_hl [24, 41, 117] [] 30 s.1 ?_
    refine ⟨fun q => ?_, fun _ => ⟨fun _ => fun H hH => T41 (y_st e0 hH (by repeat (first | exact w_nil | refine w_cons (Or.inl (y_m rfl)) ?_ | refine w_cons (Or.inr (by assumption)) ?_)) (by repeat (first | exact w_nil | refine w_cons (Or.inl (y_m rfl)) ?_ | refine w_cons (Or.inr (by assumption)) ?_))), fun _ => fun H hH => next (y_st e0 hH (by repeat (first | exact w_nil | refine w_cons (Or.inl (y_m rfl)) ?_ | refine w_cons (Or.inr (by assumption)) ?_)) (by repeat (first | exact w_nil | refine w_cons (Or.inl (y_m rfl)) ?_ | refine w_cons (Or.inr (by assumption)) ?_)))⟩⟩
    have q2 : sI.toInt < (0 : Int32).toInt := (y_ci .lt _ _).mp q
    rw [show (0 : Int32).toInt = 0 by decide] at q2
    omega
theorem p_even (hr : w_hr z_D h) (hJ : y_J h) {a b gv : Int32} (hk : ∀ (r : Int32) (H : aH), y_fr h H [19584] [163] → y_J H → K0 (some (.int r)) H C S) : aOK s_P X (d + 3) a_m213 0 [some (.ref 155), some (.int a), some (.int b), some (.int gv), none, none, none, none, none, none, none, none] [] h C S K0 := by
  obtain ⟨nd, sm, so, sa, s1, s2, s3, s4, s5⟩ := id hJ.2.2.2.2.1
  have T12 : ∀ {G : aH}, y_fr h G [19584] [] → 0 ≤ gv.toInt → aOK s_P X (d + 3) a_m213 12 [some (.ref 155), some (.int a), some (.int b), some (.int gv), none, none, none, none, none, none, none, none] [.int (Int32.ofInt 1)] G C S K0 := by
    intro G e g0
    refine w_go z_hl [] [188] 30 e.1 ?_
    refine ⟨fun _ => fun H hH => ?_, fun q => absurd q (by decide)⟩
    have e2 := y_st e hH (by repeat (first | exact w_nil | refine w_cons (Or.inl (y_m rfl)) ?_ | refine w_cons (Or.inr (by assumption)) ?_)) (by repeat (first | exact w_nil | refine w_cons (Or.inl (y_m rfl)) ?_ | refine w_cons (Or.inr (by assumption)) ?_))
    refine q_weighsUp e2.1 (y_J_fr e2 rfl rfl hJ) (fun wl H2 e3 J3 hw => ⟨fun n e => (by cases e), ?_⟩)
    have e4 : y_fr h H2 [19584] [163] := y_sq (y_mo e2 rfl rfl) e3 rfl rfl
    have go : aOK s_P X (d + 3) a_m213 21 [some (.ref 155), some (.int a), some (.int b), some (.int gv), none, none, none, none, none, none, none, none] [] H2 C S K0 := by
      refine w_go z_hl [24] [] 30 e4.1 ?_
      intro H5 h5
      have f : y_fr H2 H5 [] [] := y_st (y_rf e4.1) h5 (by repeat (first | exact w_nil | refine w_cons (Or.inl (y_m rfl)) ?_ | refine w_cons (Or.inr (by assumption)) ?_)) (by repeat (first | exact w_nil | refine w_cons (Or.inl (y_m rfl)) ?_ | refine w_cons (Or.inr (by assumption)) ?_))
      have f1 : y_fr h H5 [19584] [163] := y_sq e4 f rfl rfl
      exact aOK_deep (d := d + 2) (by omega) (y_even_loop (gv.toInt + 1).toNat H5 _ _ _ _ _ ⟨f.1, (y_fe f1 rfl).trans s1, (y_ae f1 rfl).trans s4, y_wl_fr f (fun q => by cases q) hw⟩ (by omega) (fun r H6 e6 => hk r H6 (y_sq f1 e6 rfl rfl) (y_J_fr e6 rfl rfl (y_J_fr f rfl rfl J3))))
    exact go
  have T12n : ∀ {G : aH}, y_fr h G [19584] [] → aOK s_P X (d + 3) a_m213 12 [some (.ref 155), some (.int a), some (.int b), some (.int gv), none, none, none, none, none, none, none, none] [.int (Int32.ofInt 0)] G C S K0 := by
    intro G e
    refine w_go z_hl [] [] 30 e.1 ?_
    exact ⟨fun q => absurd q (by decide), fun _ => fun H hH => hk _ H (y_st (y_mo e rfl rfl) hH (by repeat (first | exact w_nil | refine w_cons (Or.inl (y_m rfl)) ?_ | refine w_cons (Or.inr (by assumption)) ?_)) (by repeat (first | exact w_nil | refine w_cons (Or.inl (y_m rfl)) ?_ | refine w_cons (Or.inr (by assumption)) ?_))) (y_J_fr (y_st e hH (by repeat (first | exact w_nil | refine w_cons (Or.inl (y_m rfl)) ?_ | refine w_cons (Or.inr (by assumption)) ?_)) (by repeat (first | exact w_nil | refine w_cons (Or.inl (y_m rfl)) ?_ | refine w_cons (Or.inr (by assumption)) ?_)) : y_fr h H [19584] []) rfl rfl hJ)⟩
  refine w_go z_hl [] [209] 30 hr ?_
  refine ⟨rfl, y_zini (by decide) (by decide), fun H1 h1 => ?_⟩
  have e1 : y_fr h H1 [19584] [] := y_st (y_mo (y_rf hr) rfl rfl) h1 (by repeat (first | exact w_nil | refine w_cons (Or.inl (y_m rfl)) ?_ | refine w_cons (Or.inr (by assumption)) ?_)) (by repeat (first | exact w_nil | refine w_cons (Or.inl (y_m rfl)) ?_ | refine w_cons (Or.inr (by assumption)) ?_))
  refine y_areTwo e1.1 ((y_fe e1 rfl).trans s1) (fun H2 h2 a0 a1 _ _ g0 => ⟨fun n e => (by cases e), ?_⟩) (fun H2 h2 => ⟨fun n e => (by cases e), ?_⟩)
  · exact T12 (y_sq e1 h2 rfl rfl) g0
  · exact T12n (y_sq e1 h2 rfl rfl)
theorem y_joined_loop {bits : Int32} {wh : Int64} (w1 : 1 ≤ wh.toInt) : ∀ (m : Nat) (h : aH) (n dd : Int64) (vI : Int32) (k : Nat) (o9 o11 : Option Value), y_wc h nd sa wl → vI.toInt = k → (k : Int) + m = nd.toInt → 0 ≤ n.toInt → 1 ≤ dd.toInt → (∀ (r : Int32) (H : aH), y_fr h H [19585, 19587, 19588, 19589] [154] → K0 (some (.int r)) H C S) → aOK s_P X (d + 3) a_m214 61 [some (.ref 155), some (.int bits), some (.long wh), none, some (.long n), none, some (.long dd), none, some (.int vI), o9, none, o11, none] [] h C S K0 := by
  intro m
  induction m with
  | zero =>
    intro h n dd vI k o9 o11 s hk hm n0 d1 hK
    have T194 : ∀ {G : aH}, y_fr h G [19585, 19587, 19588, 19589] [154] → aOK s_P X (d + 3) a_m214 194 [some (.ref 155), some (.int bits), some (.long wh), none, some (.long n), none, some (.long dd), none, some (.int vI), o9, none, o11, none] [] G C S K0 := by
      intro G e
      refine w_go z_hl [] [] 30 e.1 ?_
      exact fun H hH => hK _ H (y_st e hH (by repeat (first | exact w_nil | refine w_cons (Or.inl (y_m rfl)) ?_ | refine w_cons (Or.inr (by assumption)) ?_)) (by repeat (first | exact w_nil | refine w_cons (Or.inl (y_m rfl)) ?_ | refine w_cons (Or.inr (by assumption)) ?_)))
    have T190 : ∀ {G : aH} {r1 : Int32}, y_fr h G [19585, 19587, 19588, 19589] [154] → w_f G 19585 = some (.int r1) → r1.toInt = 2 → aOK s_P X (d + 3) a_m214 190 [some (.ref 155), some (.int bits), some (.long wh), none, some (.long n), none, some (.long dd), none, some (.int vI), o9, none, o11, none] [] G C S K0 := by
      intro G r1 e g hr1
      refine w_go z_hl [] [196] 30 e.1 ?_
      intro H hH
      have f : y_fr G H [] [] := y_st (y_rf e.1) hH (by repeat (first | exact w_nil | refine w_cons (Or.inl (y_m rfl)) ?_ | refine w_cons (Or.inr (by assumption)) ?_)) (by repeat (first | exact w_nil | refine w_cons (Or.inl (y_m rfl)) ?_ | refine w_cons (Or.inr (by assumption)) ?_))
      refine y_tells f.1 ((y_fe f rfl).trans g) (by omega) (by omega) (fun H2 r2 e3 _ _ => ⟨fun n e => (by cases e), ?_⟩)
      exact T194 (y_sq (y_sq e f rfl rfl) e3 rfl rfl)
    have T186 : ∀ {G : aH} {r1 : Int32} {x : Int64}, y_fr h G [19585, 19587, 19588, 19589] [154] → w_f G 19585 = some (.int r1) → r1.toInt = 2 → 0 ≤ x.toInt → aOK s_P X (d + 3) a_m214 186 [some (.ref 155), some (.int bits), some (.long wh), none, some (.long n), none, some (.long dd), none, some (.int vI), o9, none, o11, none] [.long x, .ref 155] G C S K0 := by
      intro G r1 x e g hr1 x0
      refine w_go z_hl [] [194] 30 e.1 ?_
      intro H hH
      have f : y_fr G H [] [] := y_st (y_rf e.1) hH (by repeat (first | exact w_nil | refine w_cons (Or.inl (y_m rfl)) ?_ | refine w_cons (Or.inr (by assumption)) ?_)) (by repeat (first | exact w_nil | refine w_cons (Or.inl (y_m rfl)) ?_ | refine w_cons (Or.inr (by assumption)) ?_))
      refine q_lowest (n := x) (m := wh) f.1 (by omega) w1 (fun u l H2 e3 _ _ _ _ _ _ _ => ⟨fun n e => (by cases e), ?_⟩)
      exact T190 (y_sq (y_sq e f rfl rfl) e3 rfl rfl) ((y_fe e3 rfl).trans ((y_fe f rfl).trans g)) hr1
    have T183 : ∀ {G : aH} {r1 x y : Int32}, y_fr h G [19585, 19587, 19588, 19589] [154] → w_f G 19585 = some (.int r1) → r1.toInt = 2 → aOK s_P X (d + 3) a_m214 183 [some (.ref 155), some (.int bits), some (.long wh), none, some (.long n), none, some (.long dd), none, some (.int vI), o9, none, o11, none] [.int y, .int x, .ref 155, .ref 155] G C S K0 := by
      intro G r1 x y e g hr1
      refine w_go z_hl [] [193] 30 e.1 ?_
      intro H hH
      have f : y_fr G H [] [] := y_st (y_rf e.1) hH (by repeat (first | exact w_nil | refine w_cons (Or.inl (y_m rfl)) ?_ | refine w_cons (Or.inr (by assumption)) ?_)) (by repeat (first | exact w_nil | refine w_cons (Or.inl (y_m rfl)) ?_ | refine w_cons (Or.inr (by assumption)) ?_))
      have e2 := y_sq e f rfl rfl
      refine aOK_deep (d := d + 1) (by omega) (q_weighs (y_wc_fr s e2 rfl rfl rfl) (fun r H2 e3 r0 _ => ⟨fun n e => (by cases e), ?_⟩))
      exact T186 (y_sq e2 e3 rfl rfl) ((y_fe e3 rfl).trans ((y_fe f rfl).trans g)) hr1 r0
    have T176 : ∀ {G : aH} {r1 x : Int32}, y_fr h G [19585, 19587, 19588, 19589] [154] → w_f G 19585 = some (.int r1) → r1.toInt = 2 → aOK s_P X (d + 3) a_m214 176 [some (.ref 155), some (.int bits), some (.long wh), none, some (.long n), none, some (.long dd), none, some (.int vI), o9, none, o11, none] [.int x, .ref 155, .ref 155] G C S K0 := by
      intro G r1 x e g hr1
      refine w_go z_hl [] [192] 30 e.1 ?_
      intro H hH
      have f : y_fr G H [] [] := y_st (y_rf e.1) hH (by repeat (first | exact w_nil | refine w_cons (Or.inl (y_m rfl)) ?_ | refine w_cons (Or.inr (by assumption)) ?_)) (by repeat (first | exact w_nil | refine w_cons (Or.inl (y_m rfl)) ?_ | refine w_cons (Or.inr (by assumption)) ?_))
      have e2 := y_sq e f rfl rfl
      have s2 := y_wc_fr s e2 rfl rfl rfl
      refine y_seenNot s2.1 s2.2.1 s2.2.2.1 (fun H2 e3 => ⟨fun n e => (by cases e), ?_⟩)
      exact T183 (y_sq e2 e3 rfl rfl) ((y_fe e3 rfl).trans ((y_fe f rfl).trans g)) hr1
    have T169 : ∀ {G : aH} {r1 : Int32}, y_fr h G [19585, 19587, 19588, 19589] [154] → w_f G 19585 = some (.int r1) → r1.toInt = 2 → aOK s_P X (d + 3) a_m214 169 [some (.ref 155), some (.int bits), some (.long wh), none, some (.long n), none, some (.long dd), none, some (.int vI), o9, none, o11, none] [] G C S K0 := by
      intro G r1 e g hr1
      refine w_go z_hl [] [191] 30 e.1 ?_
      intro H hH
      have f : y_fr G H [] [] := y_st (y_rf e.1) hH (by repeat (first | exact w_nil | refine w_cons (Or.inl (y_m rfl)) ?_ | refine w_cons (Or.inr (by assumption)) ?_)) (by repeat (first | exact w_nil | refine w_cons (Or.inl (y_m rfl)) ?_ | refine w_cons (Or.inr (by assumption)) ?_))
      have e2 := y_sq e f rfl rfl
      have s2 := y_wc_fr s e2 rfl rfl rfl
      refine y_seenSo s2.1 s2.2.1 s2.2.2.1 (fun H2 e3 => ⟨fun n e => (by cases e), ?_⟩)
      exact T176 (y_sq e2 e3 rfl rfl) ((y_fe e3 rfl).trans ((y_fe f rfl).trans g)) hr1
    have T163 : ∀ {G : aH} {r1 : Int32}, y_fr h G [19585, 19587, 19588, 19589] [154] → w_f G 19585 = some (.int r1) → r1.toInt = 1 → aOK s_P X (d + 3) a_m214 163 [some (.ref 155), some (.int bits), some (.long wh), none, some (.long n), none, some (.long dd), none, some (.int vI), o9, none, o11, none] [] G C S K0 := by
      intro G r1 e g hr1
      refine w_go z_hl [] [197] 30 e.1 ?_
      intro H hH
      have f : y_fr G H [] [] := y_st (y_rf e.1) hH (by repeat (first | exact w_nil | refine w_cons (Or.inl (y_m rfl)) ?_ | refine w_cons (Or.inr (by assumption)) ?_)) (by repeat (first | exact w_nil | refine w_cons (Or.inl (y_m rfl)) ?_ | refine w_cons (Or.inr (by assumption)) ?_))
      refine y_enters f.1 ((y_fe f rfl).trans g) (by omega) (by omega) (fun H2 r2 e3 g3 hr3 => ⟨fun n e => (by cases e), ?_⟩)
      exact T169 (y_sq (y_sq e f rfl rfl) e3 rfl rfl) g3 (by omega)
    have T152 : ∀ {G : aH}, y_fr h G [19585, 19587, 19588, 19589] [154] → aOK s_P X (d + 3) a_m214 152 [some (.ref 155), some (.int bits), some (.long wh), none, some (.long n), none, some (.long dd), none, some (.int vI), o9, none, o11, none] [] G C S K0 := by
      intro G e
      refine w_go z_hl [] [197] 30 e.1 ?_
      refine ⟨rfl, y_zini (by decide) (by decide), fun H hH => ?_⟩
      have e2 := y_st e hH (by repeat (first | exact w_nil | refine w_cons (Or.inl (y_m rfl)) ?_ | refine w_cons (Or.inr (by assumption)) ?_)) (by repeat (first | exact w_nil | refine w_cons (Or.inl (y_m rfl)) ?_ | refine w_cons (Or.inr (by assumption)) ?_))
      refine y_enters e2.1 (hH.2.1 19585 _ rfl) (by decide) (by decide) (fun H2 r2 e3 g3 hr3 => ⟨fun n e => (by cases e), ?_⟩)
      exact T163 (y_sq e2 e3 rfl rfl) g3 (by rw [hr3]; decide)
    have e0 : y_fr h h [19585, 19587, 19588, 19589] [154] := y_mo (y_rf s.1) rfl rfl
    refine w_go z_hl [61, 152] [] 30 s.1 ?_
    intro x hx _ _
    obtain rfl := y_fi s.2.1 hx
    refine ⟨fun _ => ?_, fun q => ?_⟩
    · intro y hy _ _
      exact ⟨fun _ => fun H hH => T152 (y_st e0 hH (by repeat (first | exact w_nil | refine w_cons (Or.inl (y_m rfl)) ?_ | refine w_cons (Or.inr (by assumption)) ?_)) (by repeat (first | exact w_nil | refine w_cons (Or.inl (y_m rfl)) ?_ | refine w_cons (Or.inr (by assumption)) ?_))), fun _ => fun H hH => hK _ H (y_st e0 hH (by repeat (first | exact w_nil | refine w_cons (Or.inl (y_m rfl)) ?_ | refine w_cons (Or.inr (by assumption)) ?_)) (by repeat (first | exact w_nil | refine w_cons (Or.inl (y_m rfl)) ?_ | refine w_cons (Or.inr (by assumption)) ?_)))⟩
    · have : ¬ (nd.toInt ≤ vI.toInt) := y_cif q
      omega
  | succ m ih =>
    intro h n dd vI k o9 o11 s hk hm n0 d1 hK
    obtain ⟨nb0, nb10⟩ := y_ndb s.1 s.2.1
    have ink : (vI + Int32.ofInt 1).toInt = ((k + 1 : Nat) : Int) := by rw [y_inc (by omega), hk]; rfl
    have next : ∀ {G : aH} {n' dd' : Int64} {o9 o11 : Option Value}, y_fr h G [19585, 19587, 19588, 19589] [154] → 0 ≤ n'.toInt → 1 ≤ dd'.toInt → aOK s_P X (d + 3) a_m214 136 [some (.ref 155), some (.int bits), some (.long wh), none, some (.long n'), none, some (.long dd'), none, some (.int vI), o9, none, o11, none] [] G C S K0 := by
      intro G n' dd' o9 o11 e x0 x1
      refine w_go z_hl [61] [] 30 e.1 ?_
      intro H hH
      have e2 := y_st e hH (by repeat (first | exact w_nil | refine w_cons (Or.inl (y_m rfl)) ?_ | refine w_cons (Or.inr (by assumption)) ?_)) (by repeat (first | exact w_nil | refine w_cons (Or.inl (y_m rfl)) ?_ | refine w_cons (Or.inr (by assumption)) ?_))
      exact ih H _ _ _ (k + 1) _ _ (y_wc_fr s e2 rfl rfl rfl) ink (by omega) x0 x1 (fun r H' f => hK r H' (y_sq e2 f rfl rfl))
    have T124 : ∀ {G : aH} {p q u l : Int64}, y_fr h G [19585, 19587, 19588, 19589] [154] → w_f G 19587 = some (.long u) → w_f G 19588 = some (.long l) → 0 ≤ u.toInt → 1 ≤ l.toInt → aOK s_P X (d + 3) a_m214 124 [some (.ref 155), some (.int bits), some (.long wh), none, some (.long n), none, some (.long dd), none, some (.int vI), some (.long p), none, some (.long q), none] [] G C S K0 := by
      intro G p q u l e f1 f2 u0 l1
      refine w_go z_hl [136] [] 30 e.1 ?_
      intro x hx _ _
      obtain rfl := y_fl f1 hx
      intro y hy _ _
      obtain rfl := y_fl f2 hy
      exact fun H hH => next (y_st e hH (by repeat (first | exact w_nil | refine w_cons (Or.inl (y_m rfl)) ?_ | refine w_cons (Or.inr (by assumption)) ?_)) (by repeat (first | exact w_nil | refine w_cons (Or.inl (y_m rfl)) ?_ | refine w_cons (Or.inr (by assumption)) ?_))) u0 l1
    have T92 : ∀ {G : aH} {u l : Int64}, y_fr h G [19585, 19587, 19588, 19589] [154] → w_f G 19587 = some (.long u) → w_f G 19588 = some (.long l) → 0 ≤ u.toInt → 1 ≤ l.toInt → aOK s_P X (d + 3) a_m214 92 [some (.ref 155), some (.int bits), some (.long wh), none, some (.long n), none, some (.long dd), none, some (.int vI), o9, none, o11, none] [] G C S K0 := by
      intro G u l e f1 f2 u0 l1
      refine w_go z_hl [] [215] 40 e.1 ?_
      intro x hx _ _
      obtain rfl := y_fl f1 hx
      intro y hy _ _
      obtain rfl := y_fl f2 hy
      refine ⟨rfl, y_zin (y_l64 n).1 (y_l64 n).2, rfl, y_zin (by show 0 ≤ dd.toInt; omega) (y_l64 dd).2, fun H hH => ?_⟩
      have e2 := y_st e hH (by repeat (first | exact w_nil | refine w_cons (Or.inl (y_m rfl)) ?_ | refine w_cons (Or.inr (by assumption)) ?_)) (by repeat (first | exact w_nil | refine w_cons (Or.inl (y_m rfl)) ?_ | refine w_cons (Or.inr (by assumption)) ?_))
      refine y_times (n := u) (m := l) e2.1 u0 l1 (hH.2.1 19587 _ rfl) (hH.2.1 19588 _ rfl) n0 d1 (fun u' l' H2 a0 b0 a1 b1 g1 g2 e3 => ⟨fun n e => (by cases e), ?_⟩)
      exact T124 (y_sq e2 e3 rfl rfl) g1 g2 a0 b0
    have T88 : ∀ {G : aH} {x : Int64}, y_fr h G [19585, 19587, 19588, 19589] [154] → 0 ≤ x.toInt → aOK s_P X (d + 3) a_m214 88 [some (.ref 155), some (.int bits), some (.long wh), none, some (.long n), none, some (.long dd), none, some (.int vI), o9, none, o11, none] [.long x, .ref 155] G C S K0 := by
      intro G x e x0
      refine w_go z_hl [] [194] 30 e.1 ?_
      intro H hH
      have e2 := y_st e hH (by repeat (first | exact w_nil | refine w_cons (Or.inl (y_m rfl)) ?_ | refine w_cons (Or.inr (by assumption)) ?_)) (by repeat (first | exact w_nil | refine w_cons (Or.inl (y_m rfl)) ?_ | refine w_cons (Or.inr (by assumption)) ?_))
      refine q_lowest (n := x) (m := wh) e2.1 (by omega) w1 (fun u l H2 e3 g1 g2 g3 g4 g5 g6 g7 => ⟨fun n e => (by cases e), ?_⟩)
      exact T92 (y_sq e2 e3 rfl rfl) g1 g2 (g7 x0) g3
    have e0 : y_fr h h [19585, 19587, 19588, 19589] [154] := y_mo (y_rf s.1) rfl rfl
    have T79 : ∀ {G : aH}, y_fr h G [19585, 19587, 19588, 19589] [154] → aOK s_P X (d + 3) a_m214 79 [some (.ref 155), some (.int bits), some (.long wh), none, some (.long n), none, some (.long dd), none, some (.int vI), o9, none, o11, none] [] G C S K0 := by
      intro G e
      refine w_go z_hl [] [190] 30 e.1 ?_
      intro H hH
      have e2 := y_st e hH (by repeat (first | exact w_nil | refine w_cons (Or.inl (y_m rfl)) ?_ | refine w_cons (Or.inr (by assumption)) ?_)) (by repeat (first | exact w_nil | refine w_cons (Or.inl (y_m rfl)) ?_ | refine w_cons (Or.inr (by assumption)) ?_))
      refine q_nowWith (b := true) (y_wc_fr s e2 rfl rfl rfl) (fun r H2 e3 r0 _ => ⟨fun n e => (by cases e), ?_⟩)
      exact T88 (y_sq e2 e3 rfl rfl) r0
    refine w_go z_hl [61, 79, 136] [] 30 s.1 ?_
    intro x hx _ _
    obtain rfl := y_fi s.2.1 hx
    refine ⟨fun q => ?_, fun _ => ⟨fun _ => ⟨by decide, ⟨fun _ => fun H hH => next (y_st e0 hH (by repeat (first | exact w_nil | refine w_cons (Or.inl (y_m rfl)) ?_ | refine w_cons (Or.inr (by assumption)) ?_)) (by repeat (first | exact w_nil | refine w_cons (Or.inl (y_m rfl)) ?_ | refine w_cons (Or.inr (by assumption)) ?_))) n0 d1, fun q => absurd q (by decide)⟩⟩, fun _ => ⟨by decide, ⟨fun q => absurd q (by decide), fun _ => fun H hH => T79 (y_st e0 hH (by repeat (first | exact w_nil | refine w_cons (Or.inl (y_m rfl)) ?_ | refine w_cons (Or.inr (by assumption)) ?_)) (by repeat (first | exact w_nil | refine w_cons (Or.inl (y_m rfl)) ?_ | refine w_cons (Or.inr (by assumption)) ?_)))⟩⟩⟩⟩
    have : nd.toInt ≤ vI.toInt := (y_ci .ge _ _).mp q
    omega
theorem p_joined (hr : w_hr z_D h) (hJ : y_J h) {bits : Int32} (hk : ∀ (r : Int32) (H : aH), y_fr h H [19584, 19585, 19587, 19588, 19589] [154, 163] → y_J H → K0 (some (.int r)) H C S) : aOK s_P X (d + 4) a_m214 0 [some (.ref 155), some (.int bits), none, none, none, none, none, none, none, none, none, none, none] [] h C S K0 := by
  obtain ⟨nd, sm, so, sa, s1, s2, s3, s4, s5⟩ := id hJ.2.2.2.2.1
  obtain ⟨b1, b2⟩ := y_ndb hr s1
  have out : ∀ {G : aH} {r : Int32}, y_fr h G [19584] [] → K0 (some (.int r)) G C S := fun g => hk _ _ (y_mo g rfl rfl) (y_J_fr g rfl rfl hJ)
  have T27 : ∀ {G0 G : aH} {wl : List Int64} {wh : Int64}, y_fr h G0 [19584] [163] → y_J G0 → y_wl G0 wl → y_fr G0 G [] [] → 0 ≤ wh.toInt → aOK s_P X (d + 4) a_m214 27 [some (.ref 155), some (.int bits), none, none, none, none, none, none, none, none, none, none, none] [.long wh] G C S K0 := by
    intro G0 G wl wh e0 J0 hw e w0
    refine w_go z_hl [61] [] 40 e.1 ?_
    refine ⟨fun q => ⟨rfl, y_zini (by decide) (by decide), rfl, y_zin (by decide) (by decide), rfl, y_zin (by decide) (by decide), fun H hH => ?_⟩, fun _ => fun H hH => ?_⟩
    · have q2 : wh.toInt ≠ (Int64.ofNat 0).toInt := (y_cl .ne _ _).mp q
      rw [show (Int64.ofNat 0).toInt = 0 by decide] at q2
      have f : y_fr G0 H [19585, 19587, 19588, 19589] [154] := y_st (y_mo e rfl rfl) hH (by repeat (first | exact w_nil | refine w_cons (Or.inl (y_m rfl)) ?_ | refine w_cons (Or.inr (by assumption)) ?_)) (by repeat (first | exact w_nil | refine w_cons (Or.inl (y_m rfl)) ?_ | refine w_cons (Or.inr (by assumption)) ?_))
      have s0 : y_wc G0 nd sa wl := ⟨e0.1, (y_fe e0 rfl).trans s1, (y_ae e0 rfl).trans s4, hw⟩
      refine aOK_deep (d := d + 3) (by omega) (y_joined_loop (by omega) nd.toInt.toNat H _ _ _ 0 _ _ (y_wc_fr s0 f rfl rfl rfl) rfl (by omega) (by decide) (by decide) (fun r H5 e5 => ?_))
      have f5 := y_sq f e5 rfl rfl
      exact hk r H5 (y_sq (y_mo e0 rfl rfl) f5 rfl rfl) (y_J_fr f5 rfl rfl J0)
    · have f : y_fr G0 H [] [] := y_st e hH (by repeat (first | exact w_nil | refine w_cons (Or.inl (y_m rfl)) ?_ | refine w_cons (Or.inr (by assumption)) ?_)) (by repeat (first | exact w_nil | refine w_cons (Or.inl (y_m rfl)) ?_ | refine w_cons (Or.inr (by assumption)) ?_))
      exact hk _ H (y_sq (y_mo e0 rfl rfl) f rfl rfl) (y_J_fr f rfl rfl J0)
  have T23 : ∀ {G0 : aH} {wl : List Int64}, y_fr h G0 [19584] [163] → y_J G0 → y_wl G0 wl → aOK s_P X (d + 4) a_m214 23 [some (.ref 155), some (.int bits), none, none, none, none, none, none, none, none, none, none, none] [] G0 C S K0 := by
    intro G0 wl e0 J0 hw
    refine w_go z_hl [] [189] 30 e0.1 ?_
    intro H hH
    have f : y_fr G0 H [] [] := y_st (y_rf e0.1) hH (by repeat (first | exact w_nil | refine w_cons (Or.inl (y_m rfl)) ?_ | refine w_cons (Or.inr (by assumption)) ?_)) (by repeat (first | exact w_nil | refine w_cons (Or.inl (y_m rfl)) ?_ | refine w_cons (Or.inr (by assumption)) ?_))
    have f1 : y_fr h H [19584] [163] := y_sq e0 f rfl rfl
    refine q_now ⟨f.1, (y_fe f1 rfl).trans s1, (y_ae f1 rfl).trans s4, y_wl_fr f (fun q => by cases q) hw⟩ (fun r H2 e3 r0 r8 => ⟨fun n e => (by cases e), ?_⟩)
    exact T27 e0 J0 hw (y_sq f e3 rfl rfl) r0
  have T10 : ∀ {G : aH} {b : Bool}, y_fr h G [19584] [] → aOK s_P X (d + 4) a_m214 10 [some (.ref 155), some (.int bits), none, none, none, none, none, none, none, none, none, none, none] [.int (y_01 b)] G C S K0 := by
    intro G b e
    refine w_go z_hl [] [188] 30 e.1 ?_
    refine ⟨fun _ => fun H hH => out (y_st e hH (by repeat (first | exact w_nil | refine w_cons (Or.inl (y_m rfl)) ?_ | refine w_cons (Or.inr (by assumption)) ?_)) (by repeat (first | exact w_nil | refine w_cons (Or.inl (y_m rfl)) ?_ | refine w_cons (Or.inr (by assumption)) ?_))), fun _ => ⟨fun _ => fun H hH => ?_, fun _ => fun H hH => out (y_st e hH (by repeat (first | exact w_nil | refine w_cons (Or.inl (y_m rfl)) ?_ | refine w_cons (Or.inr (by assumption)) ?_)) (by repeat (first | exact w_nil | refine w_cons (Or.inl (y_m rfl)) ?_ | refine w_cons (Or.inr (by assumption)) ?_)))⟩⟩
    have e2 := y_st e hH (by repeat (first | exact w_nil | refine w_cons (Or.inl (y_m rfl)) ?_ | refine w_cons (Or.inr (by assumption)) ?_)) (by repeat (first | exact w_nil | refine w_cons (Or.inl (y_m rfl)) ?_ | refine w_cons (Or.inr (by assumption)) ?_))
    refine q_weighsUp e2.1 (y_J_fr e2 rfl rfl hJ) (fun wl H2 e3 J3 hw => ⟨fun n e => (by cases e), ?_⟩)
    exact T23 (y_sq (y_mo e2 rfl rfl) e3 rfl rfl) J3 hw
  refine w_go z_hl [] [174] 30 hr ?_
  refine ⟨rfl, y_zini (by decide) (by decide), fun H1 h1 => ?_⟩
  have e1 : y_fr h H1 [19584] [] := y_st (y_mo (y_rf hr) rfl rfl) h1 (by repeat (first | exact w_nil | refine w_cons (Or.inl (y_m rfl)) ?_ | refine w_cons (Or.inr (by assumption)) ?_)) (by repeat (first | exact w_nil | refine w_cons (Or.inl (y_m rfl)) ?_ | refine w_cons (Or.inr (by assumption)) ?_))
  refine q_isSet (v := bits) e1.1 ((y_fe e1 rfl).trans s1) (fun H2 v h2 hv hv2 hvc => ⟨fun n e => (by cases e), ?_⟩) (fun H2 h2 => ⟨fun n e => (by cases e), ?_⟩)
  · exact T10 (y_sq e1 h2 rfl rfl)
  · exact T10 (y_sq e1 h2 rfl rfl)
theorem y_bounds_loop {bits : Int32} {wh : Int64} (w1 : 1 ≤ wh.toInt) (w8 : wh.toInt ≤ 100000000) : ∀ (m : Nat) (h : aH) (su le : Int64) (vI : Int32) (k : Nat) (o9 : Option Value), y_wc h nd sa wl → vI.toInt = k → (k : Int) + m = nd.toInt → -((k : Int) * 100000000) ≤ su.toInt → su.toInt ≤ (k + 1) * 100000000 → 0 ≤ le.toInt → (∀ (r : Int32) (H : aH), y_fr h H [19585, 19587, 19588] [154] → K0 (some (.int r)) H C S) → aOK s_P X (d + 3) a_m217 46 [some (.ref 155), some (.int bits), some (.long wh), none, some (.long su), none, some (.long le), none, some (.int vI), o9, none] [] h C S K0 := by
  intro m
  induction m with
  | zero =>
    intro h su le vI k o9 s hk hm u0 u1 l0 hK
    obtain ⟨nb0, nb10⟩ := y_ndb s.1 s.2.1
    have T129 : ∀ {G : aH}, y_fr h G [19585, 19587, 19588] [154] → aOK s_P X (d + 3) a_m217 129 [some (.ref 155), some (.int bits), some (.long wh), none, some (.long su), none, some (.long le), none, some (.int vI), o9, none] [] G C S K0 := by
      intro G e
      refine w_go z_hl [] [] 30 e.1 ?_
      exact fun H hH => hK _ H (y_st e hH (by repeat (first | exact w_nil | refine w_cons (Or.inl (y_m rfl)) ?_ | refine w_cons (Or.inr (by assumption)) ?_)) (by repeat (first | exact w_nil | refine w_cons (Or.inl (y_m rfl)) ?_ | refine w_cons (Or.inr (by assumption)) ?_)))
    have T125 : ∀ {G : aH} {r1 : Int32}, y_fr h G [19585, 19587, 19588] [154] → w_f G 19585 = some (.int r1) → r1.toInt = 2 → aOK s_P X (d + 3) a_m217 125 [some (.ref 155), some (.int bits), some (.long wh), none, some (.long su), none, some (.long le), none, some (.int vI), o9, none] [] G C S K0 := by
      intro G r1 e g hr1
      refine w_go z_hl [] [196] 30 e.1 ?_
      intro H hH
      have f : y_fr G H [] [] := y_st (y_rf e.1) hH (by repeat (first | exact w_nil | refine w_cons (Or.inl (y_m rfl)) ?_ | refine w_cons (Or.inr (by assumption)) ?_)) (by repeat (first | exact w_nil | refine w_cons (Or.inl (y_m rfl)) ?_ | refine w_cons (Or.inr (by assumption)) ?_))
      refine y_tells f.1 ((y_fe f rfl).trans g) (by omega) (by omega) (fun H2 r2 e3 _ _ => ⟨fun n e => (by cases e), ?_⟩)
      exact T129 (y_sq (y_sq e f rfl rfl) e3 rfl rfl)
    have T118 : ∀ {G : aH} {r1 : Int32}, y_fr h G [19585, 19587, 19588] [154] → w_f G 19585 = some (.int r1) → r1.toInt = 2 → aOK s_P X (d + 3) a_m217 118 [some (.ref 155), some (.int bits), some (.long wh), none, some (.long su), none, some (.long le), none, some (.int vI), o9, none] [] G C S K0 := by
      intro G r1 e g hr1
      refine w_go z_hl [] [194] 30 e.1 ?_
      intro H hH
      have f : y_fr G H [] [] := y_st (y_rf e.1) hH (by repeat (first | exact w_nil | refine w_cons (Or.inl (y_m rfl)) ?_ | refine w_cons (Or.inr (by assumption)) ?_)) (by repeat (first | exact w_nil | refine w_cons (Or.inl (y_m rfl)) ?_ | refine w_cons (Or.inr (by assumption)) ?_))
      refine q_lowest (n := le) (m := wh) f.1 (by omega) w1 (fun u l H2 e3 _ _ _ _ _ _ _ => ⟨fun n e => (by cases e), ?_⟩)
      exact T125 (y_sq (y_sq e f rfl rfl) e3 rfl rfl) ((y_fe e3 rfl).trans ((y_fe f rfl).trans g)) hr1
    have T114 : ∀ {G : aH} {r1 : Int32}, y_fr h G [19585, 19587, 19588] [154] → w_f G 19585 = some (.int r1) → r1.toInt = 0 → aOK s_P X (d + 3) a_m217 114 [some (.ref 155), some (.int bits), some (.long wh), none, some (.long su), none, some (.long le), none, some (.int vI), o9, none] [] G C S K0 := by
      intro G r1 e g hr1
      refine w_go z_hl [] [196] 30 e.1 ?_
      intro H hH
      have f : y_fr G H [] [] := y_st (y_rf e.1) hH (by repeat (first | exact w_nil | refine w_cons (Or.inl (y_m rfl)) ?_ | refine w_cons (Or.inr (by assumption)) ?_)) (by repeat (first | exact w_nil | refine w_cons (Or.inl (y_m rfl)) ?_ | refine w_cons (Or.inr (by assumption)) ?_))
      refine y_tells f.1 ((y_fe f rfl).trans g) (by omega) (by omega) (fun H2 r2 e3 g3 hr3 => ⟨fun n e => (by cases e), ?_⟩)
      exact T118 (y_sq (y_sq e f rfl rfl) e3 rfl rfl) g3 (by omega)
    have T110 : ∀ {G : aH} {r1 : Int32} {x : Int64}, y_fr h G [19585, 19587, 19588] [154] → w_f G 19585 = some (.int r1) → r1.toInt = 0 → -2000000000 ≤ x.toInt → aOK s_P X (d + 3) a_m217 110 [some (.ref 155), some (.int bits), some (.long wh), none, some (.long su), none, some (.long le), none, some (.int vI), o9, none] [.long x, .ref 155] G C S K0 := by
      intro G r1 x e g hr1 x0
      refine w_go z_hl [] [194] 30 e.1 ?_
      intro H hH
      have f : y_fr G H [] [] := y_st (y_rf e.1) hH (by repeat (first | exact w_nil | refine w_cons (Or.inl (y_m rfl)) ?_ | refine w_cons (Or.inr (by assumption)) ?_)) (by repeat (first | exact w_nil | refine w_cons (Or.inl (y_m rfl)) ?_ | refine w_cons (Or.inr (by assumption)) ?_))
      refine q_lowest (n := x) (m := wh) f.1 (by omega) w1 (fun u l H2 e3 _ _ _ _ _ _ _ => ⟨fun n e => (by cases e), ?_⟩)
      exact T114 (y_sq (y_sq e f rfl rfl) e3 rfl rfl) ((y_fe e3 rfl).trans ((y_fe f rfl).trans g)) hr1
    have e0 : y_fr h h [19585, 19587, 19588] [154] := y_mo (y_rf s.1) rfl rfl
    refine w_go z_hl [46, 110] [] 40 s.1 ?_
    intro x hx _ _
    obtain rfl := y_fi s.2.1 hx
    refine ⟨fun _ => ⟨rfl, y_zini (by decide) (by decide), ⟨fun _ => fun H hH => T110 (y_st e0 hH (by repeat (first | exact w_nil | refine w_cons (Or.inl (y_m rfl)) ?_ | refine w_cons (Or.inr (by assumption)) ?_)) (by repeat (first | exact w_nil | refine w_cons (Or.inl (y_m rfl)) ?_ | refine w_cons (Or.inr (by assumption)) ?_))) (hH.2.1 19585 _ rfl) rfl (by omega), fun _ => fun H hH => T110 (y_st e0 hH (by repeat (first | exact w_nil | refine w_cons (Or.inl (y_m rfl)) ?_ | refine w_cons (Or.inr (by assumption)) ?_)) (by repeat (first | exact w_nil | refine w_cons (Or.inl (y_m rfl)) ?_ | refine w_cons (Or.inr (by assumption)) ?_))) (hH.2.1 19585 _ rfl) rfl (by decide)⟩⟩, fun q => ?_⟩
    have : ¬ (nd.toInt ≤ vI.toInt) := y_cif q
    omega
  | succ m ih =>
    intro h su le vI k o9 s hk hm u0 u1 l0 hK
    obtain ⟨nb0, nb10⟩ := y_ndb s.1 s.2.1
    have ink : (vI + Int32.ofInt 1).toInt = ((k + 1 : Nat) : Int) := by rw [y_inc (by omega), hk]; rfl
    have next : ∀ {G : aH} {su' le' : Int64} {o9 : Option Value}, y_fr h G [19585, 19587, 19588] [154] → -(((k + 1 : Nat) : Int) * 100000000) ≤ su'.toInt → su'.toInt ≤ ((k + 1 : Nat) + 1) * 100000000 → 0 ≤ le'.toInt → aOK s_P X (d + 3) a_m217 92 [some (.ref 155), some (.int bits), some (.long wh), none, some (.long su'), none, some (.long le'), none, some (.int vI), o9, none] [] G C S K0 := by
      intro G su' le' o9 e x0 x1 x2
      refine w_go z_hl [46] [] 30 e.1 ?_
      intro H hH
      have e2 := y_st e hH (by repeat (first | exact w_nil | refine w_cons (Or.inl (y_m rfl)) ?_ | refine w_cons (Or.inr (by assumption)) ?_)) (by repeat (first | exact w_nil | refine w_cons (Or.inl (y_m rfl)) ?_ | refine w_cons (Or.inr (by assumption)) ?_))
      exact ih H _ _ _ (k + 1) _ (y_wc_fr s e2 rfl rfl rfl) ink (by omega) x0 x1 x2 (fun r H' f => hK r H' (y_sq e2 f rfl rfl))
    have T72 : ∀ {G : aH} {x : Int64}, y_fr h G [19585, 19587, 19588] [154] → 0 ≤ x.toInt → x.toInt ≤ 100000000 → aOK s_P X (d + 3) a_m217 72 [some (.ref 155), some (.int bits), some (.long wh), none, some (.long su), none, some (.long le), none, some (.int vI), o9, none] [.long x] G C S K0 := by
      intro G x e x0 x8
      have a1 : (x - wh).toInt = x.toInt - wh.toInt := y_lsub (by omega) (by omega)
      have a2 : (su + (x - wh)).toInt = su.toInt + (x.toInt - wh.toInt) := by rw [y_add (by omega) (by omega), a1]
      refine w_go z_hl [92] [] 40 e.1 ?_
      refine ⟨fun _ => fun H hH => next (y_st e hH (by repeat (first | exact w_nil | refine w_cons (Or.inl (y_m rfl)) ?_ | refine w_cons (Or.inr (by assumption)) ?_)) (by repeat (first | exact w_nil | refine w_cons (Or.inl (y_m rfl)) ?_ | refine w_cons (Or.inr (by assumption)) ?_))) (by show _ ≤ (su + (x - wh)).toInt; omega) (by show (su + (x - wh)).toInt ≤ _; omega) x0, fun _ => fun H hH => next (y_st e hH (by repeat (first | exact w_nil | refine w_cons (Or.inl (y_m rfl)) ?_ | refine w_cons (Or.inr (by assumption)) ?_)) (by repeat (first | exact w_nil | refine w_cons (Or.inl (y_m rfl)) ?_ | refine w_cons (Or.inr (by assumption)) ?_))) (by show _ ≤ (su + (x - wh)).toInt; omega) (by show (su + (x - wh)).toInt ≤ _; omega) l0⟩
    have e0 : y_fr h h [19585, 19587, 19588] [154] := y_mo (y_rf s.1) rfl rfl
    have T64 : ∀ {G : aH}, y_fr h G [19585, 19587, 19588] [154] → aOK s_P X (d + 3) a_m217 64 [some (.ref 155), some (.int bits), some (.long wh), none, some (.long su), none, some (.long le), none, some (.int vI), o9, none] [] G C S K0 := by
      intro G e
      refine w_go z_hl [] [190] 30 e.1 ?_
      intro H hH
      have e2 := y_st e hH (by repeat (first | exact w_nil | refine w_cons (Or.inl (y_m rfl)) ?_ | refine w_cons (Or.inr (by assumption)) ?_)) (by repeat (first | exact w_nil | refine w_cons (Or.inl (y_m rfl)) ?_ | refine w_cons (Or.inr (by assumption)) ?_))
      refine q_nowWith (b := true) (y_wc_fr s e2 rfl rfl rfl) (fun r H2 e3 r0 r8 => ⟨fun n e => (by cases e), ?_⟩)
      exact T72 (y_sq e2 e3 rfl rfl) r0 r8
    refine w_go z_hl [46, 64, 92] [] 30 s.1 ?_
    intro x hx _ _
    obtain rfl := y_fi s.2.1 hx
    refine ⟨fun q => ?_, fun _ => ⟨fun _ => ⟨by decide, ⟨fun _ => fun H hH => next (y_st e0 hH (by repeat (first | exact w_nil | refine w_cons (Or.inl (y_m rfl)) ?_ | refine w_cons (Or.inr (by assumption)) ?_)) (by repeat (first | exact w_nil | refine w_cons (Or.inl (y_m rfl)) ?_ | refine w_cons (Or.inr (by assumption)) ?_))) (by omega) (by omega) l0, fun q => absurd q (by decide)⟩⟩, fun _ => ⟨by decide, ⟨fun q => absurd q (by decide), fun _ => fun H hH => T64 (y_st e0 hH (by repeat (first | exact w_nil | refine w_cons (Or.inl (y_m rfl)) ?_ | refine w_cons (Or.inr (by assumption)) ?_)) (by repeat (first | exact w_nil | refine w_cons (Or.inl (y_m rfl)) ?_ | refine w_cons (Or.inr (by assumption)) ?_)))⟩⟩⟩⟩
    have : nd.toInt ≤ vI.toInt := (y_ci .ge _ _).mp q
    omega
theorem p_bounds (hr : w_hr z_D h) (hJ : y_J h) {bits : Int32} (hk : ∀ (r : Int32) (H : aH), y_fr h H [19584, 19585, 19587, 19588] [154, 163] → y_J H → K0 (some (.int r)) H C S) : aOK s_P X (d + 4) a_m217 0 [some (.ref 155), some (.int bits), none, none, none, none, none, none, none, none, none] [] h C S K0 := by
  obtain ⟨nd, sm, so, sa, s1, s2, s3, s4, s5⟩ := id hJ.2.2.2.2.1
  obtain ⟨b1, b2⟩ := y_ndb hr s1
  have out : ∀ {G : aH} {r : Int32}, y_fr h G [19584] [] → K0 (some (.int r)) G C S := fun g => hk _ _ (y_mo g rfl rfl) (y_J_fr g rfl rfl hJ)
  have T27 : ∀ {G0 G : aH} {wl : List Int64} {wh : Int64}, y_fr h G0 [19584] [163] → y_J G0 → y_wl G0 wl → y_fr G0 G [] [] → 0 ≤ wh.toInt → wh.toInt ≤ 100000000 → aOK s_P X (d + 4) a_m217 27 [some (.ref 155), some (.int bits), none, none, none, none, none, none, none, none, none] [.long wh] G C S K0 := by
    intro G0 G wl wh e0 J0 hw e w0 w8
    refine w_go z_hl [46] [] 40 e.1 ?_
    refine ⟨fun q => fun H hH => ?_, fun _ => fun H hH => ?_⟩
    · have q2 : wh.toInt ≠ (Int64.ofNat 0).toInt := (y_cl .ne _ _).mp q
      rw [show (Int64.ofNat 0).toInt = 0 by decide] at q2
      have f : y_fr G0 H [19585, 19587, 19588] [154] := y_st (y_mo e rfl rfl) hH (by repeat (first | exact w_nil | refine w_cons (Or.inl (y_m rfl)) ?_ | refine w_cons (Or.inr (by assumption)) ?_)) (by repeat (first | exact w_nil | refine w_cons (Or.inl (y_m rfl)) ?_ | refine w_cons (Or.inr (by assumption)) ?_))
      have s0 : y_wc G0 nd sa wl := ⟨e0.1, (y_fe e0 rfl).trans s1, (y_ae e0 rfl).trans s4, hw⟩
      refine aOK_deep (d := d + 3) (by omega) (y_bounds_loop (by omega) w8 nd.toInt.toNat H _ _ _ 0 _ (y_wc_fr s0 f rfl rfl rfl) rfl (by omega) (by omega) (by omega) w0 (fun r H5 e5 => ?_))
      have f5 := y_sq f e5 rfl rfl
      exact hk r H5 (y_sq (y_mo e0 rfl rfl) f5 rfl rfl) (y_J_fr f5 rfl rfl J0)
    · have f : y_fr G0 H [] [] := y_st e hH (by repeat (first | exact w_nil | refine w_cons (Or.inl (y_m rfl)) ?_ | refine w_cons (Or.inr (by assumption)) ?_)) (by repeat (first | exact w_nil | refine w_cons (Or.inl (y_m rfl)) ?_ | refine w_cons (Or.inr (by assumption)) ?_))
      exact hk _ H (y_sq (y_mo e0 rfl rfl) f rfl rfl) (y_J_fr f rfl rfl J0)
  have T23 : ∀ {G0 : aH} {wl : List Int64}, y_fr h G0 [19584] [163] → y_J G0 → y_wl G0 wl → aOK s_P X (d + 4) a_m217 23 [some (.ref 155), some (.int bits), none, none, none, none, none, none, none, none, none] [] G0 C S K0 := by
    intro G0 wl e0 J0 hw
    refine w_go z_hl [] [189] 30 e0.1 ?_
    intro H hH
    have f : y_fr G0 H [] [] := y_st (y_rf e0.1) hH (by repeat (first | exact w_nil | refine w_cons (Or.inl (y_m rfl)) ?_ | refine w_cons (Or.inr (by assumption)) ?_)) (by repeat (first | exact w_nil | refine w_cons (Or.inl (y_m rfl)) ?_ | refine w_cons (Or.inr (by assumption)) ?_))
    have f1 : y_fr h H [19584] [163] := y_sq e0 f rfl rfl
    refine q_now ⟨f.1, (y_fe f1 rfl).trans s1, (y_ae f1 rfl).trans s4, y_wl_fr f (fun q => by cases q) hw⟩ (fun r H2 e3 r0 r8 => ⟨fun n e => (by cases e), ?_⟩)
    exact T27 e0 J0 hw (y_sq f e3 rfl rfl) r0 r8
  have T10 : ∀ {G : aH} {b : Bool}, y_fr h G [19584] [] → aOK s_P X (d + 4) a_m217 10 [some (.ref 155), some (.int bits), none, none, none, none, none, none, none, none, none] [.int (y_01 b)] G C S K0 := by
    intro G b e
    refine w_go z_hl [] [188] 30 e.1 ?_
    refine ⟨fun _ => fun H hH => out (y_st e hH (by repeat (first | exact w_nil | refine w_cons (Or.inl (y_m rfl)) ?_ | refine w_cons (Or.inr (by assumption)) ?_)) (by repeat (first | exact w_nil | refine w_cons (Or.inl (y_m rfl)) ?_ | refine w_cons (Or.inr (by assumption)) ?_))), fun _ => ⟨fun _ => fun H hH => ?_, fun _ => fun H hH => out (y_st e hH (by repeat (first | exact w_nil | refine w_cons (Or.inl (y_m rfl)) ?_ | refine w_cons (Or.inr (by assumption)) ?_)) (by repeat (first | exact w_nil | refine w_cons (Or.inl (y_m rfl)) ?_ | refine w_cons (Or.inr (by assumption)) ?_)))⟩⟩
    have e2 := y_st e hH (by repeat (first | exact w_nil | refine w_cons (Or.inl (y_m rfl)) ?_ | refine w_cons (Or.inr (by assumption)) ?_)) (by repeat (first | exact w_nil | refine w_cons (Or.inl (y_m rfl)) ?_ | refine w_cons (Or.inr (by assumption)) ?_))
    refine q_weighsUp e2.1 (y_J_fr e2 rfl rfl hJ) (fun wl H2 e3 J3 hw => ⟨fun n e => (by cases e), ?_⟩)
    exact T23 (y_sq (y_mo e2 rfl rfl) e3 rfl rfl) J3 hw
  refine w_go z_hl [] [174] 30 hr ?_
  refine ⟨rfl, y_zini (by decide) (by decide), fun H1 h1 => ?_⟩
  have e1 : y_fr h H1 [19584] [] := y_st (y_mo (y_rf hr) rfl rfl) h1 (by repeat (first | exact w_nil | refine w_cons (Or.inl (y_m rfl)) ?_ | refine w_cons (Or.inr (by assumption)) ?_)) (by repeat (first | exact w_nil | refine w_cons (Or.inl (y_m rfl)) ?_ | refine w_cons (Or.inr (by assumption)) ?_))
  refine q_isSet (v := bits) e1.1 ((y_fe e1 rfl).trans s1) (fun H2 v h2 hv hv2 hvc => ⟨fun n e => (by cases e), ?_⟩) (fun H2 h2 => ⟨fun n e => (by cases e), ?_⟩)
  · exact T10 (y_sq e1 h2 rfl rfl)
  · exact T10 (y_sq e1 h2 rfl rfl)
end WG
