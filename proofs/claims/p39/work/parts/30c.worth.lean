/-! ===== v3: the reference's odds, worth, need, even ===== -/
def y_wc (h : aH) (nd : Int32) (sa : List Int32) (wl : List Int64) : Prop := w_hr z_D h ∧ w_f h 19591 = some (.int nd) ∧ w_a h 160 = some (0, .inl sa) ∧ y_wl h wl
theorem y_wc_fr {h H : aH} {nd : Int32} {sa : List Int32} {wl : List Int64} {fs as : List Nat} (s : y_wc h nd sa wl) (e : y_fr h H fs as) (h1 : fs.elem 19591 = false) (h2 : as.elem 160 = false) (h3 : as.elem 163 = false) : y_wc H nd sa wl := ⟨e.1, (y_fe e h1).trans s.2.1, (y_ae e h2).trans s.2.2.1, y_wl_fr e (fun q => by rw [List.elem_iff.mpr q] at h3; cases h3) s.2.2.2⟩
section WG
variable {X : aX} {C S d : Nat} {K0 : Option Value → aH → Nat → Nat → Prop} {h : aH} {nd : Int32} {sa : List Int32} {wl : List Int64}
theorem q_now (s : y_wc h nd sa wl) (hK : ∀ (r : Int64) (H : aH), y_fr h H [] [] → 0 ≤ r.toInt → r.toInt ≤ 100000000 → K0 (some (.long r)) H C S) : aOK s_P X (d + 3) a_m189 0 [some (.ref 155)] [] h C S K0 := by
  obtain ⟨b1, b2⟩ := y_ndb s.1 s.2.1
  refine y_now s.1 s.2.1 s.2.2.1 s.2.2.2 (fun r H e hr => ?_)
  have b := y_nw_b (sa := sa) (node := Int32.ofInt (-1)) (so := true) (but := Int32.ofInt (-1)) s.2.2.2 b1 b2
  exact hK r H e (by omega) (by omega)
theorem q_nowWith (s : y_wc h nd sa wl) {node but : Int32} {b : Bool} (hK : ∀ (r : Int64) (H : aH), y_fr h H [] [] → 0 ≤ r.toInt → r.toInt ≤ 100000000 → K0 (some (.long r)) H C S) : aOK s_P X (d + 2) a_m190 0 [some (.ref 155), some (.int node), some (.int (y_01 b)), some (.int but), none] [] h C S K0 := by
  obtain ⟨b1, b2⟩ := y_ndb s.1 s.2.1
  refine y_nowWith s.1 s.2.1 s.2.2.1 s.2.2.2 (fun r H e hr => ?_)
  have bb := y_nw_b (sa := sa) (node := node) (so := b) (but := but) s.2.2.2 b1 b2
  exact hK r H e (by omega) (by omega)
theorem q_weighs (s : y_wc h nd sa wl) {a b : Int32} (hK : ∀ (r : Int64) (H : aH), y_fr h H [] [] → 0 ≤ r.toInt → r.toInt ≤ 100000000 → K0 (some (.long r)) H C S) : aOK s_P X (d + 1) a_m193 0 [some (.ref 155), some (.int a), some (.int b), none, none, none] [] h C S K0 := by
  obtain ⟨b1, b2⟩ := y_ndb s.1 s.2.1
  refine y_weighs s.1 s.2.1 s.2.2.2 (fun r H e hr => ?_)
  have bb := y_ws_b s.2.2.2.2.1 (a := a) (b := b) (y_ways nd)
  have t := y_tot_m s.2.2.2.2.1 (y_all b1 b2).2.2
  have w := s.2.2.2.2.2
  exact hK r H e (by omega) (by omega)
theorem y_odds_tail (s : y_wc h nd sa wl) {node : Int32} (hk : ∀ (r : Int32) (H : aH), y_fr h H [19585, 19587, 19588] [154] → K0 (some (.int r)) H C S) : aOK s_P X (d + 4) a_m198 19 [some (.ref 155), some (.int node), none, none] [] h C S K0 := by
  have T68 : ∀ {G : aH} {nt : Int64}, y_fr h G [19585, 19587, 19588] [154] → aOK s_P X (d + 4) a_m198 68 [some (.ref 155), some (.int node), some (.long nt), none] [] G C S K0 := by
    intro G nt e
    refine w_go z_hl [] [] 30 e.1 ?_
    exact fun H hH => hk _ H (y_st e hH (by repeat (first | exact w_nil | refine w_cons (Or.inl (y_m rfl)) ?_ | refine w_cons (Or.inr (by assumption)) ?_)) (by repeat (first | exact w_nil | refine w_cons (Or.inl (y_m rfl)) ?_ | refine w_cons (Or.inr (by assumption)) ?_)))
  have T59 : ∀ {G : aH} {nt : Int64}, y_fr h G [19585, 19587, 19588] [154] → aOK s_P X (d + 4) a_m198 59 [some (.ref 155), some (.int node), some (.long nt), none] [] G C S K0 := by
    intro G nt e
    refine w_go z_hl [] [196] 30 e.1 ?_
    refine ⟨rfl, y_zini (by decide) (by decide), fun H hH => ?_⟩
    have e2 := y_st e hH (by repeat (first | exact w_nil | refine w_cons (Or.inl (y_m rfl)) ?_ | refine w_cons (Or.inr (by assumption)) ?_)) (by repeat (first | exact w_nil | refine w_cons (Or.inl (y_m rfl)) ?_ | refine w_cons (Or.inr (by assumption)) ?_))
    refine y_tells e2.1 (hH.2.1 19585 _ rfl) (by decide) (by decide) (fun H2 r2 e3 _ _ => ⟨fun n e => (by cases e), ?_⟩)
    exact T68 (y_sq e2 e3 rfl rfl)
  have T55 : ∀ {G : aH} {nt x : Int64}, y_fr h G [19585, 19587, 19588] [154] → 1 ≤ nt.toInt → 0 ≤ x.toInt → aOK s_P X (d + 4) a_m198 55 [some (.ref 155), some (.int node), some (.long nt), none] [.long x, .ref 155] G C S K0 := by
    intro G nt x e n1 x0
    refine w_go z_hl [] [194] 30 e.1 ?_
    intro H hH
    have e2 := y_st e hH (by repeat (first | exact w_nil | refine w_cons (Or.inl (y_m rfl)) ?_ | refine w_cons (Or.inr (by assumption)) ?_)) (by repeat (first | exact w_nil | refine w_cons (Or.inl (y_m rfl)) ?_ | refine w_cons (Or.inr (by assumption)) ?_))
    refine q_lowest (n := x) (m := nt) e2.1 (by omega) n1 (fun u l H2 e3 _ _ _ _ _ _ _ => ⟨fun n e => (by cases e), ?_⟩)
    exact T59 (y_sq e2 e3 rfl rfl)
  have T38 : ∀ {G : aH} {nt : Int64}, y_fr h G [19585, 19587, 19588] [154] → 0 ≤ nt.toInt → aOK s_P X (d + 4) a_m198 38 [some (.ref 155), some (.int node), none, none] [.long nt] G C S K0 := by
    intro G nt e n0
    refine w_go z_hl [] [190] 30 e.1 ?_
    refine ⟨fun q => fun H hH => ?_, fun _ => fun H hH => hk _ H (y_st e hH (by repeat (first | exact w_nil | refine w_cons (Or.inl (y_m rfl)) ?_ | refine w_cons (Or.inr (by assumption)) ?_)) (by repeat (first | exact w_nil | refine w_cons (Or.inl (y_m rfl)) ?_ | refine w_cons (Or.inr (by assumption)) ?_)))⟩
    have q2 : nt.toInt ≠ (Int64.ofNat 0).toInt := (y_cl .ne _ _).mp q
    rw [show (Int64.ofNat 0).toInt = 0 by decide] at q2
    have e2 := y_st e hH (by repeat (first | exact w_nil | refine w_cons (Or.inl (y_m rfl)) ?_ | refine w_cons (Or.inr (by assumption)) ?_)) (by repeat (first | exact w_nil | refine w_cons (Or.inl (y_m rfl)) ?_ | refine w_cons (Or.inr (by assumption)) ?_))
    refine q_nowWith (b := true) (y_wc_fr s e2 rfl rfl rfl) (fun r H2 e3 r0 _ => ⟨fun n e => (by cases e), ?_⟩)
    exact T55 (y_sq e2 e3 rfl rfl) (by omega) r0
  have T23 : ∀ {G : aH} {x : Int64}, y_fr h G [19585, 19587, 19588] [154] → aOK s_P X (d + 4) a_m198 23 [some (.ref 155), some (.int node), none, none] [.long x] G C S K0 := by
    intro G x e
    refine w_go z_hl [] [190] 30 e.1 ?_
    refine ⟨fun _ => fun H hH => ?_, fun _ => fun H hH => hk _ H (y_st e hH (by repeat (first | exact w_nil | refine w_cons (Or.inl (y_m rfl)) ?_ | refine w_cons (Or.inr (by assumption)) ?_)) (by repeat (first | exact w_nil | refine w_cons (Or.inl (y_m rfl)) ?_ | refine w_cons (Or.inr (by assumption)) ?_)))⟩
    have e2 := y_st e hH (by repeat (first | exact w_nil | refine w_cons (Or.inl (y_m rfl)) ?_ | refine w_cons (Or.inr (by assumption)) ?_)) (by repeat (first | exact w_nil | refine w_cons (Or.inl (y_m rfl)) ?_ | refine w_cons (Or.inr (by assumption)) ?_))
    refine q_nowWith (b := false) (y_wc_fr s e2 rfl rfl rfl) (fun r H2 e3 r0 _ => ⟨fun n e => (by cases e), ?_⟩)
    exact T38 (y_sq e2 e3 rfl rfl) r0
  refine w_go z_hl [] [189] 30 s.1 ?_
  intro H hH
  have e : y_fr h H [19585, 19587, 19588] [154] := y_st (y_mo (y_rf s.1) rfl rfl) hH (by repeat (first | exact w_nil | refine w_cons (Or.inl (y_m rfl)) ?_ | refine w_cons (Or.inr (by assumption)) ?_)) (by repeat (first | exact w_nil | refine w_cons (Or.inl (y_m rfl)) ?_ | refine w_cons (Or.inr (by assumption)) ?_))
  refine q_now (y_wc_fr s e rfl rfl rfl) (fun r H2 e3 _ _ => ⟨fun n e => (by cases e), ?_⟩)
  exact T23 (y_sq e e3 rfl rfl)
theorem p_odds (hr : w_hr z_D h) (hJ : y_J h) {node : Int32} (hk : ∀ (r : Int32) (H : aH), y_fr h H [19584, 19585, 19587, 19588] [154, 163] → y_J H → K0 (some (.int r)) H C S) : aOK s_P X (d + 4) a_m198 0 [some (.ref 155), some (.int node), none, none] [] h C S K0 := by
  obtain ⟨nd, sm, so, sa, s1, s2, s3, s4, s5⟩ := id hJ.2.2.2.2.1
  have T10 : ∀ {G : aH} {b : Bool}, y_fr h G [19584] [] → aOK s_P X (d + 4) a_m198 10 [some (.ref 155), some (.int node), none, none] [.int (y_01 b)] G C S K0 := by
    intro G b e
    refine w_go z_hl [] [188] 30 e.1 ?_
    refine ⟨fun _ => fun H hH => ?_, fun _ => fun H hH => ?_⟩
    · have e2 := y_st e hH (by repeat (first | exact w_nil | refine w_cons (Or.inl (y_m rfl)) ?_ | refine w_cons (Or.inr (by assumption)) ?_)) (by repeat (first | exact w_nil | refine w_cons (Or.inl (y_m rfl)) ?_ | refine w_cons (Or.inr (by assumption)) ?_))
      refine q_weighsUp e2.1 (y_J_fr e2 rfl rfl hJ) (fun wl H2 e3 J3 hw => ⟨fun n e => (by cases e), ?_⟩)
      have e4 : y_fr h H2 [19584] [163] := y_sq (y_mo e2 rfl rfl) e3 rfl rfl
      refine y_odds_tail ⟨e4.1, (y_fe e4 rfl).trans s1, (y_ae e4 rfl).trans s4, hw⟩ (fun r H5 e5 => ?_)
      exact hk r H5 (y_sq (y_mo e4 rfl rfl) e5 rfl rfl) (y_J_fr e5 rfl rfl J3)
    · have e2 := y_st e hH (by repeat (first | exact w_nil | refine w_cons (Or.inl (y_m rfl)) ?_ | refine w_cons (Or.inr (by assumption)) ?_)) (by repeat (first | exact w_nil | refine w_cons (Or.inl (y_m rfl)) ?_ | refine w_cons (Or.inr (by assumption)) ?_))
      exact hk _ H (y_mo e2 rfl rfl) (y_J_fr e2 rfl rfl hJ)
  refine w_go z_hl [] [178] 30 hr ?_
  refine ⟨rfl, y_zini (by decide) (by decide), fun H1 h1 => ?_⟩
  have e1 : y_fr h H1 [19584] [] := y_st (y_mo (y_rf hr) rfl rfl) h1 (by repeat (first | exact w_nil | refine w_cons (Or.inl (y_m rfl)) ?_ | refine w_cons (Or.inr (by assumption)) ?_)) (by repeat (first | exact w_nil | refine w_cons (Or.inl (y_m rfl)) ?_ | refine w_cons (Or.inr (by assumption)) ?_))
  refine q_isNode (v := node) e1.1 ((y_fe e1 rfl).trans s1) (fun H2 v h2 hv hv2 hvc => ⟨fun n e => (by cases e), ?_⟩) (fun H2 h2 => ⟨fun n e => (by cases e), ?_⟩)
  · exact T10 (y_sq e1 h2 rfl rfl)
  · exact T10 (y_sq e1 h2 rfl rfl)
theorem y_worth_loop {cl no : Int32} {whole wi : Int64} (w0 : 0 ≤ whole.toInt) (w8 : whole.toInt ≤ 100000000) (v0 : 0 ≤ wi.toInt) (v8 : wi.toInt ≤ 100000000) : ∀ (m : Nat) (h : aH) (sum : Int64) (kI : Int32) (k : Nat) (o10 o12 : Option Value), y_wc h nd sa wl → kI.toInt = k → k + m = 2 → 0 ≤ sum.toInt → sum.toInt ≤ k * 10000000000000000 → (∀ (r : Int64) (H : aH), y_fr h H [] [] → 0 ≤ r.toInt → r.toInt ≤ 20000000000000000 → K0 (some (.long r)) H C S) → aOK s_P X (d + 3) a_m205 20 [some (.ref 155), some (.int cl), some (.int no), some (.long sum), none, some (.long whole), none, some (.long wi), none, some (.int kI), o10, none, o12, none] [] h C S K0 := by
  intro m
  induction m with
  | zero =>
    intro h sum kI k o10 o12 s hk hm s0 s1 hK
    refine w_go z_hl [20] [] 30 s.1 ?_
    refine ⟨fun _ => fun H hH => hK sum H (y_st (y_rf s.1) hH (by repeat (first | exact w_nil | refine w_cons (Or.inl (y_m rfl)) ?_ | refine w_cons (Or.inr (by assumption)) ?_)) (by repeat (first | exact w_nil | refine w_cons (Or.inl (y_m rfl)) ?_ | refine w_cons (Or.inr (by assumption)) ?_))) s0 (by omega), fun q => ?_⟩
    have q2 : ¬ ((Int32.ofInt 2).toInt ≤ kI.toInt) := y_cif q
    rw [show (Int32.ofInt 2).toInt = 2 by decide] at q2
    omega
  | succ m ih =>
    intro h sum kI k o10 o12 s hk hm s0 s1 hK
    have ink : (kI + Int32.ofInt 1).toInt = ((k + 1 : Nat) : Int) := by rw [y_inc (by omega), hk]; rfl
    have next : ∀ {G : aH} {x of bo : Int64}, y_fr h G [] [] → 0 ≤ x.toInt → x.toInt ≤ 10000000000000000 → aOK s_P X (d + 3) a_m205 118 [some (.ref 155), some (.int cl), some (.int no), some (.long sum), none, some (.long whole), none, some (.long wi), none, some (.int kI), some (.long of), none, some (.long bo), none] [.long x, .long sum] G C S K0 := by
      intro G x of bo e x0 x1
      have ad : (sum + x).toInt = sum.toInt + x.toInt := y_add (by omega) (by omega)
      refine w_go z_hl [20] [] 30 e.1 ?_
      intro H hH
      have e2 := y_st e hH (by repeat (first | exact w_nil | refine w_cons (Or.inl (y_m rfl)) ?_ | refine w_cons (Or.inr (by assumption)) ?_)) (by repeat (first | exact w_nil | refine w_cons (Or.inl (y_m rfl)) ?_ | refine w_cons (Or.inr (by assumption)) ?_))
      exact ih H _ _ (k + 1) _ _ (y_wc_fr s e2 rfl rfl rfl) ink (by omega) (by show 0 ≤ (sum + x).toInt; omega) (by show (sum + x).toInt ≤ _; omega) (fun r H' f r0 r1 => hK r H' (y_sq e2 f rfl rfl) r0 r1)
    have T90 : ∀ {G : aH} {of bo : Int64}, y_fr h G [] [] → 0 ≤ of.toInt → of.toInt ≤ 100000000 → 0 ≤ bo.toInt → bo.toInt ≤ 100000000 → aOK s_P X (d + 3) a_m205 90 [some (.ref 155), some (.int cl), some (.int no), some (.long sum), none, some (.long whole), none, some (.long wi), none, some (.int kI), some (.long of), none, o12, none] [.long bo] G C S K0 := by
      intro G of bo e o0 o8 b0 b8
      have m1 := y_m8 b0 b8 w0 w8
      have m2 := y_m8 v0 v8 o0 o8
      have p1 := y_p8 b0 b8 w0 w8
      have p2 := y_p8 v0 v8 o0 o8
      have sb : (bo * whole - wi * of).toInt = bo.toInt * whole.toInt - wi.toInt * of.toInt := by
        rw [y_lsub (by rw [m1, m2]; omega) (by rw [m1, m2]; omega), m1, m2]
      have ng : (bo * whole - wi * of).toInt ≤ 0 → (-(bo * whole - wi * of)).toInt = -(bo * whole - wi * of).toInt := fun _ => by
        rw [Int64.toInt_neg]
        exact Int.bmod_eq_of_le (by omega) (by omega)
      refine w_go z_hl [118] [] 30 e.1 ?_
      refine ⟨fun _ => ⟨fun q => fun H hH => ?_, fun q => fun H hH => ?_⟩, fun _ => fun H hH => next (y_st e hH (by repeat (first | exact w_nil | refine w_cons (Or.inl (y_m rfl)) ?_ | refine w_cons (Or.inr (by assumption)) ?_)) (by repeat (first | exact w_nil | refine w_cons (Or.inl (y_m rfl)) ?_ | refine w_cons (Or.inr (by assumption)) ?_))) (by decide) (by decide)⟩
      · have q2 : (Int64.ofNat 0).toInt ≤ (bo * whole - wi * of).toInt := (y_cl .ge _ _).mp q
        rw [show (Int64.ofNat 0).toInt = 0 by decide] at q2
        exact next (y_st e hH (by repeat (first | exact w_nil | refine w_cons (Or.inl (y_m rfl)) ?_ | refine w_cons (Or.inr (by assumption)) ?_)) (by repeat (first | exact w_nil | refine w_cons (Or.inl (y_m rfl)) ?_ | refine w_cons (Or.inr (by assumption)) ?_))) q2 (by omega)
      · have q2 : ¬ ((Int64.ofNat 0).toInt ≤ (bo * whole - wi * of).toInt) := y_clf q
        rw [show (Int64.ofNat 0).toInt = 0 by decide] at q2
        have := ng (by omega)
        exact next (y_st e hH (by repeat (first | exact w_nil | refine w_cons (Or.inl (y_m rfl)) ?_ | refine w_cons (Or.inr (by assumption)) ?_)) (by repeat (first | exact w_nil | refine w_cons (Or.inl (y_m rfl)) ?_ | refine w_cons (Or.inr (by assumption)) ?_))) (by omega) (by omega)
    have T87 : ∀ {G : aH} {of : Int64} {a b : Int32}, y_fr h G [] [] → 0 ≤ of.toInt → of.toInt ≤ 100000000 → aOK s_P X (d + 3) a_m205 87 [some (.ref 155), some (.int cl), some (.int no), some (.long sum), none, some (.long whole), none, some (.long wi), none, some (.int kI), some (.long of), none, o12, none] [.int b, .int a, .ref 155] G C S K0 := by
      intro G of a b e o0 o8
      refine w_go z_hl [] [193] 30 e.1 ?_
      intro H hH
      have e2 := y_st e hH (by repeat (first | exact w_nil | refine w_cons (Or.inl (y_m rfl)) ?_ | refine w_cons (Or.inr (by assumption)) ?_)) (by repeat (first | exact w_nil | refine w_cons (Or.inl (y_m rfl)) ?_ | refine w_cons (Or.inr (by assumption)) ?_))
      refine aOK_deep (d := d + 1) (by omega) (q_weighs (y_wc_fr s e2 rfl rfl rfl) (fun r H2 e3 r0 r8 => ⟨fun n e => (by cases e), ?_⟩))
      exact T90 (y_sq e2 e3 rfl rfl) o0 o8 r0 r8
    have T74 : ∀ {G : aH} {of : Int64} {a b : Int32}, y_fr h G [] [] → 0 ≤ of.toInt → of.toInt ≤ 100000000 → aOK s_P X (d + 3) a_m205 74 [some (.ref 155), some (.int cl), some (.int no), some (.long sum), none, some (.long whole), none, some (.long wi), none, some (.int kI), some (.long of), none, o12, none] [.int b, .int a, .ref 155] G C S K0 := by
      intro G of a b e o0 o8
      refine w_go z_hl [87] [] 30 e.1 ?_
      exact ⟨fun _ => fun H hH => T87 (y_st e hH (by repeat (first | exact w_nil | refine w_cons (Or.inl (y_m rfl)) ?_ | refine w_cons (Or.inr (by assumption)) ?_)) (by repeat (first | exact w_nil | refine w_cons (Or.inl (y_m rfl)) ?_ | refine w_cons (Or.inr (by assumption)) ?_))) o0 o8, fun _ => fun H hH => T87 (y_st e hH (by repeat (first | exact w_nil | refine w_cons (Or.inl (y_m rfl)) ?_ | refine w_cons (Or.inr (by assumption)) ?_)) (by repeat (first | exact w_nil | refine w_cons (Or.inl (y_m rfl)) ?_ | refine w_cons (Or.inr (by assumption)) ?_))) o0 o8⟩
    have T68 : ∀ {G : aH} {of : Int64} {a b : Int32}, y_fr h G [] [] → 0 ≤ of.toInt → of.toInt ≤ 100000000 → aOK s_P X (d + 3) a_m205 68 [some (.ref 155), some (.int cl), some (.int no), some (.long sum), none, some (.long whole), none, some (.long wi), none, some (.int kI), some (.long of), none, o12, none] [.int b, .int a, .ref 155] G C S K0 := by
      intro G of a b e o0 o8
      refine w_go z_hl [] [192] 30 e.1 ?_
      intro H hH
      have e2 := y_st e hH (by repeat (first | exact w_nil | refine w_cons (Or.inl (y_m rfl)) ?_ | refine w_cons (Or.inr (by assumption)) ?_)) (by repeat (first | exact w_nil | refine w_cons (Or.inl (y_m rfl)) ?_ | refine w_cons (Or.inr (by assumption)) ?_))
      have s2 := y_wc_fr s e2 rfl rfl rfl
      refine y_seenNot s2.1 s2.2.1 s2.2.2.1 (fun H2 e3 => ⟨fun n e => (by cases e), ?_⟩)
      exact T74 (y_sq e2 e3 rfl rfl) o0 o8
    have T51 : ∀ {G : aH} {of : Int64} {a : Int32}, y_fr h G [] [] → 0 ≤ of.toInt → of.toInt ≤ 100000000 → aOK s_P X (d + 3) a_m205 51 [some (.ref 155), some (.int cl), some (.int no), some (.long sum), none, some (.long whole), none, some (.long wi), none, some (.int kI), some (.long of), none, o12, none] [.int a, .ref 155] G C S K0 := by
      intro G of a e o0 o8
      refine w_go z_hl [68] [] 30 e.1 ?_
      exact ⟨fun _ => fun H hH => T68 (y_st e hH (by repeat (first | exact w_nil | refine w_cons (Or.inl (y_m rfl)) ?_ | refine w_cons (Or.inr (by assumption)) ?_)) (by repeat (first | exact w_nil | refine w_cons (Or.inl (y_m rfl)) ?_ | refine w_cons (Or.inr (by assumption)) ?_))) o0 o8, fun _ => fun H hH => T68 (y_st e hH (by repeat (first | exact w_nil | refine w_cons (Or.inl (y_m rfl)) ?_ | refine w_cons (Or.inr (by assumption)) ?_)) (by repeat (first | exact w_nil | refine w_cons (Or.inl (y_m rfl)) ?_ | refine w_cons (Or.inr (by assumption)) ?_))) o0 o8⟩
    have T43 : ∀ {G : aH} {of : Int64}, y_fr h G [] [] → 0 ≤ of.toInt → of.toInt ≤ 100000000 → aOK s_P X (d + 3) a_m205 43 [some (.ref 155), some (.int cl), some (.int no), some (.long sum), none, some (.long whole), none, some (.long wi), none, some (.int kI), o10, none, o12, none] [.long of] G C S K0 := by
      intro G of e o0 o8
      refine w_go z_hl [] [191] 30 e.1 ?_
      intro H hH
      have e2 := y_st e hH (by repeat (first | exact w_nil | refine w_cons (Or.inl (y_m rfl)) ?_ | refine w_cons (Or.inr (by assumption)) ?_)) (by repeat (first | exact w_nil | refine w_cons (Or.inl (y_m rfl)) ?_ | refine w_cons (Or.inr (by assumption)) ?_))
      have s2 := y_wc_fr s e2 rfl rfl rfl
      refine y_seenSo s2.1 s2.2.1 s2.2.2.1 (fun H2 e3 => ⟨fun n e => (by cases e), ?_⟩)
      exact T51 (y_sq e2 e3 rfl rfl) o0 o8
    have T39 : ∀ {G : aH} {b : Bool}, y_fr h G [] [] → aOK s_P X (d + 3) a_m205 39 [some (.ref 155), some (.int cl), some (.int no), some (.long sum), none, some (.long whole), none, some (.long wi), none, some (.int kI), o10, none, o12, none] [.int (y_01 b), .int no, .ref 155] G C S K0 := by
      intro G b e
      refine w_go z_hl [] [190] 30 e.1 ?_
      intro H hH
      have e2 := y_st e hH (by repeat (first | exact w_nil | refine w_cons (Or.inl (y_m rfl)) ?_ | refine w_cons (Or.inr (by assumption)) ?_)) (by repeat (first | exact w_nil | refine w_cons (Or.inl (y_m rfl)) ?_ | refine w_cons (Or.inr (by assumption)) ?_))
      refine q_nowWith (b := b) (y_wc_fr s e2 rfl rfl rfl) (fun r H2 e3 r0 r8 => ⟨fun n e => (by cases e), ?_⟩)
      exact T43 (y_sq e2 e3 rfl rfl) r0 r8
    have e0 : y_fr h h [] [] := y_rf s.1
    refine w_go z_hl [20, 39] [] 30 s.1 ?_
    refine ⟨fun q => ?_, fun _ => ⟨fun _ => fun H hH => T39 (b := false) (y_st e0 hH (by repeat (first | exact w_nil | refine w_cons (Or.inl (y_m rfl)) ?_ | refine w_cons (Or.inr (by assumption)) ?_)) (by repeat (first | exact w_nil | refine w_cons (Or.inl (y_m rfl)) ?_ | refine w_cons (Or.inr (by assumption)) ?_))), fun _ => fun H hH => T39 (b := true) (y_st e0 hH (by repeat (first | exact w_nil | refine w_cons (Or.inl (y_m rfl)) ?_ | refine w_cons (Or.inr (by assumption)) ?_)) (by repeat (first | exact w_nil | refine w_cons (Or.inl (y_m rfl)) ?_ | refine w_cons (Or.inr (by assumption)) ?_)))⟩⟩
    have q2 : (Int32.ofInt 2).toInt ≤ kI.toInt := (y_ci .ge _ _).mp q
    rw [show (Int32.ofInt 2).toInt = 2 by decide] at q2
    omega
theorem q_worthOf (s : y_wc h nd sa wl) {cl no : Int32} (hK : ∀ (r : Int64) (H : aH), y_fr h H [] [] → 0 ≤ r.toInt → r.toInt ≤ 20000000000000000 → K0 (some (.long r)) H C S) : aOK s_P X (d + 4) a_m205 0 [some (.ref 155), some (.int cl), some (.int no), none, none, none, none, none, none, none, none, none, none, none] [] h C S K0 := by
  have T15 : ∀ {G : aH} {whole wi : Int64}, y_fr h G [] [] → 0 ≤ whole.toInt → whole.toInt ≤ 100000000 → 0 ≤ wi.toInt → wi.toInt ≤ 100000000 → aOK s_P X (d + 4) a_m205 15 [some (.ref 155), some (.int cl), some (.int no), some (.long (Int64.ofNat 0)), none, some (.long whole), none, none, none, none, none, none, none, none] [.long wi] G C S K0 := by
    intro G whole wi e w0 w8 v0 v8
    refine w_go z_hl [20] [] 30 e.1 ?_
    intro H hH
    have e2 := y_st e hH (by repeat (first | exact w_nil | refine w_cons (Or.inl (y_m rfl)) ?_ | refine w_cons (Or.inr (by assumption)) ?_)) (by repeat (first | exact w_nil | refine w_cons (Or.inl (y_m rfl)) ?_ | refine w_cons (Or.inr (by assumption)) ?_))
    exact aOK_deep (d := d + 3) (by omega) (y_worth_loop w0 w8 v0 v8 2 H _ _ 0 _ _ (y_wc_fr s e2 rfl rfl rfl) rfl rfl (by decide) (by decide) (fun r H' f r0 r1 => hK r H' (y_sq e2 f rfl rfl) r0 r1))
  have T6 : ∀ {G : aH} {whole : Int64}, y_fr h G [] [] → 0 ≤ whole.toInt → whole.toInt ≤ 100000000 → aOK s_P X (d + 4) a_m205 6 [some (.ref 155), some (.int cl), some (.int no), some (.long (Int64.ofNat 0)), none, none, none, none, none, none, none, none, none, none] [.long whole] G C S K0 := by
    intro G whole e w0 w8
    refine w_go z_hl [] [190] 30 e.1 ?_
    intro H hH
    have e2 := y_st e hH (by repeat (first | exact w_nil | refine w_cons (Or.inl (y_m rfl)) ?_ | refine w_cons (Or.inr (by assumption)) ?_)) (by repeat (first | exact w_nil | refine w_cons (Or.inl (y_m rfl)) ?_ | refine w_cons (Or.inr (by assumption)) ?_))
    refine aOK_deep (d := d + 2) (by omega) (q_nowWith (b := true) (y_wc_fr s e2 rfl rfl rfl) (fun r H2 e3 r0 r8 => ⟨fun n e => (by cases e), ?_⟩))
    exact T15 (y_sq e2 e3 rfl rfl) w0 w8 r0 r8
  refine w_go z_hl [] [189] 30 s.1 ?_
  intro H hH
  have e : y_fr h H [] [] := y_st (y_rf s.1) hH (by repeat (first | exact w_nil | refine w_cons (Or.inl (y_m rfl)) ?_ | refine w_cons (Or.inr (by assumption)) ?_)) (by repeat (first | exact w_nil | refine w_cons (Or.inl (y_m rfl)) ?_ | refine w_cons (Or.inr (by assumption)) ?_))
  refine q_now (y_wc_fr s e rfl rfl rfl) (fun r H2 e3 r0 r8 => ⟨fun n e => (by cases e), ?_⟩)
  exact T6 (y_sq e e3 rfl rfl) r0 r8
theorem y_worth_tail (s : y_wc h nd sa wl) {cl no : Int32} (hk : ∀ (r : Int32) (H : aH), y_fr h H [19585, 19587, 19588] [154] → K0 (some (.int r)) H C S) : aOK s_P X (d + 5) a_m204 41 [some (.ref 155), some (.int cl), some (.int no), none, none] [] h C S K0 := by
  have T77 : ∀ {G : aH} {wh : Int64}, y_fr h G [19585, 19587, 19588] [154] → aOK s_P X (d + 5) a_m204 77 [some (.ref 155), some (.int cl), some (.int no), some (.long wh), none] [] G C S K0 := by
    intro G wh e
    refine w_go z_hl [] [] 30 e.1 ?_
    exact fun H hH => hk _ H (y_st e hH (by repeat (first | exact w_nil | refine w_cons (Or.inl (y_m rfl)) ?_ | refine w_cons (Or.inr (by assumption)) ?_)) (by repeat (first | exact w_nil | refine w_cons (Or.inl (y_m rfl)) ?_ | refine w_cons (Or.inr (by assumption)) ?_)))
  have T68 : ∀ {G : aH} {wh : Int64}, y_fr h G [19585, 19587, 19588] [154] → aOK s_P X (d + 5) a_m204 68 [some (.ref 155), some (.int cl), some (.int no), some (.long wh), none] [] G C S K0 := by
    intro G wh e
    refine w_go z_hl [] [196] 30 e.1 ?_
    refine ⟨rfl, y_zini (by decide) (by decide), fun H hH => ?_⟩
    have e2 := y_st e hH (by repeat (first | exact w_nil | refine w_cons (Or.inl (y_m rfl)) ?_ | refine w_cons (Or.inr (by assumption)) ?_)) (by repeat (first | exact w_nil | refine w_cons (Or.inl (y_m rfl)) ?_ | refine w_cons (Or.inr (by assumption)) ?_))
    refine y_tells e2.1 (hH.2.1 19585 _ rfl) (by decide) (by decide) (fun H2 r2 e3 _ _ => ⟨fun n e => (by cases e), ?_⟩)
    exact T77 (y_sq e2 e3 rfl rfl)
  have T62 : ∀ {G : aH} {wh x : Int64}, y_fr h G [19585, 19587, 19588] [154] → 1 ≤ wh.toInt → wh.toInt ≤ 100000000 → 0 ≤ x.toInt → aOK s_P X (d + 5) a_m204 62 [some (.ref 155), some (.int cl), some (.int no), some (.long wh), none] [.long x, .ref 155] G C S K0 := by
    intro G wh x e n1 n8 x0
    have m1 := y_m8 (show 0 ≤ wh.toInt by omega) n8 (show 0 ≤ wh.toInt by omega) n8
    have p1 : 1 ≤ wh.toInt * wh.toInt := Int.mul_pos (by omega) (by omega)
    refine w_go z_hl [] [194] 30 e.1 ?_
    intro H hH
    have e2 := y_st e hH (by repeat (first | exact w_nil | refine w_cons (Or.inl (y_m rfl)) ?_ | refine w_cons (Or.inr (by assumption)) ?_)) (by repeat (first | exact w_nil | refine w_cons (Or.inl (y_m rfl)) ?_ | refine w_cons (Or.inr (by assumption)) ?_))
    refine q_lowest (n := x) (m := wh * wh) e2.1 (by omega) (by rw [m1]; exact p1) (fun u l H2 e3 _ _ _ _ _ _ _ => ⟨fun n e => (by cases e), ?_⟩)
    exact T68 (y_sq e2 e3 rfl rfl)
  have T45 : ∀ {G : aH} {wh : Int64}, y_fr h G [19585, 19587, 19588] [154] → 0 ≤ wh.toInt → wh.toInt ≤ 100000000 → aOK s_P X (d + 5) a_m204 45 [some (.ref 155), some (.int cl), some (.int no), none, none] [.long wh] G C S K0 := by
    intro G wh e n0 n8
    refine w_go z_hl [] [205] 30 e.1 ?_
    refine ⟨fun q => fun H hH => ?_, fun _ => fun H hH => hk _ H (y_st e hH (by repeat (first | exact w_nil | refine w_cons (Or.inl (y_m rfl)) ?_ | refine w_cons (Or.inr (by assumption)) ?_)) (by repeat (first | exact w_nil | refine w_cons (Or.inl (y_m rfl)) ?_ | refine w_cons (Or.inr (by assumption)) ?_)))⟩
    have q2 : wh.toInt ≠ (Int64.ofNat 0).toInt := (y_cl .ne _ _).mp q
    rw [show (Int64.ofNat 0).toInt = 0 by decide] at q2
    have e2 := y_st e hH (by repeat (first | exact w_nil | refine w_cons (Or.inl (y_m rfl)) ?_ | refine w_cons (Or.inr (by assumption)) ?_)) (by repeat (first | exact w_nil | refine w_cons (Or.inl (y_m rfl)) ?_ | refine w_cons (Or.inr (by assumption)) ?_))
    refine q_worthOf (y_wc_fr s e2 rfl rfl rfl) (fun r H2 e3 r0 _ => ⟨fun n e => (by cases e), ?_⟩)
    exact T62 (y_sq e2 e3 rfl rfl) (by omega) n8 r0
  refine w_go z_hl [] [189] 30 s.1 ?_
  intro H hH
  have e : y_fr h H [19585, 19587, 19588] [154] := y_st (y_mo (y_rf s.1) rfl rfl) hH (by repeat (first | exact w_nil | refine w_cons (Or.inl (y_m rfl)) ?_ | refine w_cons (Or.inr (by assumption)) ?_)) (by repeat (first | exact w_nil | refine w_cons (Or.inl (y_m rfl)) ?_ | refine w_cons (Or.inr (by assumption)) ?_))
  refine aOK_deep (d := d + 3) (by omega) (q_now (y_wc_fr s e rfl rfl rfl) (fun r H2 e3 r0 r8 => ⟨fun n e => (by cases e), ?_⟩))
  exact T45 (y_sq e e3 rfl rfl) r0 r8
theorem p_worth (hr : w_hr z_D h) (hJ : y_J h) {cl no : Int32} (hk : ∀ (r : Int32) (H : aH), y_fr h H [19584, 19585, 19587, 19588] [154, 163] → y_J H → K0 (some (.int r)) H C S) : aOK s_P X (d + 5) a_m204 0 [some (.ref 155), some (.int cl), some (.int no), none, none] [] h C S K0 := by
  obtain ⟨nd, sm, so, sa, s1, s2, s3, s4, s5⟩ := id hJ.2.2.2.2.1
  obtain ⟨b1, b2⟩ := y_ndb hr s1
  have out : ∀ {G : aH} {r : Int32}, y_fr h G [19584] [] → K0 (some (.int r)) G C S := fun g => hk _ _ (y_mo g rfl rfl) (y_J_fr g rfl rfl hJ)
  have T18 : ∀ {G : aH} {v : Nat}, y_fr h G [19584] [] → no.toInt = v → v < 10 → aOK s_P X (d + 5) a_m204 18 [some (.ref 155), some (.int cl), some (.int no), none, none] [.int (y_01 true)] G C S K0 := by
    intro G v e hv v10
    refine w_go z_hl [] [188] 30 e.1 ?_
    refine ⟨fun q => absurd q (by decide), fun _ => ⟨⟨by omega, by omega⟩, fun l hl len bb => ⟨fun _ => fun H hH => out (y_st e hH (by repeat (first | exact w_nil | refine w_cons (Or.inl (y_m rfl)) ?_ | refine w_cons (Or.inr (by assumption)) ?_)) (by repeat (first | exact w_nil | refine w_cons (Or.inl (y_m rfl)) ?_ | refine w_cons (Or.inr (by assumption)) ?_))), fun _ => ⟨fun _ => fun H hH => ?_, fun _ => fun H hH => out (y_st e hH (by repeat (first | exact w_nil | refine w_cons (Or.inl (y_m rfl)) ?_ | refine w_cons (Or.inr (by assumption)) ?_)) (by repeat (first | exact w_nil | refine w_cons (Or.inl (y_m rfl)) ?_ | refine w_cons (Or.inr (by assumption)) ?_)))⟩⟩⟩⟩
    have e2 := y_st e hH (by repeat (first | exact w_nil | refine w_cons (Or.inl (y_m rfl)) ?_ | refine w_cons (Or.inr (by assumption)) ?_)) (by repeat (first | exact w_nil | refine w_cons (Or.inl (y_m rfl)) ?_ | refine w_cons (Or.inr (by assumption)) ?_))
    refine q_weighsUp e2.1 (y_J_fr e2 rfl rfl hJ) (fun wl H2 e3 J3 hw => ⟨fun n e => (by cases e), ?_⟩)
    have e4 : y_fr h H2 [19584] [163] := y_sq (y_mo e2 rfl rfl) e3 rfl rfl
    refine y_worth_tail ⟨e4.1, (y_fe e4 rfl).trans s1, (y_ae e4 rfl).trans s4, hw⟩ (fun r H5 e5 => ?_)
    exact hk r H5 (y_sq (y_mo e4 rfl rfl) e5 rfl rfl) (y_J_fr e5 rfl rfl J3)
  have T18n : ∀ {G : aH}, y_fr h G [19584] [] → aOK s_P X (d + 5) a_m204 18 [some (.ref 155), some (.int cl), some (.int no), none, none] [.int (y_01 false)] G C S K0 := by
    intro G e
    refine w_go z_hl [] [] 30 e.1 ?_
    exact ⟨fun _ => fun H hH => out (y_st e hH (by repeat (first | exact w_nil | refine w_cons (Or.inl (y_m rfl)) ?_ | refine w_cons (Or.inr (by assumption)) ?_)) (by repeat (first | exact w_nil | refine w_cons (Or.inl (y_m rfl)) ?_ | refine w_cons (Or.inr (by assumption)) ?_))), fun q => absurd q (by decide)⟩
  have T10 : ∀ {G : aH} {b : Bool}, y_fr h G [19584] [] → aOK s_P X (d + 5) a_m204 10 [some (.ref 155), some (.int cl), some (.int no), none, none] [.int (y_01 b)] G C S K0 := by
    intro G b e
    refine w_go z_hl [] [178] 30 e.1 ?_
    refine ⟨fun _ => fun H hH => out (y_st e hH (by repeat (first | exact w_nil | refine w_cons (Or.inl (y_m rfl)) ?_ | refine w_cons (Or.inr (by assumption)) ?_)) (by repeat (first | exact w_nil | refine w_cons (Or.inl (y_m rfl)) ?_ | refine w_cons (Or.inr (by assumption)) ?_))), fun _ => fun H hH => ?_⟩
    have e2 := y_st e hH (by repeat (first | exact w_nil | refine w_cons (Or.inl (y_m rfl)) ?_ | refine w_cons (Or.inr (by assumption)) ?_)) (by repeat (first | exact w_nil | refine w_cons (Or.inl (y_m rfl)) ?_ | refine w_cons (Or.inr (by assumption)) ?_))
    refine q_isNode (v := no) e2.1 ((y_fe e2 rfl).trans s1) (fun H2 v h2 hv hv2 hvc => ⟨fun n e => (by cases e), ?_⟩) (fun H2 h2 => ⟨fun n e => (by cases e), ?_⟩)
    · exact T18 (y_sq e2 h2 rfl rfl) hv (by omega)
    · exact T18n (y_sq e2 h2 rfl rfl)
  refine w_go z_hl [] [178] 30 hr ?_
  refine ⟨rfl, y_zini (by decide) (by decide), fun H1 h1 => ?_⟩
  have e1 : y_fr h H1 [19584] [] := y_st (y_mo (y_rf hr) rfl rfl) h1 (by repeat (first | exact w_nil | refine w_cons (Or.inl (y_m rfl)) ?_ | refine w_cons (Or.inr (by assumption)) ?_)) (by repeat (first | exact w_nil | refine w_cons (Or.inl (y_m rfl)) ?_ | refine w_cons (Or.inr (by assumption)) ?_))
  refine q_isNode (v := cl) e1.1 ((y_fe e1 rfl).trans s1) (fun H2 v h2 hv hv2 hvc => ⟨fun n e => (by cases e), ?_⟩) (fun H2 h2 => ⟨fun n e => (by cases e), ?_⟩)
  · exact T10 (y_sq e1 h2 rfl rfl)
  · exact T10 (y_sq e1 h2 rfl rfl)
theorem y_need_loop {cl : Int32} {wh : Int64} {co : List Int32} (w0 : 0 ≤ wh.toInt) (w8 : wh.toInt ≤ 100000000) (c1 : ∀ v : Nat, (v : Int) < nd.toInt → 1 ≤ y_N co v) : ∀ (m : Nat) (h : aH) (best vI : Int32) (bw : Int64) (k : Nat) (o8 : Option Value), y_wc h nd sa wl → w_a h 161 = some (0, .inl co) → vI.toInt = k → (k : Int) + m = nd.toInt → best.toInt < nd.toInt → 0 ≤ bw.toInt → bw.toInt ≤ 20000000000000000 → (∀ (r : Int32) (H : aH), y_fr h H [19585, 19587, 19588] [154] → K0 (some (.int r)) H C S) → aOK s_P X (d + 5) a_m207 32 [some (.ref 155), some (.int cl), some (.int best), some (.long bw), none, some (.long wh), none, some (.int vI), o8, none] [] h C S K0 := by
  intro m
  induction m with
  | zero =>
    intro h best vI bw k o8 s g hk hm b1 bw0 bw1 hK
    obtain ⟨n0, n10⟩ := y_ndb s.1 s.2.1
    have T168 : ∀ {G : aH}, y_fr h G [19585, 19587, 19588] [154] → aOK s_P X (d + 5) a_m207 168 [some (.ref 155), some (.int cl), some (.int best), some (.long bw), none, some (.long wh), none, some (.int vI), o8, none] [] G C S K0 := by
      intro G e
      refine w_go z_hl [] [] 30 e.1 ?_
      exact fun H hH => hK _ H (y_st e hH (by repeat (first | exact w_nil | refine w_cons (Or.inl (y_m rfl)) ?_ | refine w_cons (Or.inr (by assumption)) ?_)) (by repeat (first | exact w_nil | refine w_cons (Or.inl (y_m rfl)) ?_ | refine w_cons (Or.inr (by assumption)) ?_)))
    have T159 : ∀ {G : aH}, y_fr h G [19585, 19587, 19588] [154] → aOK s_P X (d + 5) a_m207 159 [some (.ref 155), some (.int cl), some (.int best), some (.long bw), none, some (.long wh), none, some (.int vI), o8, none] [] G C S K0 := by
      intro G e
      refine w_go z_hl [] [196] 30 e.1 ?_
      refine ⟨rfl, y_zini (by decide) (by decide), fun H hH => ?_⟩
      have e2 := y_st e hH (by repeat (first | exact w_nil | refine w_cons (Or.inl (y_m rfl)) ?_ | refine w_cons (Or.inr (by assumption)) ?_)) (by repeat (first | exact w_nil | refine w_cons (Or.inl (y_m rfl)) ?_ | refine w_cons (Or.inr (by assumption)) ?_))
      refine y_tells e2.1 (hH.2.1 19585 _ rfl) (by decide) (by decide) (fun H2 r2 e3 _ _ => ⟨fun n e => (by cases e), ?_⟩)
      exact T168 (y_sq e2 e3 rfl rfl)
    have T141 : ∀ {G : aH}, y_fr h G [19585, 19587, 19588] [154] → 0 ≤ best.toInt → 1 ≤ wh.toInt → aOK s_P X (d + 5) a_m207 141 [some (.ref 155), some (.int cl), some (.int best), some (.long bw), none, some (.long wh), none, some (.int vI), o8, none] [] G C S K0 := by
      intro G e b0 w1
      obtain ⟨bn, hb⟩ : ∃ bn : Nat, best.toInt = bn := ⟨best.toInt.toNat, by omega⟩
      have cb := y_cl1 hb
      refine w_go z_hl [] [194] 40 e.1 ?_
      refine ⟨⟨by omega, by omega⟩, fun l hl len bb => fun H hH => ?_⟩
      obtain rfl := y_ai ((y_ae e rfl).trans g) hl
      have hm := bb _ (z_gd (0 : Int32) (show best.toNatClampNeg < co.length by omega))
      have hc1 : 1 ≤ (co.getD best.toNatClampNeg 0).toInt := by rw [cb]; exact c1 bn (by omega)
      have hc9 : (co.getD best.toNatClampNeg 0).toInt ≤ 99 := hm.2
      have m1 := y_m8 w0 w8 w0 w8
      have p1 : 1 ≤ wh.toInt * wh.toInt := Int.mul_pos (by omega) (by omega)
      have p2 := y_p8 w0 w8 w0 w8
      have p3 : 1 ≤ (wh * wh).toInt * (co.getD best.toNatClampNeg 0).toInt64.toInt := by rw [m1, y_i2l]; exact Int.mul_pos (by omega) (by omega)
      have p4 : (wh * wh).toInt * (co.getD best.toNatClampNeg 0).toInt64.toInt ≤ 10000000000000000 * 99 := by rw [m1, y_i2l]; exact Int.mul_le_mul (by omega) hc9 (by omega) (by decide)
      have m2 := y_mul (a := wh * wh) (b := (co.getD best.toNatClampNeg 0).toInt64) (by omega) (by omega)
      have e2 := y_st e hH (by repeat (first | exact w_nil | refine w_cons (Or.inl (y_m rfl)) ?_ | refine w_cons (Or.inr (by assumption)) ?_)) (by repeat (first | exact w_nil | refine w_cons (Or.inl (y_m rfl)) ?_ | refine w_cons (Or.inr (by assumption)) ?_))
      refine q_lowest (n := bw) (m := wh * wh * (co.getD best.toNatClampNeg 0).toInt64) e2.1 (by omega) (by rw [m2]; exact p3) (fun u l H2 e3 _ _ _ _ _ _ _ => ⟨fun n e => (by cases e), ?_⟩)
      exact T159 (y_sq e2 e3 rfl rfl)
    have e0 : y_fr h h [19585, 19587, 19588] [154] := y_mo (y_rf s.1) rfl rfl
    refine w_go z_hl [32, 141] [] 40 s.1 ?_
    intro x hx _ _
    obtain rfl := y_fi s.2.1 hx
    refine ⟨fun _ => ⟨fun _ => ⟨fun _ => fun H hH => hK _ H (y_st e0 hH (by repeat (first | exact w_nil | refine w_cons (Or.inl (y_m rfl)) ?_ | refine w_cons (Or.inr (by assumption)) ?_)) (by repeat (first | exact w_nil | refine w_cons (Or.inl (y_m rfl)) ?_ | refine w_cons (Or.inr (by assumption)) ?_))), fun _ => fun H hH => hK _ H (y_st e0 hH (by repeat (first | exact w_nil | refine w_cons (Or.inl (y_m rfl)) ?_ | refine w_cons (Or.inr (by assumption)) ?_)) (by repeat (first | exact w_nil | refine w_cons (Or.inl (y_m rfl)) ?_ | refine w_cons (Or.inr (by assumption)) ?_)))⟩, fun q1 => ⟨fun q2 => fun H hH => ?_, fun _ => ⟨fun _ => fun H hH => hK _ H (y_st e0 hH (by repeat (first | exact w_nil | refine w_cons (Or.inl (y_m rfl)) ?_ | refine w_cons (Or.inr (by assumption)) ?_)) (by repeat (first | exact w_nil | refine w_cons (Or.inl (y_m rfl)) ?_ | refine w_cons (Or.inr (by assumption)) ?_))), fun _ => fun H hH => hK _ H (y_st e0 hH (by repeat (first | exact w_nil | refine w_cons (Or.inl (y_m rfl)) ?_ | refine w_cons (Or.inr (by assumption)) ?_)) (by repeat (first | exact w_nil | refine w_cons (Or.inl (y_m rfl)) ?_ | refine w_cons (Or.inr (by assumption)) ?_)))⟩⟩⟩, fun q => ?_⟩
    · have x1 : ¬ (best.toInt < (0 : Int32).toInt) := y_cif q1
      rw [show (0 : Int32).toInt = 0 by decide] at x1
      have x2 : wh.toInt ≠ (Int64.ofNat 0).toInt := (y_cl .ne _ _).mp q2
      rw [show (Int64.ofNat 0).toInt = 0 by decide] at x2
      exact T141 (y_st e0 hH (by repeat (first | exact w_nil | refine w_cons (Or.inl (y_m rfl)) ?_ | refine w_cons (Or.inr (by assumption)) ?_)) (by repeat (first | exact w_nil | refine w_cons (Or.inl (y_m rfl)) ?_ | refine w_cons (Or.inr (by assumption)) ?_))) (by omega) (by omega)
    · have : ¬ (nd.toInt ≤ vI.toInt) := y_cif q
      omega
  | succ m ih =>
    intro h best vI bw k o8 s g hk hm b1 bw0 bw1 hK
    obtain ⟨n0, n10⟩ := y_ndb s.1 s.2.1
    have ink : (vI + Int32.ofInt 1).toInt = ((k + 1 : Nat) : Int) := by rw [y_inc (by omega), hk]; rfl
    have next : ∀ {G : aH} {best' : Int32} {bw' : Int64} {o8 : Option Value}, y_fr h G [] [] → best'.toInt < nd.toInt → 0 ≤ bw'.toInt → bw'.toInt ≤ 20000000000000000 → aOK s_P X (d + 5) a_m207 113 [some (.ref 155), some (.int cl), some (.int best'), some (.long bw'), none, some (.long wh), none, some (.int vI), o8, none] [] G C S K0 := by
      intro G best' bw' o8 e x1 x2 x3
      refine w_go z_hl [32] [] 30 e.1 ?_
      intro H hH
      have e2 := y_st e hH (by repeat (first | exact w_nil | refine w_cons (Or.inl (y_m rfl)) ?_ | refine w_cons (Or.inr (by assumption)) ?_)) (by repeat (first | exact w_nil | refine w_cons (Or.inl (y_m rfl)) ?_ | refine w_cons (Or.inr (by assumption)) ?_))
      exact ih H _ _ _ (k + 1) _ (y_wc_fr s e2 rfl rfl rfl) ((y_ae e2 rfl).trans g) ink (by omega) x1 x2 x3 (fun r H' f => hK r H' (y_sq (y_mo e2 rfl rfl) f rfl rfl))
    have T77 : ∀ {G : aH} {its : Int64}, y_fr h G [] [] → 0 ≤ its.toInt → its.toInt ≤ 20000000000000000 → aOK s_P X (d + 5) a_m207 77 [some (.ref 155), some (.int cl), some (.int best), some (.long bw), none, some (.long wh), none, some (.int vI), o8, none] [.long its] G C S K0 := by
      intro G its e i0 i1
      refine w_go z_hl [113] [] 40 e.1 ?_
      refine ⟨fun _ => fun H hH => next (y_st e hH (by repeat (first | exact w_nil | refine w_cons (Or.inl (y_m rfl)) ?_ | refine w_cons (Or.inr (by assumption)) ?_)) (by repeat (first | exact w_nil | refine w_cons (Or.inl (y_m rfl)) ?_ | refine w_cons (Or.inr (by assumption)) ?_))) (by omega) i0 i1, fun q => ?_⟩
      have x1 : ¬ (best.toInt < (0 : Int32).toInt) := y_cif q
      rw [show (0 : Int32).toInt = 0 by decide] at x1
      refine ⟨⟨by omega, by omega⟩, fun l hl len bb => ⟨⟨by omega, by omega⟩, ⟨fun _ => fun H hH => next (y_st e hH (by repeat (first | exact w_nil | refine w_cons (Or.inl (y_m rfl)) ?_ | refine w_cons (Or.inr (by assumption)) ?_)) (by repeat (first | exact w_nil | refine w_cons (Or.inl (y_m rfl)) ?_ | refine w_cons (Or.inr (by assumption)) ?_))) b1 bw0 bw1, fun _ => fun H hH => next (y_st e hH (by repeat (first | exact w_nil | refine w_cons (Or.inl (y_m rfl)) ?_ | refine w_cons (Or.inr (by assumption)) ?_)) (by repeat (first | exact w_nil | refine w_cons (Or.inl (y_m rfl)) ?_ | refine w_cons (Or.inr (by assumption)) ?_))) (by omega) i0 i1⟩⟩⟩
    have e0 : y_fr h h [] [] := y_rf s.1
    refine w_go z_hl [32, 113] [205] 40 s.1 ?_
    intro x hx _ _
    obtain rfl := y_fi s.2.1 hx
    refine ⟨fun q => ?_, fun _ => ⟨fun _ => fun H hH => next (y_st e0 hH (by repeat (first | exact w_nil | refine w_cons (Or.inl (y_m rfl)) ?_ | refine w_cons (Or.inr (by assumption)) ?_)) (by repeat (first | exact w_nil | refine w_cons (Or.inl (y_m rfl)) ?_ | refine w_cons (Or.inr (by assumption)) ?_))) b1 bw0 bw1, fun _ => ⟨⟨by omega, by omega⟩, fun l hl len bb => ⟨fun _ => fun H hH => next (y_st e0 hH (by repeat (first | exact w_nil | refine w_cons (Or.inl (y_m rfl)) ?_ | refine w_cons (Or.inr (by assumption)) ?_)) (by repeat (first | exact w_nil | refine w_cons (Or.inl (y_m rfl)) ?_ | refine w_cons (Or.inr (by assumption)) ?_))) b1 bw0 bw1, fun _ => ⟨⟨by omega, by omega⟩, fun l2 hl2 len2 bb2 => ⟨fun _ => fun H hH => ?_, fun _ => fun H hH => next (y_st e0 hH (by repeat (first | exact w_nil | refine w_cons (Or.inl (y_m rfl)) ?_ | refine w_cons (Or.inr (by assumption)) ?_)) (by repeat (first | exact w_nil | refine w_cons (Or.inl (y_m rfl)) ?_ | refine w_cons (Or.inr (by assumption)) ?_))) b1 bw0 bw1⟩⟩⟩⟩⟩⟩
    · have : nd.toInt ≤ vI.toInt := (y_ci .ge _ _).mp q
      omega
    · have e2 := y_st e0 hH (by repeat (first | exact w_nil | refine w_cons (Or.inl (y_m rfl)) ?_ | refine w_cons (Or.inr (by assumption)) ?_)) (by repeat (first | exact w_nil | refine w_cons (Or.inl (y_m rfl)) ?_ | refine w_cons (Or.inr (by assumption)) ?_))
      refine q_worthOf (y_wc_fr s e2 rfl rfl rfl) (fun r H2 e3 r0 r1 => ⟨fun n e => (by cases e), ?_⟩)
      exact T77 (y_sq e2 e3 rfl rfl) r0 r1
theorem p_need (hr : w_hr z_D h) (hJ : y_J h) (hC : j_cost h) {cl : Int32} (hk : ∀ (r : Int32) (H : aH), y_fr h H [19584, 19585, 19587, 19588] [154, 163] → y_J H → K0 (some (.int r)) H C S) : aOK s_P X (d + 5) a_m207 0 [some (.ref 155), some (.int cl), none, none, none, none, none, none, none, none] [] h C S K0 := by
  obtain ⟨nd, sm, so, sa, s1, s2, s3, s4, s5⟩ := id hJ.2.2.2.2.1
  obtain ⟨b1, b2⟩ := y_ndb hr s1
  obtain ⟨ndc, co, knc, kcc, x1, x2, x3, x4, x5, x6⟩ := id hC
  obtain rfl := y_fi s1 x1
  have T27 : ∀ {G0 G : aH} {wl : List Int64} {wh : Int64}, y_fr h G0 [19584] [163] → y_J G0 → y_wl G0 wl → y_fr G0 G [] [] → 0 ≤ wh.toInt → wh.toInt ≤ 100000000 → aOK s_P X (d + 5) a_m207 27 [some (.ref 155), some (.int cl), some (.int (Int32.ofInt (-1))), some (.long (Int64.ofNat 0)), none, none, none, none, none, none] [.long wh] G C S K0 := by
    intro G0 G wl wh e0 J0 hw e w0 w8
    refine w_go z_hl [32] [] 30 e.1 ?_
    intro H hH
    have f : y_fr G0 H [] [] := y_st e hH (by repeat (first | exact w_nil | refine w_cons (Or.inl (y_m rfl)) ?_ | refine w_cons (Or.inr (by assumption)) ?_)) (by repeat (first | exact w_nil | refine w_cons (Or.inl (y_m rfl)) ?_ | refine w_cons (Or.inr (by assumption)) ?_))
    have f1 : y_fr h H [19584] [163] := y_sq e0 f rfl rfl
    refine y_need_loop w0 w8 x5 nd.toInt.toNat H _ _ _ 0 _ ⟨f.1, (y_fe f1 rfl).trans s1, (y_ae f1 rfl).trans s4, y_wl_fr f (fun q => by cases q) hw⟩ ((y_ae f1 rfl).trans x2) rfl (by omega) (by show (Int32.ofInt (-1)).toInt < _; rw [show (Int32.ofInt (-1)).toInt = -1 by decide]; omega) (by decide) (by decide) (fun r H5 e5 => ?_)
    exact hk r H5 (y_sq (y_mo f1 rfl rfl) e5 rfl rfl) (y_J_fr e5 rfl rfl (y_J_fr f rfl rfl J0))
  have T19 : ∀ {G0 : aH} {wl : List Int64}, y_fr h G0 [19584] [163] → y_J G0 → y_wl G0 wl → aOK s_P X (d + 5) a_m207 19 [some (.ref 155), some (.int cl), none, none, none, none, none, none, none, none] [] G0 C S K0 := by
    intro G0 wl e0 J0 hw
    refine w_go z_hl [] [189] 30 e0.1 ?_
    intro H hH
    have f : y_fr G0 H [] [] := y_st (y_rf e0.1) hH (by repeat (first | exact w_nil | refine w_cons (Or.inl (y_m rfl)) ?_ | refine w_cons (Or.inr (by assumption)) ?_)) (by repeat (first | exact w_nil | refine w_cons (Or.inl (y_m rfl)) ?_ | refine w_cons (Or.inr (by assumption)) ?_))
    have f1 : y_fr h H [19584] [163] := y_sq e0 f rfl rfl
    refine aOK_deep (d := d + 3) (by omega) (q_now ⟨f.1, (y_fe f1 rfl).trans s1, (y_ae f1 rfl).trans s4, y_wl_fr f (fun q => by cases q) hw⟩ (fun r H2 e3 r0 r8 => ⟨fun n e => (by cases e), ?_⟩))
    exact T27 e0 J0 hw (y_sq f e3 rfl rfl) r0 r8
  have T10 : ∀ {G : aH} {b : Bool}, y_fr h G [19584] [] → aOK s_P X (d + 5) a_m207 10 [some (.ref 155), some (.int cl), none, none, none, none, none, none, none, none] [.int (y_01 b)] G C S K0 := by
    intro G b e
    refine w_go z_hl [] [188] 30 e.1 ?_
    refine ⟨fun _ => fun H hH => ?_, fun _ => fun H hH => ?_⟩
    · have e2 := y_st e hH (by repeat (first | exact w_nil | refine w_cons (Or.inl (y_m rfl)) ?_ | refine w_cons (Or.inr (by assumption)) ?_)) (by repeat (first | exact w_nil | refine w_cons (Or.inl (y_m rfl)) ?_ | refine w_cons (Or.inr (by assumption)) ?_))
      refine q_weighsUp e2.1 (y_J_fr e2 rfl rfl hJ) (fun wl H2 e3 J3 hw => ⟨fun n e => (by cases e), ?_⟩)
      exact T19 (y_sq (y_mo e2 rfl rfl) e3 rfl rfl) J3 hw
    · have e2 := y_st e hH (by repeat (first | exact w_nil | refine w_cons (Or.inl (y_m rfl)) ?_ | refine w_cons (Or.inr (by assumption)) ?_)) (by repeat (first | exact w_nil | refine w_cons (Or.inl (y_m rfl)) ?_ | refine w_cons (Or.inr (by assumption)) ?_))
      exact hk _ H (y_mo e2 rfl rfl) (y_J_fr e2 rfl rfl hJ)
  refine w_go z_hl [] [178] 30 hr ?_
  refine ⟨rfl, y_zini (by decide) (by decide), fun H1 h1 => ?_⟩
  have e1 : y_fr h H1 [19584] [] := y_st (y_mo (y_rf hr) rfl rfl) h1 (by repeat (first | exact w_nil | refine w_cons (Or.inl (y_m rfl)) ?_ | refine w_cons (Or.inr (by assumption)) ?_)) (by repeat (first | exact w_nil | refine w_cons (Or.inl (y_m rfl)) ?_ | refine w_cons (Or.inr (by assumption)) ?_))
  refine q_isNode (v := cl) e1.1 ((y_fe e1 rfl).trans s1) (fun H2 v h2 hv hv2 hvc => ⟨fun n e => (by cases e), ?_⟩) (fun H2 h2 => ⟨fun n e => (by cases e), ?_⟩)
  · exact T10 (y_sq e1 h2 rfl rfl)
  · exact T10 (y_sq e1 h2 rfl rfl)
end WG
