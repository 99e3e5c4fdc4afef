/-! ===== v3: the reference's moved, moves, most ===== -/
theorem y_lsub {a b : Int64} (h1 : -9223372036854775808 ≤ a.toInt - b.toInt) (h2 : a.toInt - b.toInt ≤ 9223372036854775807) : (a - b).toInt = a.toInt - b.toInt := by
  rw [Int64.toInt_sub]
  exact Int.bmod_eq_of_le (by omega) (by omega)
theorem y_p8 {a b : Int} (a0 : 0 ≤ a) (a8 : a ≤ 100000000) (b0 : 0 ≤ b) (b8 : b ≤ 100000000) : 0 ≤ a * b ∧ a * b ≤ 10000000000000000 := ⟨Int.mul_nonneg a0 b0, by
  have := Int.mul_le_mul a8 b8 b0 (by decide)
  omega⟩
theorem y_m8 {a b : Int64} (a0 : 0 ≤ a.toInt) (a8 : a.toInt ≤ 100000000) (b0 : 0 ≤ b.toInt) (b8 : b.toInt ≤ 100000000) : (a * b).toInt = a.toInt * b.toInt := by
  have := y_p8 a0 a8 b0 b8
  exact y_mul (by omega) (by omega)
section WG
variable {X : aX} {C S d : Nat} {K0 : Option Value → aH → Nat → Nat → Prop}
theorem y_moved {h : aH} {nd claim seen : Int32} {sa : List Int32} {wl : List Int64} (hr : w_hr z_D h) (g1 : w_f h 19591 = some (.int nd)) (g2 : w_a h 160 = some (0, .inl sa)) (hw : y_wl h wl) (hne : y_nw sa nd wl (Int32.ofInt (-1)) true (Int32.ofInt (-1)) ≠ 0) (hk : ∀ (u l : Int64) (H : aH), y_fr h H [19587, 19588] [] → w_f H 19587 = some (.long u) → w_f H 19588 = some (.long l) → 1 ≤ l.toInt → -10000000000000000 ≤ u.toInt → u.toInt ≤ 10000000000000000 → K0 none H C S) : aOK s_P X (d + 4) a_m201 0 [some (.ref 155), some (.int claim), some (.int seen), none, none, none, none, none, none, none, none] [] h C S K0 := by
  obtain ⟨b1, b2⟩ := y_ndb hr g1
  have bb := fun (node : Int32) (but : Int32) => y_nw_b (sa := sa) (node := node) (so := true) (but := but) hw b1 b2
  have hm := y_nw_m (sa := sa) (nd := nd) (seen := seen) hw.2.1
  have T51 : ∀ {G : aH} {u l : Int64} {o3 o5 o7 o9 : Option Value}, y_fr h G [19587, 19588] [] → w_f G 19587 = some (.long u) → w_f G 19588 = some (.long l) → 1 ≤ l.toInt → -10000000000000000 ≤ u.toInt → u.toInt ≤ 10000000000000000 → aOK s_P X (d + 4) a_m201 51 [some (.ref 155), some (.int claim), some (.int seen), o3, none, o5, none, o7, none, o9, none] [] G C S K0 := by
    intro G u l o3 o5 o7 o9 e f1 f2 f3 f4 f5
    refine w_go z_hl [] [] 30 e.1 ?_
    intro H hH
    have f : y_fr G H [] [] := y_st (y_rf e.1) hH (by repeat (first | exact w_nil | refine w_cons (Or.inl (y_m rfl)) ?_ | refine w_cons (Or.inr (by assumption)) ?_)) (by repeat (first | exact w_nil | refine w_cons (Or.inl (y_m rfl)) ?_ | refine w_cons (Or.inr (by assumption)) ?_))
    exact hk u l H (y_sq e f rfl rfl) ((y_fe f rfl).trans f1) ((y_fe f rfl).trans f2) f3 f4 f5
  have T30 : ∀ {G : aH} {a b c e' : Int64}, y_fr h G [] [] → 0 ≤ a.toInt → a.toInt ≤ 100000000 → 1 ≤ b.toInt → b.toInt ≤ 100000000 → 0 ≤ c.toInt → c.toInt ≤ 100000000 → 1 ≤ e'.toInt → e'.toInt ≤ 100000000 → aOK s_P X (d + 4) a_m201 30 [some (.ref 155), some (.int claim), some (.int seen), some (.long a), none, some (.long b), none, some (.long c), none, none, none] [.long e'] G C S K0 := by
    intro G a b c e' e a0 a8 b0 b8 c0 c8 e0 e8
    refine w_go z_hl [] [194] 40 e.1 ?_
    intro H hH
    have e2 := y_st e hH (by repeat (first | exact w_nil | refine w_cons (Or.inl (y_m rfl)) ?_ | refine w_cons (Or.inr (by assumption)) ?_)) (by repeat (first | exact w_nil | refine w_cons (Or.inl (y_m rfl)) ?_ | refine w_cons (Or.inr (by assumption)) ?_))
    have p1 := y_p8 a0 a8 (show 0 ≤ e'.toInt by omega) e8
    have p2 := y_p8 c0 c8 (show 0 ≤ b.toInt by omega) b8
    have p3 := y_p8 (show 0 ≤ b.toInt by omega) b8 (show 0 ≤ e'.toInt by omega) e8
    have m1 := y_m8 a0 a8 (show 0 ≤ e'.toInt by omega) e8
    have m2 := y_m8 c0 c8 (show 0 ≤ b.toInt by omega) b8
    have m3 := y_m8 (show 0 ≤ b.toInt by omega) b8 (show 0 ≤ e'.toInt by omega) e8
    have p4 : 1 ≤ b.toInt * e'.toInt := Int.mul_pos (by omega) (by omega)
    have s1 : (a * e' - c * b).toInt = a.toInt * e'.toInt - c.toInt * b.toInt := by
      rw [y_lsub (by rw [m1, m2]; omega) (by rw [m1, m2]; omega), m1, m2]
    refine q_lowest (n := a * e' - c * b) (m := b * e') e2.1 (by rw [s1]; omega) (by rw [m3]; exact p4) (fun u l H2 e3 f1 f2 f3 f4 f5 f6 f7 => ⟨fun n e => (by cases e), ?_⟩)
    rw [s1] at f5 f6
    exact T51 (y_sq (y_mo e2 rfl rfl) e3 rfl rfl) f1 f2 f3 (by omega) (by omega)
  have T21 : ∀ {G : aH} {a b c : Int64}, y_fr h G [] [] → 0 ≤ a.toInt → a.toInt ≤ 100000000 → 1 ≤ b.toInt → b.toInt ≤ 100000000 → 0 ≤ c.toInt → c.toInt ≤ 100000000 → aOK s_P X (d + 4) a_m201 21 [some (.ref 155), some (.int claim), some (.int seen), some (.long a), none, some (.long b), none, none, none, none, none] [.long c] G C S K0 := by
    intro G a b c e a0 a8 b0 b8 c0 c8
    refine w_go z_hl [] [190] 40 e.1 ?_
    intro H hH
    have e2 := y_st e hH (by repeat (first | exact w_nil | refine w_cons (Or.inl (y_m rfl)) ?_ | refine w_cons (Or.inr (by assumption)) ?_)) (by repeat (first | exact w_nil | refine w_cons (Or.inl (y_m rfl)) ?_ | refine w_cons (Or.inr (by assumption)) ?_))
    refine y_nowWith (b := true) e2.1 ((y_fe e2 rfl).trans g1) ((y_ae e2 rfl).trans g2) (y_wl_fr e2 (fun q => by cases q) hw) (fun r H2 e3 hr3 => ⟨fun n e => (by cases e), ?_⟩)
    have q1 := bb (Int32.ofInt (-1)) seen
    have q2 := bb (Int32.ofInt (-1)) (Int32.ofInt (-1))
    exact T30 (y_sq e2 e3 rfl rfl) a0 a8 b0 b8 c0 c8 (by omega) (by omega)
  have T12 : ∀ {G : aH} {a b : Int64}, y_fr h G [] [] → 0 ≤ a.toInt → a.toInt ≤ 100000000 → 1 ≤ b.toInt → b.toInt ≤ 100000000 → aOK s_P X (d + 4) a_m201 12 [some (.ref 155), some (.int claim), some (.int seen), some (.long a), none, none, none, none, none, none, none] [.long b] G C S K0 := by
    intro G a b e a0 a8 b0 b8
    refine w_go z_hl [] [190] 40 e.1 ?_
    intro H hH
    have e2 := y_st e hH (by repeat (first | exact w_nil | refine w_cons (Or.inl (y_m rfl)) ?_ | refine w_cons (Or.inr (by assumption)) ?_)) (by repeat (first | exact w_nil | refine w_cons (Or.inl (y_m rfl)) ?_ | refine w_cons (Or.inr (by assumption)) ?_))
    refine y_nowWith (b := true) e2.1 ((y_fe e2 rfl).trans g1) ((y_ae e2 rfl).trans g2) (y_wl_fr e2 (fun q => by cases q) hw) (fun r H2 e3 hr3 => ⟨fun n e => (by cases e), ?_⟩)
    have q1 := bb claim seen
    exact T21 (y_sq e2 e3 rfl rfl) a0 a8 b0 b8 (by omega) (by omega)
  have T7 : ∀ {G : aH} {a : Int64}, y_fr h G [] [] → 0 ≤ a.toInt → a.toInt ≤ 100000000 → aOK s_P X (d + 4) a_m201 7 [some (.ref 155), some (.int claim), some (.int seen), none, none, none, none, none, none, none, none] [.long a] G C S K0 := by
    intro G a e a0 a8
    refine w_go z_hl [] [189] 40 e.1 ?_
    intro H hH
    have e2 := y_st e hH (by repeat (first | exact w_nil | refine w_cons (Or.inl (y_m rfl)) ?_ | refine w_cons (Or.inr (by assumption)) ?_)) (by repeat (first | exact w_nil | refine w_cons (Or.inl (y_m rfl)) ?_ | refine w_cons (Or.inr (by assumption)) ?_))
    refine y_now e2.1 ((y_fe e2 rfl).trans g1) ((y_ae e2 rfl).trans g2) (y_wl_fr e2 (fun q => by cases q) hw) (fun r H2 e3 hr3 => ⟨fun n e => (by cases e), ?_⟩)
    have q1 := bb (Int32.ofInt (-1)) (Int32.ofInt (-1))
    exact T12 (y_sq e2 e3 rfl rfl) a0 a8 (by omega) (by omega)
  refine w_go z_hl [] [190] 40 hr ?_
  intro H hH
  have e2 : y_fr h H [] [] := y_st (y_rf hr) hH (by repeat (first | exact w_nil | refine w_cons (Or.inl (y_m rfl)) ?_ | refine w_cons (Or.inr (by assumption)) ?_)) (by repeat (first | exact w_nil | refine w_cons (Or.inl (y_m rfl)) ?_ | refine w_cons (Or.inr (by assumption)) ?_))
  refine y_nowWith (b := true) e2.1 ((y_fe e2 rfl).trans g1) ((y_ae e2 rfl).trans g2) (y_wl_fr e2 (fun q => by cases q) hw) (fun r H2 e3 hr3 => ⟨fun n e => (by cases e), ?_⟩)
  have q1 := bb claim (Int32.ofInt (-1))
  exact T7 (y_sq e2 e3 rfl rfl) (by omega) (by omega)
theorem y_moves_tail {h : aH} {nd claim seen : Int32} {sa : List Int32} {wl : List Int64} (hr : w_hr z_D h) (g1 : w_f h 19591 = some (.int nd)) (g2 : w_a h 160 = some (0, .inl sa)) (hw : y_wl h wl) (hk : ∀ (r : Int32) (H : aH), y_fr h H [19585, 19587, 19588] [154] → K0 (some (.int r)) H C S) : aOK s_P X (d + 5) a_m200 41 [some (.ref 155), some (.int claim), some (.int seen)] [] h C S K0 := by
  have T68 : ∀ {G : aH}, y_fr h G [19585, 19587, 19588] [154] → aOK s_P X (d + 5) a_m200 68 [some (.ref 155), some (.int claim), some (.int seen)] [] G C S K0 := by
    intro G e
    refine w_go z_hl [] [] 30 e.1 ?_
    intro x hx _ _
    refine ⟨fun _ => ⟨fun _ => fun H hH => ?_, fun _ => fun H hH => ?_⟩, fun _ => fun H hH => ?_⟩
    · exact hk _ H (y_st e hH (by repeat (first | exact w_nil | refine w_cons (Or.inl (y_m rfl)) ?_ | refine w_cons (Or.inr (by assumption)) ?_)) (by repeat (first | exact w_nil | refine w_cons (Or.inl (y_m rfl)) ?_ | refine w_cons (Or.inr (by assumption)) ?_)))
    · exact hk _ H (y_st e hH (by repeat (first | exact w_nil | refine w_cons (Or.inl (y_m rfl)) ?_ | refine w_cons (Or.inr (by assumption)) ?_)) (by repeat (first | exact w_nil | refine w_cons (Or.inl (y_m rfl)) ?_ | refine w_cons (Or.inr (by assumption)) ?_)))
    · exact hk _ H (y_st e hH (by repeat (first | exact w_nil | refine w_cons (Or.inl (y_m rfl)) ?_ | refine w_cons (Or.inr (by assumption)) ?_)) (by repeat (first | exact w_nil | refine w_cons (Or.inl (y_m rfl)) ?_ | refine w_cons (Or.inr (by assumption)) ?_)))
  have T59 : ∀ {G : aH}, y_fr h G [19585, 19587, 19588] [154] → aOK s_P X (d + 5) a_m200 59 [some (.ref 155), some (.int claim), some (.int seen)] [] G C S K0 := by
    intro G e
    refine w_go z_hl [] [196] 30 e.1 ?_
    refine ⟨rfl, y_zini (by decide) (by decide), fun H hH => ?_⟩
    have e2 := y_st e hH (by repeat (first | exact w_nil | refine w_cons (Or.inl (y_m rfl)) ?_ | refine w_cons (Or.inr (by assumption)) ?_)) (by repeat (first | exact w_nil | refine w_cons (Or.inl (y_m rfl)) ?_ | refine w_cons (Or.inr (by assumption)) ?_))
    refine y_tells e2.1 (hH.2.1 19585 _ rfl) (by decide) (by decide) (fun H2 r2 e3 _ _ => ⟨fun n e => (by cases e), ?_⟩)
    exact T68 (y_sq e2 e3 rfl rfl)
  have T45 : ∀ {G : aH} {r : Int64}, y_fr h G [] [] → r.toInt = y_nw sa nd wl (Int32.ofInt (-1)) true (Int32.ofInt (-1)) → aOK s_P X (d + 5) a_m200 45 [some (.ref 155), some (.int claim), some (.int seen)] [.long r] G C S K0 := by
    intro G r e hr3
    refine w_go z_hl [] [201] 30 e.1 ?_
    refine ⟨fun q => ?_, fun q => ?_⟩
    · have q2 : r.toInt ≠ (Int64.ofNat 0).toInt := (y_cl .ne _ _).mp q
      intro H hH
      have e2 := y_st e hH (by repeat (first | exact w_nil | refine w_cons (Or.inl (y_m rfl)) ?_ | refine w_cons (Or.inr (by assumption)) ?_)) (by repeat (first | exact w_nil | refine w_cons (Or.inl (y_m rfl)) ?_ | refine w_cons (Or.inr (by assumption)) ?_))
      refine y_moved e2.1 ((y_fe e2 rfl).trans g1) ((y_ae e2 rfl).trans g2) (y_wl_fr e2 (fun q => by cases q) hw) (fun e0 => q2 (by rw [hr3, e0]; decide)) (fun u l H2 e3 _ _ _ _ _ => ⟨fun n e => (by cases e), ?_⟩)
      exact T59 (y_sq (y_mo e2 rfl rfl) e3 rfl rfl)
    · intro H hH
      exact hk _ H (y_st (y_mo e rfl rfl) hH (by repeat (first | exact w_nil | refine w_cons (Or.inl (y_m rfl)) ?_ | refine w_cons (Or.inr (by assumption)) ?_)) (by repeat (first | exact w_nil | refine w_cons (Or.inl (y_m rfl)) ?_ | refine w_cons (Or.inr (by assumption)) ?_)))
  refine w_go z_hl [] [189] 30 hr ?_
  intro H hH
  have e2 : y_fr h H [] [] := y_st (y_rf hr) hH (by repeat (first | exact w_nil | refine w_cons (Or.inl (y_m rfl)) ?_ | refine w_cons (Or.inr (by assumption)) ?_)) (by repeat (first | exact w_nil | refine w_cons (Or.inl (y_m rfl)) ?_ | refine w_cons (Or.inr (by assumption)) ?_))
  refine y_now e2.1 ((y_fe e2 rfl).trans g1) ((y_ae e2 rfl).trans g2) (y_wl_fr e2 (fun q => by cases q) hw) (fun r H2 e3 hr3 => ⟨fun n e => (by cases e), ?_⟩)
  exact T45 (y_sq e2 e3 rfl rfl) hr3
theorem p_moves {h : aH} (hr : w_hr z_D h) (hJ : y_J h) {claim seen : Int32} (hk : ∀ (r : Int32) (H : aH), y_fr h H [19584, 19585, 19587, 19588] [154, 163] → y_J H → K0 (some (.int r)) H C S) : aOK s_P X (d + 5) a_m200 0 [some (.ref 155), some (.int claim), some (.int seen)] [] h C S K0 := by
  obtain ⟨nd, sm, so, sa, s1, s2, s3, s4, s5⟩ := id hJ.2.2.2.2.1
  obtain ⟨b1, b2⟩ := y_ndb hr s1
  have out : ∀ {G : aH} {r : Int32}, y_fr h G [19584] [] → K0 (some (.int r)) G C S := fun g => hk _ _ (y_mo g rfl rfl) (y_J_fr g rfl rfl hJ)
  have T18 : ∀ {G : aH} {v : Nat}, y_fr h G [19584] [] → seen.toInt = v → v < 10 → aOK s_P X (d + 5) a_m200 18 [some (.ref 155), some (.int claim), some (.int seen)] [.int (y_01 true)] G C S K0 := by
    intro G v e hv hv10
    refine w_go z_hl [] [188] 30 e.1 ?_
    refine ⟨fun q => absurd q (by decide), fun _ => ?_⟩
    refine ⟨⟨by omega, by omega⟩, fun l hl len bb => ⟨fun _ => fun H hH => out (y_st e hH (by repeat (first | exact w_nil | refine w_cons (Or.inl (y_m rfl)) ?_ | refine w_cons (Or.inr (by assumption)) ?_)) (by repeat (first | exact w_nil | refine w_cons (Or.inl (y_m rfl)) ?_ | refine w_cons (Or.inr (by assumption)) ?_))), fun _ => ⟨fun _ => ?_, fun _ => fun H hH => out (y_st e hH (by repeat (first | exact w_nil | refine w_cons (Or.inl (y_m rfl)) ?_ | refine w_cons (Or.inr (by assumption)) ?_)) (by repeat (first | exact w_nil | refine w_cons (Or.inl (y_m rfl)) ?_ | refine w_cons (Or.inr (by assumption)) ?_)))⟩⟩⟩
    intro H hH
    have e2 := y_st e hH (by repeat (first | exact w_nil | refine w_cons (Or.inl (y_m rfl)) ?_ | refine w_cons (Or.inr (by assumption)) ?_)) (by repeat (first | exact w_nil | refine w_cons (Or.inl (y_m rfl)) ?_ | refine w_cons (Or.inr (by assumption)) ?_))
    have J2 := y_J_fr e2 rfl rfl hJ
    refine q_weighsUp e2.1 J2 (fun wl H2 e3 J3 hw => ⟨fun n e => (by cases e), ?_⟩)
    have e4 : y_fr h H2 [19584] [163] := y_sq (y_mo e2 rfl rfl) e3 rfl rfl
    refine y_moves_tail e4.1 ((y_fe e4 rfl).trans s1) ((y_ae e4 rfl).trans s4) hw (fun r H5 e5 => ?_)
    exact hk r H5 (y_sq (y_mo e4 rfl rfl) e5 rfl rfl) (y_J_fr e5 rfl rfl J3)
  have T18n : ∀ {G : aH}, y_fr h G [19584] [] → aOK s_P X (d + 5) a_m200 18 [some (.ref 155), some (.int claim), some (.int seen)] [.int (y_01 false)] G C S K0 := by
    intro G e
    refine w_go z_hl [] [188] 30 e.1 ?_
    exact ⟨fun _ => fun H hH => out (y_st e hH (by repeat (first | exact w_nil | refine w_cons (Or.inl (y_m rfl)) ?_ | refine w_cons (Or.inr (by assumption)) ?_)) (by repeat (first | exact w_nil | refine w_cons (Or.inl (y_m rfl)) ?_ | refine w_cons (Or.inr (by assumption)) ?_))), fun q => absurd q (by decide)⟩
  have T10 : ∀ {G : aH} {b : Bool}, y_fr h G [19584] [] → aOK s_P X (d + 5) a_m200 10 [some (.ref 155), some (.int claim), some (.int seen)] [.int (y_01 b)] G C S K0 := by
    intro G b e
    refine w_go z_hl [] [178] 30 e.1 ?_
    refine ⟨fun _ => fun H hH => out (y_st e hH (by repeat (first | exact w_nil | refine w_cons (Or.inl (y_m rfl)) ?_ | refine w_cons (Or.inr (by assumption)) ?_)) (by repeat (first | exact w_nil | refine w_cons (Or.inl (y_m rfl)) ?_ | refine w_cons (Or.inr (by assumption)) ?_))), fun _ => fun H hH => ?_⟩
    have e2 := y_st e hH (by repeat (first | exact w_nil | refine w_cons (Or.inl (y_m rfl)) ?_ | refine w_cons (Or.inr (by assumption)) ?_)) (by repeat (first | exact w_nil | refine w_cons (Or.inl (y_m rfl)) ?_ | refine w_cons (Or.inr (by assumption)) ?_))
    refine q_isNode (v := seen) e2.1 ((y_fe e2 rfl).trans s1) (fun H2 v h2 hv hv2 hvc => ⟨fun n e => (by cases e), ?_⟩) (fun H2 h2 => ⟨fun n e => (by cases e), ?_⟩)
    · exact T18 (y_sq e2 h2 rfl rfl) hv (by omega)
    · exact T18n (y_sq e2 h2 rfl rfl)
  refine w_go z_hl [] [178] 30 hr ?_
  refine ⟨rfl, y_zini (by decide) (by decide), fun H1 h1 => ?_⟩
  have e1 : y_fr h H1 [19584] [] := y_st (y_mo (y_rf hr) rfl rfl) h1 (by repeat (first | exact w_nil | refine w_cons (Or.inl (y_m rfl)) ?_ | refine w_cons (Or.inr (by assumption)) ?_)) (by repeat (first | exact w_nil | refine w_cons (Or.inl (y_m rfl)) ?_ | refine w_cons (Or.inr (by assumption)) ?_))
  refine q_isNode (v := claim) e1.1 ((y_fe e1 rfl).trans s1) (fun H2 v h2 hv hv2 hvc => ⟨fun n e => (by cases e), ?_⟩) (fun H2 h2 => ⟨fun n e => (by cases e), ?_⟩)
  · exact T10 (y_sq e1 h2 rfl rfl)
  · exact T10 (y_sq e1 h2 rfl rfl)
theorem y_most_loop {nd claim sm : Int32} {sa : List Int32} {wl : List Int64} (m0 : 0 ≤ sm.toInt) (m10 : sm.toInt ≤ 10) (hne : y_nw sa nd wl (Int32.ofInt (-1)) true (Int32.ofInt (-1)) ≠ 0) : ∀ (t : Nat) (h : aH) (best kI : Int32) (bu bl : Int64) (k : Nat) (o8 : Option Value), w_hr z_D h → w_f h 19591 = some (.int nd) → w_f h 19598 = some (.int sm) → w_a h 160 = some (0, .inl sa) → y_wl h wl → kI.toInt = k → (k : Int) + t = sm.toInt → 1 ≤ bl.toInt →
    (∀ (r : Int32) (H : aH), y_fr h H [19585, 19587, 19588] [154, 155] → K0 (some (.int r)) H C S) →
    aOK s_P X (d + 5) a_m202 66 [some (.ref 155), some (.int claim), some (.int best), some (.long bu), none, some (.long bl), none, some (.int kI), o8, none] [] h C S K0 := by
  intro t
  induction t with
  | zero =>
    intro h best kI bu bl k o8 hr g1 g2 g3 hw hk hkt hbl hK
    have T169 : ∀ {G : aH}, y_fr h G [19585, 19587, 19588] [154, 155] → aOK s_P X (d + 5) a_m202 169 [some (.ref 155), some (.int claim), some (.int best), some (.long bu), none, some (.long bl), none, some (.int kI), o8, none] [] G C S K0 := by
      intro G e
      refine w_go z_hl [] [] 30 e.1 ?_
      intro H hH
      exact hK _ H (y_st e hH (by repeat (first | exact w_nil | refine w_cons (Or.inl (y_m rfl)) ?_ | refine w_cons (Or.inr (by assumption)) ?_)) (by repeat (first | exact w_nil | refine w_cons (Or.inl (y_m rfl)) ?_ | refine w_cons (Or.inr (by assumption)) ?_)))
    have T163 : ∀ {G : aH} {r1 : Int32}, y_fr h G [19585, 19587, 19588] [154, 155] → w_f G 19585 = some (.int r1) → r1.toInt = 1 → aOK s_P X (d + 5) a_m202 163 [some (.ref 155), some (.int claim), some (.int best), some (.long bu), none, some (.long bl), none, some (.int kI), o8, none] [] G C S K0 := by
      intro G r1 e f1 hr1
      refine w_go z_hl [] [197] 30 e.1 ?_
      intro H hH
      have f : y_fr G H [] [] := y_st (y_rf e.1) hH (by repeat (first | exact w_nil | refine w_cons (Or.inl (y_m rfl)) ?_ | refine w_cons (Or.inr (by assumption)) ?_)) (by repeat (first | exact w_nil | refine w_cons (Or.inl (y_m rfl)) ?_ | refine w_cons (Or.inr (by assumption)) ?_))
      refine y_enters f.1 ((y_fe f rfl).trans f1) (by omega) (by omega) (fun H2 r2 e2 _ _ => ⟨fun n e => (by cases e), ?_⟩)
      exact T169 (y_sq (y_sq e f rfl rfl) e2 rfl rfl)
    refine w_go z_hl [66] [197] 30 hr ?_
    intro x hx _ _
    obtain rfl := y_fi g2 hx
    refine ⟨fun q => ?_, fun q => ?_⟩
    · refine ⟨rfl, y_zini (by decide) (by decide), fun H hH => ?_⟩
      have e : y_fr h H [19585, 19587, 19588] [154, 155] := y_st (y_mo (y_rf hr) rfl rfl) hH (by repeat (first | exact w_nil | refine w_cons (Or.inl (y_m rfl)) ?_ | refine w_cons (Or.inr (by assumption)) ?_)) (by repeat (first | exact w_nil | refine w_cons (Or.inl (y_m rfl)) ?_ | refine w_cons (Or.inr (by assumption)) ?_))
      refine y_enters e.1 (hH.2.1 19585 _ rfl) (by decide) (by decide) (fun H2 r2 e2 f2 hr2 => ⟨fun n e => (by cases e), ?_⟩)
      exact T163 (y_sq e e2 rfl rfl) f2 (by rw [hr2]; decide)
    · have : ¬ (sm.toInt ≤ kI.toInt) := y_cif q
      omega
  | succ t ih =>
    intro h best kI bu bl k o8 hr g1 g2 g3 hw hk hkt hbl hK
    have hik : (kI + Int32.ofInt 1).toInt = ((k + 1 : Nat) : Int) := by rw [y_inc (by omega), hk]; rfl
    have next : ∀ {H : aH} {best' : Int32} {bu' bl' : Int64} {o : Option Value}, y_fr h H [19587, 19588] [155] → 1 ≤ bl'.toInt → aOK s_P X (d + 5) a_m202 66 [some (.ref 155), some (.int claim), some (.int best'), some (.long bu'), none, some (.long bl'), none, some (.int (kI + Int32.ofInt 1)), o, none] [] H C S K0 := by
      intro H best' bu' bl' o e hbl'
      exact ih H _ _ _ _ (k + 1) _ e.1 ((y_fe e rfl).trans g1) ((y_fe e rfl).trans g2) ((y_ae e rfl).trans g3) (y_wl_fr e (fun q => by revert q; decide) hw) hik (by omega) hbl' (fun r H' f => hK r H' (y_sq (y_mo e rfl rfl) f rfl rfl))
    have T130 : ∀ {G : aH} {far l : Int64}, y_fr h G [19587, 19588] [155] → w_f G 19588 = some (.long l) → 1 ≤ l.toInt → aOK s_P X (d + 5) a_m202 130 [some (.ref 155), some (.int claim), some (.int best), some (.long bu), none, some (.long bl), none, some (.int kI), some (.long far), none] [] G C S K0 := by
      intro G far l e f1 hl
      refine w_go z_hl [66] [] 30 e.1 ?_
      refine ⟨⟨by omega, by omega⟩, fun l1 hl1 len bb => ?_⟩
      intro x hx _ _
      obtain rfl := y_fl f1 hx
      intro H hH
      exact next (y_st e hH (by repeat (first | exact w_nil | refine w_cons (Or.inl (y_m rfl)) ?_ | refine w_cons (Or.inr (by assumption)) ?_)) (by repeat (first | exact w_nil | refine w_cons (Or.inl (y_m rfl)) ?_ | refine w_cons (Or.inr (by assumption)) ?_))) hl
    have T127 : ∀ {G : aH} {far l : Int64} {c : Int32}, y_fr h G [19587, 19588] [155] → w_f G 19588 = some (.long l) → 1 ≤ l.toInt → aOK s_P X (d + 5) a_m202 127 [some (.ref 155), some (.int claim), some (.int best), some (.long bu), none, some (.long bl), none, some (.int kI), some (.long far), none] [.int c] G C S K0 := by
      intro G far l c e f1 hl
      refine w_go z_hl [66, 130] [] 30 e.1 ?_
      refine ⟨fun _ => fun H hH => next (y_st e hH (by repeat (first | exact w_nil | refine w_cons (Or.inl (y_m rfl)) ?_ | refine w_cons (Or.inr (by assumption)) ?_)) (by repeat (first | exact w_nil | refine w_cons (Or.inl (y_m rfl)) ?_ | refine w_cons (Or.inr (by assumption)) ?_))) hbl, fun _ => fun H hH => ?_⟩
      have f : y_fr G H [] [] := y_st (y_rf e.1) hH (by repeat (first | exact w_nil | refine w_cons (Or.inl (y_m rfl)) ?_ | refine w_cons (Or.inr (by assumption)) ?_)) (by repeat (first | exact w_nil | refine w_cons (Or.inl (y_m rfl)) ?_ | refine w_cons (Or.inr (by assumption)) ?_))
      exact T130 (y_sq e f rfl rfl) ((y_fe f rfl).trans f1) hl
    have T108 : ∀ {G : aH} {far l : Int64}, y_fr h G [19587, 19588] [155] → w_f G 19588 = some (.long l) → 1 ≤ l.toInt → aOK s_P X (d + 5) a_m202 108 [some (.ref 155), some (.int claim), some (.int best), some (.long bu), none, some (.long bl), none, some (.int kI), o8, none] [.long far] G C S K0 := by
      intro G far l e f1 hl
      refine w_go z_hl [66, 130] [203] 30 e.1 ?_
      refine ⟨fun _ => fun H hH => ?_, fun _ => ?_⟩
      · have f : y_fr G H [] [] := y_st (y_rf e.1) hH (by repeat (first | exact w_nil | refine w_cons (Or.inl (y_m rfl)) ?_ | refine w_cons (Or.inr (by assumption)) ?_)) (by repeat (first | exact w_nil | refine w_cons (Or.inl (y_m rfl)) ?_ | refine w_cons (Or.inr (by assumption)) ?_))
        exact T130 (y_sq e f rfl rfl) ((y_fe f rfl).trans f1) hl
      · intro x hx _ _
        obtain rfl := y_fl f1 hx
        intro H hH
        have f : y_fr G H [] [] := y_st (y_rf e.1) hH (by repeat (first | exact w_nil | refine w_cons (Or.inl (y_m rfl)) ?_ | refine w_cons (Or.inr (by assumption)) ?_)) (by repeat (first | exact w_nil | refine w_cons (Or.inl (y_m rfl)) ?_ | refine w_cons (Or.inr (by assumption)) ?_))
        refine y_compares (b := l) (e := bl) f.1 (fun q => by rw [q] at hl; exact absurd hl (by decide)) (fun q => by rw [q] at hbl; exact absurd hbl (by decide)) (fun r H2 hr2 e2 => ⟨fun n e => (by cases e), ?_⟩)
        exact T127 (y_sq (y_sq e f rfl rfl) e2 rfl rfl) ((y_fe e2 rfl).trans ((y_fe f rfl).trans f1)) hl
    have T101 : ∀ {G : aH} {u l : Int64}, y_fr h G [19587, 19588] [155] → w_f G 19587 = some (.long u) → w_f G 19588 = some (.long l) → 1 ≤ l.toInt → aOK s_P X (d + 5) a_m202 101 [some (.ref 155), some (.int claim), some (.int best), some (.long bu), none, some (.long bl), none, some (.int kI), o8, none] [] G C S K0 := by
      intro G u l e f0 f1 hl
      refine w_go z_hl [108] [] 30 e.1 ?_
      intro x hx _ _
      obtain rfl := y_fl f0 hx
      refine ⟨fun _ => fun H hH => ?_, fun _ => fun H hH => ?_⟩
      · have f : y_fr G H [] [] := y_st (y_rf e.1) hH (by repeat (first | exact w_nil | refine w_cons (Or.inl (y_m rfl)) ?_ | refine w_cons (Or.inr (by assumption)) ?_)) (by repeat (first | exact w_nil | refine w_cons (Or.inl (y_m rfl)) ?_ | refine w_cons (Or.inr (by assumption)) ?_))
        exact T108 (y_sq e f rfl rfl) ((y_fe f rfl).trans f1) hl
      · have f : y_fr G H [] [] := y_st (y_rf e.1) hH (by repeat (first | exact w_nil | refine w_cons (Or.inl (y_m rfl)) ?_ | refine w_cons (Or.inr (by assumption)) ?_)) (by repeat (first | exact w_nil | refine w_cons (Or.inl (y_m rfl)) ?_ | refine w_cons (Or.inr (by assumption)) ?_))
        exact T108 (y_sq e f rfl rfl) ((y_fe f rfl).trans f1) hl
    refine w_go z_hl [66] [201] 30 hr ?_
    intro x hx _ _
    obtain rfl := y_fi g2 hx
    refine ⟨fun q => ?_, fun q => ?_⟩
    · have : sm.toInt ≤ kI.toInt := (y_ci .ge _ _).mp q
      omega
    · refine ⟨⟨by omega, by omega⟩, fun l1 hl1 len bb => ⟨fun _ => ?_, fun _ => fun H hH => next (y_st (y_mo (y_rf hr) rfl rfl) hH (by repeat (first | exact w_nil | refine w_cons (Or.inl (y_m rfl)) ?_ | refine w_cons (Or.inr (by assumption)) ?_)) (by repeat (first | exact w_nil | refine w_cons (Or.inl (y_m rfl)) ?_ | refine w_cons (Or.inr (by assumption)) ?_))) hbl⟩⟩
      refine ⟨⟨by omega, by omega⟩, fun H hH => ?_⟩
      have f : y_fr h H [] [] := y_st (y_rf hr) hH (by repeat (first | exact w_nil | refine w_cons (Or.inl (y_m rfl)) ?_ | refine w_cons (Or.inr (by assumption)) ?_)) (by repeat (first | exact w_nil | refine w_cons (Or.inl (y_m rfl)) ?_ | refine w_cons (Or.inr (by assumption)) ?_))
      refine y_moved f.1 ((y_fe f rfl).trans g1) ((y_ae f rfl).trans g3) (y_wl_fr f (fun q => by cases q) hw) hne (fun u l H2 e3 f1 f2 f3 _ _ => ⟨fun n e => (by cases e), ?_⟩)
      exact T101 (y_sq (y_mo f rfl rfl) e3 rfl rfl) f1 f2 f3
theorem p_most {h : aH} (hr : w_hr z_D h) (hJ : y_J h) {claim : Int32} (hk : ∀ (r : Int32) (H : aH), y_fr h H [19584, 19585, 19587, 19588] [154, 155, 163] → y_J H → K0 (some (.int r)) H C S) : aOK s_P X (d + 5) a_m202 0 [some (.ref 155), some (.int claim), none, none, none, none, none, none, none, none] [] h C S K0 := by
  obtain ⟨nd, sm, so, sa, s1, s2, s3, s4, s5⟩ := id hJ.2.2.2.2.1
  obtain ⟨b1, b2⟩ := y_ndb hr s1
  obtain ⟨m0, m10⟩ := y_smb hr s2
  have out : ∀ {G : aH} {r : Int32}, y_fr h G [19584] [] → K0 (some (.int r)) G C S := fun g => hk _ _ (y_mo g rfl rfl) (y_J_fr g rfl rfl hJ)
  have T48 : ∀ {G0 G : aH} {wl : List Int64} {r : Int64}, y_fr h G0 [19584] [163] → y_J G0 → y_wl G0 wl → y_fr G0 G [] [] → r.toInt = y_nw sa nd wl (Int32.ofInt (-1)) true (Int32.ofInt (-1)) → aOK s_P X (d + 5) a_m202 48 [some (.ref 155), some (.int claim), none, none, none, none, none, none, none, none] [.long r] G C S K0 := by
    intro G0 G wl r e0 J0 hw e hr3
    have e1 : y_fr h G [19584] [163] := y_sq e0 e rfl rfl
    refine w_go z_hl [66] [] 30 e.1 ?_
    refine ⟨fun q => ?_, fun q => fun H hH => ?_⟩
    · have q2 : r.toInt ≠ (Int64.ofNat 0).toInt := (y_cl .ne _ _).mp q
      intro H hH
      have f : y_fr G0 H [] [] := y_st e hH (by repeat (first | exact w_nil | refine w_cons (Or.inl (y_m rfl)) ?_ | refine w_cons (Or.inr (by assumption)) ?_)) (by repeat (first | exact w_nil | refine w_cons (Or.inl (y_m rfl)) ?_ | refine w_cons (Or.inr (by assumption)) ?_))
      have f1 : y_fr h H [19584] [163] := y_sq e0 f rfl rfl
      refine y_most_loop m0 m10 (fun e0 => q2 (by rw [hr3, e0]; decide)) sm.toInt.toNat H _ _ _ _ 0 _ f.1 ((y_fe f1 rfl).trans s1) ((y_fe f1 rfl).trans s2) ((y_ae f1 rfl).trans s4) (y_wl_fr f (fun q => by cases q) hw) rfl (by omega) (by decide) (fun r' H5 e5 => ?_)
      exact hk r' H5 (y_sq (y_mo f1 rfl rfl) e5 rfl rfl) (y_J_fr e5 rfl rfl (y_J_fr f rfl rfl J0))
    · have f : y_fr G0 H [] [] := y_st e hH (by repeat (first | exact w_nil | refine w_cons (Or.inl (y_m rfl)) ?_ | refine w_cons (Or.inr (by assumption)) ?_)) (by repeat (first | exact w_nil | refine w_cons (Or.inl (y_m rfl)) ?_ | refine w_cons (Or.inr (by assumption)) ?_))
      exact hk _ H (y_sq (y_mo e0 rfl rfl) f rfl rfl) (y_J_fr f rfl rfl J0)
  have T44 : ∀ {G0 : aH} {wl : List Int64}, y_fr h G0 [19584] [163] → y_J G0 → y_wl G0 wl → aOK s_P X (d + 5) a_m202 44 [some (.ref 155), some (.int claim), none, none, none, none, none, none, none, none] [] G0 C S K0 := by
    intro G0 wl e0 J0 hw
    refine w_go z_hl [] [189] 30 e0.1 ?_
    intro H hH
    have f : y_fr G0 H [] [] := y_st (y_rf e0.1) hH (by repeat (first | exact w_nil | refine w_cons (Or.inl (y_m rfl)) ?_ | refine w_cons (Or.inr (by assumption)) ?_)) (by repeat (first | exact w_nil | refine w_cons (Or.inl (y_m rfl)) ?_ | refine w_cons (Or.inr (by assumption)) ?_))
    have f1 : y_fr h H [19584] [163] := y_sq e0 f rfl rfl
    refine y_now f.1 ((y_fe f1 rfl).trans s1) ((y_ae f1 rfl).trans s4) (y_wl_fr f (fun q => by cases q) hw) (fun r H2 e3 hr3 => ⟨fun n e => (by cases e), ?_⟩)
    exact T48 e0 J0 hw (y_sq f e3 rfl rfl) hr3
  have T40 : ∀ {G : aH}, y_fr h G [19584] [] → aOK s_P X (d + 5) a_m202 40 [some (.ref 155), some (.int claim), none, none, none, none, none, none, none, none] [] G C S K0 := by
    intro G e
    refine w_go z_hl [] [188] 30 e.1 ?_
    intro H hH
    have e2 := y_st e hH (by repeat (first | exact w_nil | refine w_cons (Or.inl (y_m rfl)) ?_ | refine w_cons (Or.inr (by assumption)) ?_)) (by repeat (first | exact w_nil | refine w_cons (Or.inl (y_m rfl)) ?_ | refine w_cons (Or.inr (by assumption)) ?_))
    refine q_weighsUp e2.1 (y_J_fr e2 rfl rfl hJ) (fun wl H2 e3 J3 hw => ⟨fun n e => (by cases e), ?_⟩)
    exact T44 (y_sq (y_mo e2 rfl rfl) e3 rfl rfl) J3 hw
  have T10 : ∀ {G : aH} {v : Nat}, y_fr h G [19584] [] → claim.toInt = v → v < 10 → aOK s_P X (d + 5) a_m202 10 [some (.ref 155), some (.int claim), none, none, none, none, none, none, none, none] [.int (y_01 true)] G C S K0 := by
    intro G v e hv hv10
    refine w_go z_hl [40] [] 30 e.1 ?_
    refine ⟨fun q => absurd q (by decide), fun _ => ?_⟩
    intro x hx _ _
    refine ⟨⟨by omega, by omega⟩, fun l hl len bb => ⟨fun _ => ⟨fun _ => ⟨fun _ => fun H hH => T40 (y_st e hH (by repeat (first | exact w_nil | refine w_cons (Or.inl (y_m rfl)) ?_ | refine w_cons (Or.inr (by assumption)) ?_)) (by repeat (first | exact w_nil | refine w_cons (Or.inl (y_m rfl)) ?_ | refine w_cons (Or.inr (by assumption)) ?_))), fun _ => fun H hH => out (y_st e hH (by repeat (first | exact w_nil | refine w_cons (Or.inl (y_m rfl)) ?_ | refine w_cons (Or.inr (by assumption)) ?_)) (by repeat (first | exact w_nil | refine w_cons (Or.inl (y_m rfl)) ?_ | refine w_cons (Or.inr (by assumption)) ?_)))⟩, fun q => absurd q (by decide)⟩, fun _ => ⟨fun q => absurd q (by decide), fun _ => ⟨fun _ => fun H hH => T40 (y_st e hH (by repeat (first | exact w_nil | refine w_cons (Or.inl (y_m rfl)) ?_ | refine w_cons (Or.inr (by assumption)) ?_)) (by repeat (first | exact w_nil | refine w_cons (Or.inl (y_m rfl)) ?_ | refine w_cons (Or.inr (by assumption)) ?_))), fun _ => fun H hH => out (y_st e hH (by repeat (first | exact w_nil | refine w_cons (Or.inl (y_m rfl)) ?_ | refine w_cons (Or.inr (by assumption)) ?_)) (by repeat (first | exact w_nil | refine w_cons (Or.inl (y_m rfl)) ?_ | refine w_cons (Or.inr (by assumption)) ?_)))⟩⟩⟩⟩
  have T10n : ∀ {G : aH}, y_fr h G [19584] [] → aOK s_P X (d + 5) a_m202 10 [some (.ref 155), some (.int claim), none, none, none, none, none, none, none, none] [.int (y_01 false)] G C S K0 := by
    intro G e
    refine w_go z_hl [] [] 30 e.1 ?_
    exact ⟨fun _ => fun H hH => out (y_st e hH (by repeat (first | exact w_nil | refine w_cons (Or.inl (y_m rfl)) ?_ | refine w_cons (Or.inr (by assumption)) ?_)) (by repeat (first | exact w_nil | refine w_cons (Or.inl (y_m rfl)) ?_ | refine w_cons (Or.inr (by assumption)) ?_))), fun q => absurd q (by decide)⟩
  refine w_go z_hl [] [178] 30 hr ?_
  refine ⟨rfl, y_zini (by decide) (by decide), fun H1 h1 => ?_⟩
  have e1 : y_fr h H1 [19584] [] := y_st (y_mo (y_rf hr) rfl rfl) h1 (by repeat (first | exact w_nil | refine w_cons (Or.inl (y_m rfl)) ?_ | refine w_cons (Or.inr (by assumption)) ?_)) (by repeat (first | exact w_nil | refine w_cons (Or.inl (y_m rfl)) ?_ | refine w_cons (Or.inr (by assumption)) ?_))
  refine q_isNode (v := claim) e1.1 ((y_fe e1 rfl).trans s1) (fun H2 v h2 hv hv2 hvc => ⟨fun n e => (by cases e), ?_⟩) (fun H2 h2 => ⟨fun n e => (by cases e), ?_⟩)
  · exact T10 (y_sq e1 h2 rfl rfl) hv (by omega)
  · exact T10n (y_sq e1 h2 rfl rfl)
end WG
