/-! ===== v3: the reference's shifts, enough, rare, count, of ===== -/
section WG
variable {X : aX} {C S d : Nat} {K0 : Option Value → aH → Nat → Nat → Prop} {h : aH}
theorem y_dyE (hr : w_hr z_D h) : ∃ dy : Int32, w_f h 19643 = some (.int dy) ∧ 0 ≤ dy.toInt ∧ dy.toInt ≤ 30 := by
  obtain ⟨vs, w, z1, z2, z3, z4⟩ := w_get1 hr (o := 153) (ci := 12) rfl (k := 59) rfl
  have e := w_f_at z1 (k := 59) (by decide)
  rcases z4 with ⟨-, x, ex, c1, c2⟩ | ⟨q, -⟩
  · exact ⟨x, by rw [show (19643 : Nat) = 153 * 128 + 59 by decide, e, z3, ex], c1, c2⟩
  · cases q
theorem y_deaths_loop {a b dy : Int32} (d0 : 0 ≤ dy.toInt) (d30 : dy.toInt ≤ 30) : ∀ (m : Nat) (h : aH) (nI kI : Int32) (n k : Nat), w_hr z_D h → w_f h 19643 = some (.int dy) → nI.toInt = n → kI.toInt = k → n ≤ k → (k : Int) + m = dy.toInt → (∀ (r : Int32) (H : aH), y_fr h H [] [] → 0 ≤ r.toInt → r.toInt ≤ dy.toInt → K0 (some (.int r)) H C S) → aOK s_P X (d + 1) a_m275 5 [some (.ref 155), some (.int a), some (.int b), some (.int nI), some (.int kI)] [] h C S K0 := by
  intro m
  induction m with
  | zero =>
    intro h nI kI n k hr g hn hk nk hm hK
    refine w_go z_hl [5] [] 30 hr ?_
    intro x hx _ _
    obtain rfl := y_fi g hx
    refine ⟨fun _ => fun H hH => hK _ H (y_st (y_rf hr) hH (by repeat (first | exact w_nil | refine w_cons (Or.inl (y_m rfl)) ?_ | refine w_cons (Or.inr (by assumption)) ?_)) (by repeat (first | exact w_nil | refine w_cons (Or.inl (y_m rfl)) ?_ | refine w_cons (Or.inr (by assumption)) ?_))) (by omega) (by omega), fun q => ?_⟩
    have : ¬ (dy.toInt ≤ kI.toInt) := y_cif q
    omega
  | succ m ih =>
    intro h nI kI n k hr g hn hk nk hm hK
    have ink : (kI + Int32.ofInt 1).toInt = ((k + 1 : Nat) : Int) := by rw [y_inc (by omega), hk]; rfl
    have T58 : ∀ {G : aH} {c : Bool}, y_fr h G [] [] → aOK s_P X (d + 1) a_m275 58 [some (.ref 155), some (.int a), some (.int b), some (.int nI), some (.int kI)] [.int (y_01 c), .int nI] G C S K0 := by
      intro G c e
      have z1 : (nI + Int32.ofInt 1).toInt = ((n + 1 : Nat) : Int) := by rw [y_inc (by omega), hn]; rfl
      have z0 : (nI + Int32.ofInt 0).toInt = (n : Int) := by rw [show Int32.ofInt 0 = (0 : Int32) by decide, Int32.add_zero]; exact hn
      refine w_go z_hl [5] [] 30 e.1 ?_
      refine ⟨fun _ => fun H hH => ?_, fun _ => fun H hH => ?_⟩
      · have f := y_st e hH (by repeat (first | exact w_nil | refine w_cons (Or.inl (y_m rfl)) ?_ | refine w_cons (Or.inr (by assumption)) ?_)) (by repeat (first | exact w_nil | refine w_cons (Or.inl (y_m rfl)) ?_ | refine w_cons (Or.inr (by assumption)) ?_))
        exact ih H _ _ n (k + 1) f.1 ((y_fe f rfl).trans g) z0 ink (by omega) (by omega) (fun r H' f' r0 r1 => hK r H' (y_sq f f' rfl rfl) r0 r1)
      · have f := y_st e hH (by repeat (first | exact w_nil | refine w_cons (Or.inl (y_m rfl)) ?_ | refine w_cons (Or.inr (by assumption)) ?_)) (by repeat (first | exact w_nil | refine w_cons (Or.inl (y_m rfl)) ?_ | refine w_cons (Or.inr (by assumption)) ?_))
        exact ih H _ _ (n + 1) (k + 1) f.1 ((y_fe f rfl).trans g) z1 ink (by omega) (by omega) (fun r H' f' r0 r1 => hK r H' (y_sq f f' rfl rfl) r0 r1)
    have f0 : y_fr h h [] [] := y_rf hr
    have T39 : ∀ {G : aH}, y_fr h G [] [] → aOK s_P X (d + 1) a_m275 39 [some (.ref 155), some (.int a), some (.int b), some (.int nI), some (.int kI)] [.int nI] G C S K0 := by
      intro G e
      refine w_go z_hl [58] [] 30 e.1 ?_
      exact ⟨fun _ => fun H hH => T58 (c := true) (y_st e hH (by repeat (first | exact w_nil | refine w_cons (Or.inl (y_m rfl)) ?_ | refine w_cons (Or.inr (by assumption)) ?_)) (by repeat (first | exact w_nil | refine w_cons (Or.inl (y_m rfl)) ?_ | refine w_cons (Or.inr (by assumption)) ?_))), fun _ => ⟨⟨by omega, by omega⟩, fun l hl len bb => ⟨fun _ => fun H hH => T58 (c := false) (y_st e hH (by repeat (first | exact w_nil | refine w_cons (Or.inl (y_m rfl)) ?_ | refine w_cons (Or.inr (by assumption)) ?_)) (by repeat (first | exact w_nil | refine w_cons (Or.inl (y_m rfl)) ?_ | refine w_cons (Or.inr (by assumption)) ?_))), fun _ => fun H hH => T58 (c := true) (y_st e hH (by repeat (first | exact w_nil | refine w_cons (Or.inl (y_m rfl)) ?_ | refine w_cons (Or.inr (by assumption)) ?_)) (by repeat (first | exact w_nil | refine w_cons (Or.inl (y_m rfl)) ?_ | refine w_cons (Or.inr (by assumption)) ?_)))⟩⟩⟩
    refine w_go z_hl [5, 39, 58] [] 40 hr ?_
    intro x hx _ _
    obtain rfl := y_fi g hx
    refine ⟨fun q => ?_, fun _ => ⟨⟨by omega, by omega⟩, fun l hl len bb => ⟨fun _ => fun H hH => T58 (c := false) (y_st f0 hH (by repeat (first | exact w_nil | refine w_cons (Or.inl (y_m rfl)) ?_ | refine w_cons (Or.inr (by assumption)) ?_)) (by repeat (first | exact w_nil | refine w_cons (Or.inl (y_m rfl)) ?_ | refine w_cons (Or.inr (by assumption)) ?_))), fun _ => ⟨fun _ => fun H hH => T39 (y_st f0 hH (by repeat (first | exact w_nil | refine w_cons (Or.inl (y_m rfl)) ?_ | refine w_cons (Or.inr (by assumption)) ?_)) (by repeat (first | exact w_nil | refine w_cons (Or.inl (y_m rfl)) ?_ | refine w_cons (Or.inr (by assumption)) ?_))), fun _ => ⟨⟨by omega, by omega⟩, fun l2 hl2 len2 bb2 => ⟨fun _ => fun H hH => T58 (c := false) (y_st f0 hH (by repeat (first | exact w_nil | refine w_cons (Or.inl (y_m rfl)) ?_ | refine w_cons (Or.inr (by assumption)) ?_)) (by repeat (first | exact w_nil | refine w_cons (Or.inl (y_m rfl)) ?_ | refine w_cons (Or.inr (by assumption)) ?_))), fun _ => fun H hH => T39 (y_st f0 hH (by repeat (first | exact w_nil | refine w_cons (Or.inl (y_m rfl)) ?_ | refine w_cons (Or.inr (by assumption)) ?_)) (by repeat (first | exact w_nil | refine w_cons (Or.inl (y_m rfl)) ?_ | refine w_cons (Or.inr (by assumption)) ?_)))⟩⟩⟩⟩⟩⟩
    have : dy.toInt ≤ kI.toInt := (y_ci .ge _ _).mp q
    omega
theorem y_deaths (hr : w_hr z_D h) {a b dy : Int32} (g : w_f h 19643 = some (.int dy)) (d0 : 0 ≤ dy.toInt) (d30 : dy.toInt ≤ 30) (hK : ∀ (r : Int32) (H : aH), y_fr h H [] [] → 0 ≤ r.toInt → r.toInt ≤ dy.toInt → K0 (some (.int r)) H C S) : aOK s_P X (d + 1) a_m275 0 [some (.ref 155), some (.int a), some (.int b), none, none] [] h C S K0 := by
  refine w_go z_hl [5] [] 30 hr ?_
  intro H hH
  have e : y_fr h H [] [] := y_st (y_rf hr) hH (by repeat (first | exact w_nil | refine w_cons (Or.inl (y_m rfl)) ?_ | refine w_cons (Or.inr (by assumption)) ?_)) (by repeat (first | exact w_nil | refine w_cons (Or.inl (y_m rfl)) ?_ | refine w_cons (Or.inr (by assumption)) ?_))
  exact y_deaths_loop d0 d30 dy.toInt.toNat H _ _ 0 0 e.1 ((y_fe e rfl).trans g) rfl rfl (by omega) (by omega) (fun r H' f' r0 r1 => hK r H' (y_sq e f' rfl rfl) r0 r1)
theorem p_shifts (hr : w_hr z_D h) {a : Int32} (hk : ∀ (r : Int32) (H : aH), y_fr h H [19584, 19585, 19587, 19588] [154] → K0 (some (.int r)) H C S) : aOK s_P X (d + 3) a_m274 0 [some (.ref 155), some (.int a), none] [] h C S K0 := by
  obtain ⟨dy, gd, d0, d30⟩ := y_dyE hr
  have T75 : ∀ {G : aH} {on : Int32}, y_fr h G [19584, 19585, 19587, 19588] [154] → aOK s_P X (d + 3) a_m274 75 [some (.ref 155), some (.int a), some (.int on)] [] G C S K0 := by
    intro G on e
    refine w_go z_hl [] [] 30 e.1 ?_
    exact fun H hH => hk _ H (y_st e hH (by repeat (first | exact w_nil | refine w_cons (Or.inl (y_m rfl)) ?_ | refine w_cons (Or.inr (by assumption)) ?_)) (by repeat (first | exact w_nil | refine w_cons (Or.inl (y_m rfl)) ?_ | refine w_cons (Or.inr (by assumption)) ?_)))
  have T69 : ∀ {G : aH} {on r1 : Int32}, y_fr h G [19584, 19585, 19587, 19588] [154] → w_f G 19585 = some (.int r1) → r1.toInt = 2 → aOK s_P X (d + 3) a_m274 69 [some (.ref 155), some (.int a), some (.int on)] [] G C S K0 := by
    intro G on r1 e g hr1
    refine w_go z_hl [] [197] 30 e.1 ?_
    intro H hH
    have f : y_fr G H [] [] := y_st (y_rf e.1) hH (by repeat (first | exact w_nil | refine w_cons (Or.inl (y_m rfl)) ?_ | refine w_cons (Or.inr (by assumption)) ?_)) (by repeat (first | exact w_nil | refine w_cons (Or.inl (y_m rfl)) ?_ | refine w_cons (Or.inr (by assumption)) ?_))
    refine y_enters f.1 ((y_fe f rfl).trans g) (by omega) (by omega) (fun H2 r2 e3 _ _ => ⟨fun n e => (by cases e), ?_⟩)
    exact T75 (y_sq (y_sq e f rfl rfl) e3 rfl rfl)
  have T60 : ∀ {G : aH} {on : Int32}, y_fr h G [19584, 19585, 19587, 19588] [154] → aOK s_P X (d + 3) a_m274 60 [some (.ref 155), some (.int a), some (.int on)] [] G C S K0 := by
    intro G on e
    refine w_go z_hl [] [196] 30 e.1 ?_
    refine ⟨rfl, y_zini (by decide) (by decide), fun H hH => ?_⟩
    have e2 := y_st e hH (by repeat (first | exact w_nil | refine w_cons (Or.inl (y_m rfl)) ?_ | refine w_cons (Or.inr (by assumption)) ?_)) (by repeat (first | exact w_nil | refine w_cons (Or.inl (y_m rfl)) ?_ | refine w_cons (Or.inr (by assumption)) ?_))
    refine y_tells e2.1 (hH.2.1 19585 _ rfl) (by decide) (by decide) (fun H2 r2 e3 g3 hr3 => ⟨fun n e => (by cases e), ?_⟩)
    exact T69 (y_sq e2 e3 rfl rfl) g3 (by rw [hr3]; decide)
  have T56 : ∀ {G : aH} {on de : Int32}, y_fr h G [19584, 19585, 19587, 19588] [154] → 0 ≤ on.toInt → on.toInt ≤ 30 → 0 ≤ de.toInt → de.toInt ≤ dy.toInt → aOK s_P X (d + 3) a_m274 56 [some (.ref 155), some (.int a), some (.int on)] [.int de, .ref 155] G C S K0 := by
    intro G on de e o0 o1 e0 e1
    refine w_go z_hl [] [276] 30 e.1 ?_
    intro H hH
    have e2 := y_st e hH (by repeat (first | exact w_nil | refine w_cons (Or.inl (y_m rfl)) ?_ | refine w_cons (Or.inr (by assumption)) ?_)) (by repeat (first | exact w_nil | refine w_cons (Or.inl (y_m rfl)) ?_ | refine w_cons (Or.inr (by assumption)) ?_))
    refine y_byLot e2.1 ((y_fe e2 rfl).trans gd) d0 d30 e0 e1 o0 (by omega) (fun H2 f2 => ⟨fun n e => (by cases e), ?_⟩)
    exact T60 (y_sq e2 f2 rfl rfl)
  have T52 : ∀ {G : aH} {on : Int32} {b : Bool}, y_fr h G [19584, 19585, 19587, 19588] [154] → 0 ≤ on.toInt → on.toInt ≤ 30 → aOK s_P X (d + 3) a_m274 52 [some (.ref 155), some (.int a), some (.int on)] [.int (y_01 b), .ref 155, .ref 155] G C S K0 := by
    intro G on b e o0 o1
    refine w_go z_hl [] [275] 30 e.1 ?_
    intro H hH
    have e2 := y_st e hH (by repeat (first | exact w_nil | refine w_cons (Or.inl (y_m rfl)) ?_ | refine w_cons (Or.inr (by assumption)) ?_)) (by repeat (first | exact w_nil | refine w_cons (Or.inl (y_m rfl)) ?_ | refine w_cons (Or.inr (by assumption)) ?_))
    refine aOK_deep (d := d + 1) (by omega) (y_deaths e2.1 ((y_fe e2 rfl).trans gd) d0 d30 (fun r H2 f2 r0 r1 => ⟨fun n e => (by cases e), ?_⟩))
    exact T56 (y_sq e2 f2 rfl rfl) o0 o1 r0 r1
  have T39 : ∀ {G : aH} {on : Int32}, y_fr h G [19584, 19585, 19587, 19588] [154] → 0 ≤ on.toInt → on.toInt ≤ 30 → aOK s_P X (d + 3) a_m274 39 [some (.ref 155), some (.int a), none] [.int on] G C S K0 := by
    intro G on e o0 o1
    refine w_go z_hl [52] [] 30 e.1 ?_
    exact ⟨fun _ => fun H hH => T52 (b := false) (y_st e hH (by repeat (first | exact w_nil | refine w_cons (Or.inl (y_m rfl)) ?_ | refine w_cons (Or.inr (by assumption)) ?_)) (by repeat (first | exact w_nil | refine w_cons (Or.inl (y_m rfl)) ?_ | refine w_cons (Or.inr (by assumption)) ?_))) o0 o1, fun _ => fun H hH => T52 (b := true) (y_st e hH (by repeat (first | exact w_nil | refine w_cons (Or.inl (y_m rfl)) ?_ | refine w_cons (Or.inr (by assumption)) ?_)) (by repeat (first | exact w_nil | refine w_cons (Or.inl (y_m rfl)) ?_ | refine w_cons (Or.inr (by assumption)) ?_))) o0 o1⟩
  have T35 : ∀ {G : aH} {b : Bool}, y_fr h G [19584, 19585, 19587, 19588] [154] → aOK s_P X (d + 3) a_m274 35 [some (.ref 155), some (.int a), none] [.int (y_01 b), .ref 155] G C S K0 := by
    intro G b e
    refine w_go z_hl [] [275] 30 e.1 ?_
    intro H hH
    have e2 := y_st e hH (by repeat (first | exact w_nil | refine w_cons (Or.inl (y_m rfl)) ?_ | refine w_cons (Or.inr (by assumption)) ?_)) (by repeat (first | exact w_nil | refine w_cons (Or.inl (y_m rfl)) ?_ | refine w_cons (Or.inr (by assumption)) ?_))
    refine aOK_deep (d := d + 1) (by omega) (y_deaths e2.1 ((y_fe e2 rfl).trans gd) d0 d30 (fun r H2 f2 r0 r1 => ⟨fun n e => (by cases e), ?_⟩))
    exact T39 (y_sq e2 f2 rfl rfl) r0 (by omega)
  have T19 : ∀ {G : aH} {b : Bool}, y_fr h G [19584, 19585, 19587, 19588] [154] → aOK s_P X (d + 3) a_m274 19 [some (.ref 155), some (.int a), none] [.int (y_01 b)] G C S K0 := by
    intro G b e
    refine w_go z_hl [35] [] 30 e.1 ?_
    exact ⟨fun _ => ⟨fun _ => fun H hH => T35 (b := false) (y_st e hH (by repeat (first | exact w_nil | refine w_cons (Or.inl (y_m rfl)) ?_ | refine w_cons (Or.inr (by assumption)) ?_)) (by repeat (first | exact w_nil | refine w_cons (Or.inl (y_m rfl)) ?_ | refine w_cons (Or.inr (by assumption)) ?_))), fun _ => fun H hH => T35 (b := true) (y_st e hH (by repeat (first | exact w_nil | refine w_cons (Or.inl (y_m rfl)) ?_ | refine w_cons (Or.inr (by assumption)) ?_)) (by repeat (first | exact w_nil | refine w_cons (Or.inl (y_m rfl)) ?_ | refine w_cons (Or.inr (by assumption)) ?_)))⟩, fun _ => fun H hH => hk _ H (y_st e hH (by repeat (first | exact w_nil | refine w_cons (Or.inl (y_m rfl)) ?_ | refine w_cons (Or.inr (by assumption)) ?_)) (by repeat (first | exact w_nil | refine w_cons (Or.inl (y_m rfl)) ?_ | refine w_cons (Or.inr (by assumption)) ?_)))⟩
  have e0 : y_fr h h [19584, 19585, 19587, 19588] [154] := y_mo (y_rf hr) rfl rfl
  refine w_go z_hl [] [176] 30 hr ?_
  refine ⟨rfl, y_zini (by decide) (by decide), ?_⟩
  intro x hx _ _
  refine ⟨fun _ => fun H hH => hk _ H (y_st e0 hH (by repeat (first | exact w_nil | refine w_cons (Or.inl (y_m rfl)) ?_ | refine w_cons (Or.inr (by assumption)) ?_)) (by repeat (first | exact w_nil | refine w_cons (Or.inl (y_m rfl)) ?_ | refine w_cons (Or.inr (by assumption)) ?_))), fun _ => fun H hH => ?_⟩
  have e := y_st e0 hH (by repeat (first | exact w_nil | refine w_cons (Or.inl (y_m rfl)) ?_ | refine w_cons (Or.inr (by assumption)) ?_)) (by repeat (first | exact w_nil | refine w_cons (Or.inl (y_m rfl)) ?_ | refine w_cons (Or.inr (by assumption)) ?_))
  refine q_in e.1 (fun H3 h3 _ _ => ⟨fun n e => (by cases e), ?_⟩) (fun H3 h3 _ => ⟨fun n e => (by cases e), ?_⟩)
  · exact T19 (y_sq e h3 rfl rfl)
  · exact T19 (y_sq e h3 rfl rfl)
theorem y_s32 {a b : Int32} (h1 : -2147483648 ≤ a.toInt - b.toInt) (h2 : a.toInt - b.toInt ≤ 2147483647) : (a - b).toInt = a.toInt - b.toInt := by
  rw [Int32.toInt_sub]
  exact Int.bmod_eq_of_le (by omega) (by omega)
theorem y_a32 {a b : Int32} (h1 : -2147483648 ≤ a.toInt + b.toInt) (h2 : a.toInt + b.toInt ≤ 2147483647) : (a + b).toInt = a.toInt + b.toInt := by
  rw [Int32.toInt_add]
  exact Int.bmod_eq_of_le (by omega) (by omega)
theorem y_enough_loop {a dy lo ln ot oo : Int32} (d0 : 0 ≤ dy.toInt) (d30 : dy.toInt ≤ 30) (l0 : 0 ≤ lo.toInt) (lt : lo.toInt + ot.toInt ≤ dy.toInt) (n0 : 0 ≤ ln.toInt) (n30 : ln.toInt ≤ 30) (oo30 : oo.toInt ≤ 30) (oom : -30 ≤ oo.toInt) (otm : -30 ≤ ot.toInt) : ∀ (m : Nat) (h : aH) (nI : Int32), w_hr z_D h → w_f h 19643 = some (.int dy) → 0 ≤ nI.toInt → nI.toInt ≤ 31 → ot.toInt + 1 ≤ nI.toInt + m → (∀ (r : Int32) (H : aH), y_fr h H [19587, 19588] [] → K0 (some (.int r)) H C S) → aOK s_P X (d + 3) a_m278 63 [some (.ref 155), some (.int a), some (.int lo), some (.int ln), some (.int ot), some (.int oo), some (.int nI)] [] h C S K0 := by
  intro m
  induction m with
  | zero =>
    intro h nI hr g k0 k31 hm hK
    refine w_go z_hl [63] [] 30 hr ?_
    refine ⟨fun _ => fun H hH => hK _ H (y_st (y_mo (y_rf hr) rfl rfl) hH (by repeat (first | exact w_nil | refine w_cons (Or.inl (y_m rfl)) ?_ | refine w_cons (Or.inr (by assumption)) ?_)) (by repeat (first | exact w_nil | refine w_cons (Or.inl (y_m rfl)) ?_ | refine w_cons (Or.inr (by assumption)) ?_))), fun q => ?_⟩
    have : ¬ (ot.toInt < nI.toInt) := y_cif q
    omega
  | succ m ih =>
    intro h nI hr g k0 k31 hm hK
    have ink : (nI + Int32.ofInt 1).toInt = nI.toInt + 1 := y_inc (by omega)
    have s1 : (ot - oo).toInt = ot.toInt - oo.toInt := y_s32 (by omega) (by omega)
    have s2 : (nI - (ot - oo)).toInt = nI.toInt - (ot.toInt - oo.toInt) := by rw [y_s32 (by omega) (by omega), s1]
    have s3 : (lo + nI).toInt = lo.toInt + nI.toInt := y_a32 (by omega) (by omega)
    have T92 : ∀ {G : aH}, y_fr h G [19587, 19588] [] → nI.toInt ≤ ot.toInt → aOK s_P X (d + 3) a_m278 92 [some (.ref 155), some (.int a), some (.int lo), some (.int ln), some (.int ot), some (.int oo), some (.int nI)] [] G C S K0 := by
      intro G e hle
      refine w_go z_hl [63] [] 30 e.1 ?_
      intro x hx _ _
      intro y hy _ _
      refine ⟨fun _ => fun H hH => ?_, fun _ => fun H hH => hK _ H (y_st e hH (by repeat (first | exact w_nil | refine w_cons (Or.inl (y_m rfl)) ?_ | refine w_cons (Or.inr (by assumption)) ?_)) (by repeat (first | exact w_nil | refine w_cons (Or.inl (y_m rfl)) ?_ | refine w_cons (Or.inr (by assumption)) ?_)))⟩
      have e2 := y_st e hH (by repeat (first | exact w_nil | refine w_cons (Or.inl (y_m rfl)) ?_ | refine w_cons (Or.inr (by assumption)) ?_)) (by repeat (first | exact w_nil | refine w_cons (Or.inl (y_m rfl)) ?_ | refine w_cons (Or.inr (by assumption)) ?_))
      exact ih H _ e2.1 ((y_fe e2 rfl).trans g) (by show 0 ≤ (nI + Int32.ofInt 1).toInt; omega) (by show (nI + Int32.ofInt 1).toInt ≤ 31; omega) (by show _ ≤ (nI + Int32.ofInt 1).toInt + _; omega) (fun r H' f => hK r H' (y_sq e2 f rfl rfl))
    have BL : ∀ {H : aH} {x : Int32}, y_fr h H [] [] → nI.toInt ≤ ot.toInt → 0 ≤ x.toInt → x.toInt ≤ 30 → aOK s_P X (d + 2) a_m276 0 [some (.ref 155), some (.int (lo + nI)), some (.int (ln + x)), none, none, none, none] [] H C S (w_KF s_P X K0 (d + 2) [(a_m278, 92, [some (.ref 155), some (.int a), some (.int lo), some (.int ln), some (.int ot), some (.int oo), some (.int nI)], [])]) := by
      intro H x e hle x0 x1
      have s4 : (ln + x).toInt = ln.toInt + x.toInt := y_a32 (by omega) (by omega)
      refine y_byLot e.1 ((y_fe e rfl).trans g) d0 d30 (by omega) (by omega) (by omega) (by omega) (fun H2 f2 => ⟨fun n e => (by cases e), ?_⟩)
      exact T92 (y_sq (y_mo e rfl rfl) f2 rfl rfl) hle
    have f0 : y_fr h h [] [] := y_rf hr
    refine w_go z_hl [63] [276] 40 hr ?_
    refine ⟨fun _ => fun H hH => hK _ H (y_st (y_mo (y_rf hr) rfl rfl) hH (by repeat (first | exact w_nil | refine w_cons (Or.inl (y_m rfl)) ?_ | refine w_cons (Or.inr (by assumption)) ?_)) (by repeat (first | exact w_nil | refine w_cons (Or.inl (y_m rfl)) ?_ | refine w_cons (Or.inr (by assumption)) ?_))), fun q => ?_⟩
    have hle : ¬ (ot.toInt < nI.toInt) := y_cif q
    refine ⟨fun q2 => fun H hH => ?_, fun q2 => fun H hH => BL (x := Int32.ofInt 0) (y_st f0 hH (by repeat (first | exact w_nil | refine w_cons (Or.inl (y_m rfl)) ?_ | refine w_cons (Or.inr (by assumption)) ?_)) (by repeat (first | exact w_nil | refine w_cons (Or.inl (y_m rfl)) ?_ | refine w_cons (Or.inr (by assumption)) ?_))) (by omega) (by decide) (by decide)⟩
    have q3 : (Int32.ofInt 0).toInt < (nI - (ot - oo)).toInt := (y_ci .lt _ _).mp q2
    rw [show (Int32.ofInt 0).toInt = 0 by decide] at q3
    exact BL (x := nI - (ot - oo)) (y_st f0 hH (by repeat (first | exact w_nil | refine w_cons (Or.inl (y_m rfl)) ?_ | refine w_cons (Or.inr (by assumption)) ?_)) (by repeat (first | exact w_nil | refine w_cons (Or.inl (y_m rfl)) ?_ | refine w_cons (Or.inr (by assumption)) ?_))) (by omega) (by omega) (by omega)
theorem p_enough (hr : w_hr z_D h) {a : Int32} (hk : ∀ (r : Int32) (H : aH), y_fr h H [19584, 19587, 19588] [] → K0 (some (.int r)) H C S) : aOK s_P X (d + 3) a_m278 0 [some (.ref 155), some (.int a), none, none, none, none, none] [] h C S K0 := by
  obtain ⟨dy, gd, d0, d30⟩ := y_dyE hr
  have T56 : ∀ {G : aH} {lo ln ot x : Int32}, y_fr h G [19584, 19587, 19588] [] → 0 ≤ lo.toInt → lo.toInt + ot.toInt ≤ dy.toInt → -30 ≤ ot.toInt → 0 ≤ ln.toInt → ln.toInt ≤ 30 → 0 ≤ x.toInt → x.toInt ≤ 30 → aOK s_P X (d + 3) a_m278 56 [some (.ref 155), some (.int a), some (.int lo), some (.int ln), some (.int ot), none, none] [.int x] G C S K0 := by
    intro G lo ln ot x e l0 lt om n0 n30 x0 x30
    have s1 : (x - ln).toInt = x.toInt - ln.toInt := y_s32 (by omega) (by omega)
    refine w_go z_hl [63] [] 30 e.1 ?_
    intro H hH
    have e2 := y_st e hH (by repeat (first | exact w_nil | refine w_cons (Or.inl (y_m rfl)) ?_ | refine w_cons (Or.inr (by assumption)) ?_)) (by repeat (first | exact w_nil | refine w_cons (Or.inl (y_m rfl)) ?_ | refine w_cons (Or.inr (by assumption)) ?_))
    exact y_enough_loop d0 d30 l0 lt n0 n30 (by show (x - ln).toInt ≤ 30; omega) (by show -30 ≤ (x - ln).toInt; omega) om 40 H _ e2.1 ((y_fe e2 rfl).trans gd) (by decide) (by decide) (by rw [show (Int32.ofInt 0).toInt = 0 by decide]; omega) (fun r H' f => hk r H' (y_sq e2 f rfl rfl))
  have T46 : ∀ {G : aH} {lo ln x : Int32}, y_fr h G [19584, 19587, 19588] [] → 0 ≤ lo.toInt → lo.toInt ≤ 30 → 0 ≤ ln.toInt → ln.toInt ≤ 30 → 0 ≤ x.toInt → x.toInt ≤ dy.toInt → aOK s_P X (d + 3) a_m278 46 [some (.ref 155), some (.int a), some (.int lo), some (.int ln), none, none, none] [.int x] G C S K0 := by
    intro G lo ln x e l0 l30 n0 n30 x0 x30
    have s1 : (x - lo).toInt = x.toInt - lo.toInt := y_s32 (by omega) (by omega)
    refine w_go z_hl [] [275] 30 e.1 ?_
    intro H hH
    have e2 := y_st e hH (by repeat (first | exact w_nil | refine w_cons (Or.inl (y_m rfl)) ?_ | refine w_cons (Or.inr (by assumption)) ?_)) (by repeat (first | exact w_nil | refine w_cons (Or.inl (y_m rfl)) ?_ | refine w_cons (Or.inr (by assumption)) ?_))
    refine aOK_deep (d := d + 1) (by omega) (y_deaths e2.1 ((y_fe e2 rfl).trans gd) d0 d30 (fun r H2 f2 r0 r1 => ⟨fun n e => (by cases e), ?_⟩))
    exact T56 (ot := x - lo) (y_sq e2 f2 rfl rfl) l0 (by omega) (by omega) n0 n30 r0 (by omega)
  have T39 : ∀ {G : aH} {lo ln : Int32}, y_fr h G [19584, 19587, 19588] [] → 0 ≤ lo.toInt → lo.toInt ≤ 30 → 0 ≤ ln.toInt → ln.toInt ≤ 30 → aOK s_P X (d + 3) a_m278 39 [some (.ref 155), some (.int a), some (.int lo), none, none, none, none] [.int ln] G C S K0 := by
    intro G lo ln e l0 l30 n0 n30
    refine w_go z_hl [] [275] 30 e.1 ?_
    intro H hH
    have e2 := y_st e hH (by repeat (first | exact w_nil | refine w_cons (Or.inl (y_m rfl)) ?_ | refine w_cons (Or.inr (by assumption)) ?_)) (by repeat (first | exact w_nil | refine w_cons (Or.inl (y_m rfl)) ?_ | refine w_cons (Or.inr (by assumption)) ?_))
    refine aOK_deep (d := d + 1) (by omega) (y_deaths e2.1 ((y_fe e2 rfl).trans gd) d0 d30 (fun r H2 f2 r0 r1 => ⟨fun n e => (by cases e), ?_⟩))
    exact T46 (y_sq e2 f2 rfl rfl) l0 l30 n0 n30 r0 r1
  have T32 : ∀ {G : aH} {lo : Int32}, y_fr h G [19584, 19587, 19588] [] → 0 ≤ lo.toInt → lo.toInt ≤ 30 → aOK s_P X (d + 3) a_m278 32 [some (.ref 155), some (.int a), none, none, none, none, none] [.int lo] G C S K0 := by
    intro G lo e l0 l30
    refine w_go z_hl [] [275] 30 e.1 ?_
    intro H hH
    have e2 := y_st e hH (by repeat (first | exact w_nil | refine w_cons (Or.inl (y_m rfl)) ?_ | refine w_cons (Or.inr (by assumption)) ?_)) (by repeat (first | exact w_nil | refine w_cons (Or.inl (y_m rfl)) ?_ | refine w_cons (Or.inr (by assumption)) ?_))
    refine aOK_deep (d := d + 1) (by omega) (y_deaths e2.1 ((y_fe e2 rfl).trans gd) d0 d30 (fun r H2 f2 r0 r1 => ⟨fun n e => (by cases e), ?_⟩))
    exact T39 (y_sq e2 f2 rfl rfl) l0 l30 r0 (by omega)
  have T21 : ∀ {G : aH} {b : Bool}, y_fr h G [19584, 19587, 19588] [] → aOK s_P X (d + 3) a_m278 21 [some (.ref 155), some (.int a), none, none, none, none, none] [.int (y_01 b)] G C S K0 := by
    intro G b e
    refine w_go z_hl [] [275] 30 e.1 ?_
    refine ⟨fun _ => fun H hH => ?_, fun _ => fun H hH => hk _ H (y_st e hH (by repeat (first | exact w_nil | refine w_cons (Or.inl (y_m rfl)) ?_ | refine w_cons (Or.inr (by assumption)) ?_)) (by repeat (first | exact w_nil | refine w_cons (Or.inl (y_m rfl)) ?_ | refine w_cons (Or.inr (by assumption)) ?_)))⟩
    have e2 := y_st e hH (by repeat (first | exact w_nil | refine w_cons (Or.inl (y_m rfl)) ?_ | refine w_cons (Or.inr (by assumption)) ?_)) (by repeat (first | exact w_nil | refine w_cons (Or.inl (y_m rfl)) ?_ | refine w_cons (Or.inr (by assumption)) ?_))
    refine aOK_deep (d := d + 1) (by omega) (y_deaths e2.1 ((y_fe e2 rfl).trans gd) d0 d30 (fun r H2 f2 r0 r1 => ⟨fun n e => (by cases e), ?_⟩))
    exact T32 (y_sq e2 f2 rfl rfl) r0 (by omega)
  have e0 : y_fr h h [19584, 19587, 19588] [] := y_mo (y_rf hr) rfl rfl
  refine w_go z_hl [] [176] 30 hr ?_
  refine ⟨rfl, y_zini (by decide) (by decide), ?_⟩
  intro x hx _ _
  refine ⟨fun _ => fun H hH => hk _ H (y_st e0 hH (by repeat (first | exact w_nil | refine w_cons (Or.inl (y_m rfl)) ?_ | refine w_cons (Or.inr (by assumption)) ?_)) (by repeat (first | exact w_nil | refine w_cons (Or.inl (y_m rfl)) ?_ | refine w_cons (Or.inr (by assumption)) ?_))), fun _ => fun H hH => ?_⟩
  have e := y_st e0 hH (by repeat (first | exact w_nil | refine w_cons (Or.inl (y_m rfl)) ?_ | refine w_cons (Or.inr (by assumption)) ?_)) (by repeat (first | exact w_nil | refine w_cons (Or.inl (y_m rfl)) ?_ | refine w_cons (Or.inr (by assumption)) ?_))
  refine q_in e.1 (fun H3 h3 _ _ => ⟨fun n e => (by cases e), ?_⟩) (fun H3 h3 _ => ⟨fun n e => (by cases e), ?_⟩)
  · exact T21 (y_sq e h3 rfl rfl)
  · exact T21 (y_sq e h3 rfl rfl)
theorem y_rare_loop {mk wh ln : Int32} {mm : Nat} (hmk : mk.toInt = mm) (m6 : mm < 6) (l0 : 0 ≤ ln.toInt) (l8 : ln.toInt ≤ 8) : ∀ (m : Nat) (h : aH) (best kI : Int32) (k : Nat) (o5 o7 o9 : Option Value), w_hr z_D h → w_f h 19640 = some (.int ln) → kI.toInt = k → (k : Int) + m = ln.toInt → best.toInt < ln.toInt → (∀ (r : Int32) (H : aH), y_fr h H [] [] → K0 (some (.int r)) H C S) → aOK s_P X d a_m272 35 [some (.ref 155), some (.int mk), some (.int wh), some (.int best), some (.int kI), o5, none, o7, none, o9, none] [] h C S K0 := by
  intro m
  induction m with
  | zero =>
    intro h best kI k o5 o7 o9 hr g hk hm hb hK
    refine w_go z_hl [35] [] 30 hr ?_
    intro x hx _ _
    obtain rfl := y_fi g hx
    refine ⟨fun _ => fun H hH => hK _ H (y_st (y_rf hr) hH (by repeat (first | exact w_nil | refine w_cons (Or.inl (y_m rfl)) ?_ | refine w_cons (Or.inr (by assumption)) ?_)) (by repeat (first | exact w_nil | refine w_cons (Or.inl (y_m rfl)) ?_ | refine w_cons (Or.inr (by assumption)) ?_))), fun q => ?_⟩
    have : ¬ (ln.toInt ≤ kI.toInt) := y_cif q
    omega
  | succ m ih =>
    intro h best kI k o5 o7 o9 hr g hk hm hb hK
    have ink : (kI + Int32.ofInt 1).toInt = ((k + 1 : Nat) : Int) := by rw [y_inc (by omega), hk]; rfl
    have i6 := y_i6 hk hmk (by omega) (by omega)
    have b6 : 0 ≤ ((Int8.ofInt 6).toInt32 * kI + mk).toInt ∧ ((Int8.ofInt 6).toInt32 * kI + mk).toInt < ((48 : Nat) : Int) := by omega
    have next : ∀ {G : aH} {best' : Int32} {o5 o7 o9 : Option Value}, y_fr h G [] [] → best'.toInt < ln.toInt → aOK s_P X d a_m272 154 [some (.ref 155), some (.int mk), some (.int wh), some (.int best'), some (.int kI), o5, none, o7, none, o9, none] [] G C S K0 := by
      intro G best' o5 o7 o9 e hb'
      refine w_go z_hl [35] [] 30 e.1 ?_
      intro H hH
      have e2 := y_st e hH (by repeat (first | exact w_nil | refine w_cons (Or.inl (y_m rfl)) ?_ | refine w_cons (Or.inr (by assumption)) ?_)) (by repeat (first | exact w_nil | refine w_cons (Or.inl (y_m rfl)) ?_ | refine w_cons (Or.inr (by assumption)) ?_))
      exact ih H _ _ (k + 1) _ _ _ e2.1 ((y_fe e2 rfl).trans g) ink (by omega) hb' (fun r H' f => hK r H' (y_sq e2 f rfl rfl))
    have T120 : ∀ {G : aH} {x5 x7 x9 : Int64}, y_fr h G [] [] → aOK s_P X d a_m272 120 [some (.ref 155), some (.int mk), some (.int wh), some (.int best), some (.int kI), some (.long x5), none, some (.long x7), none, some (.long x9), none] [] G C S K0 := by
      intro G x5 x7 x9 e
      refine w_go z_hl [154] [] 40 e.1 ?_
      exact ⟨fun _ => fun H hH => next (y_st e hH (by repeat (first | exact w_nil | refine w_cons (Or.inl (y_m rfl)) ?_ | refine w_cons (Or.inr (by assumption)) ?_)) (by repeat (first | exact w_nil | refine w_cons (Or.inl (y_m rfl)) ?_ | refine w_cons (Or.inr (by assumption)) ?_))) (by omega), fun _ => ⟨fun _ => ⟨fun _ => fun H hH => next (y_st e hH (by repeat (first | exact w_nil | refine w_cons (Or.inl (y_m rfl)) ?_ | refine w_cons (Or.inr (by assumption)) ?_)) (by repeat (first | exact w_nil | refine w_cons (Or.inl (y_m rfl)) ?_ | refine w_cons (Or.inr (by assumption)) ?_))) hb, fun _ => fun H hH => next (y_st e hH (by repeat (first | exact w_nil | refine w_cons (Or.inl (y_m rfl)) ?_ | refine w_cons (Or.inr (by assumption)) ?_)) (by repeat (first | exact w_nil | refine w_cons (Or.inl (y_m rfl)) ?_ | refine w_cons (Or.inr (by assumption)) ?_))) (by omega)⟩, fun _ => ⟨fun _ => fun H hH => next (y_st e hH (by repeat (first | exact w_nil | refine w_cons (Or.inl (y_m rfl)) ?_ | refine w_cons (Or.inr (by assumption)) ?_)) (by repeat (first | exact w_nil | refine w_cons (Or.inl (y_m rfl)) ?_ | refine w_cons (Or.inr (by assumption)) ?_))) hb, fun _ => fun H hH => next (y_st e hH (by repeat (first | exact w_nil | refine w_cons (Or.inl (y_m rfl)) ?_ | refine w_cons (Or.inr (by assumption)) ?_)) (by repeat (first | exact w_nil | refine w_cons (Or.inl (y_m rfl)) ?_ | refine w_cons (Or.inr (by assumption)) ?_))) (by omega)⟩⟩⟩
    have T98 : ∀ {G : aH} {x5 x7 : Int64}, y_fr h G [] [] → aOK s_P X d a_m272 98 [some (.ref 155), some (.int mk), some (.int wh), some (.int best), some (.int kI), some (.long x5), none, o7, none, o9, none] [.long x7] G C S K0 := by
      intro G x5 x7 e
      refine w_go z_hl [120] [] 40 e.1 ?_
      refine ⟨fun q => ?_, fun _ => fun H hH => T120 (y_st e hH (by repeat (first | exact w_nil | refine w_cons (Or.inl (y_m rfl)) ?_ | refine w_cons (Or.inr (by assumption)) ?_)) (by repeat (first | exact w_nil | refine w_cons (Or.inl (y_m rfl)) ?_ | refine w_cons (Or.inr (by assumption)) ?_)))⟩
      have q2 : (0 : Int32).toInt ≤ best.toInt := (y_ci .ge _ _).mp q
      rw [show (0 : Int32).toInt = 0 by decide] at q2
      exact ⟨⟨by omega, by omega⟩, fun l hl len bb => fun H hH => T120 (y_st e hH (by repeat (first | exact w_nil | refine w_cons (Or.inl (y_m rfl)) ?_ | refine w_cons (Or.inr (by assumption)) ?_)) (by repeat (first | exact w_nil | refine w_cons (Or.inl (y_m rfl)) ?_ | refine w_cons (Or.inr (by assumption)) ?_)))⟩
    have T69 : ∀ {G : aH} {x5 : Int64}, y_fr h G [] [] → aOK s_P X d a_m272 69 [some (.ref 155), some (.int mk), some (.int wh), some (.int best), some (.int kI), some (.long x5), none, o7, none, o9, none] [] G C S K0 := by
      intro G x5 e
      refine w_go z_hl [98] [] 40 e.1 ?_
      refine ⟨fun q => ?_, fun _ => fun H hH => T98 (y_st e hH (by repeat (first | exact w_nil | refine w_cons (Or.inl (y_m rfl)) ?_ | refine w_cons (Or.inr (by assumption)) ?_)) (by repeat (first | exact w_nil | refine w_cons (Or.inl (y_m rfl)) ?_ | refine w_cons (Or.inr (by assumption)) ?_)))⟩
      have q2 : (0 : Int32).toInt ≤ best.toInt := (y_ci .ge _ _).mp q
      rw [show (0 : Int32).toInt = 0 by decide] at q2
      obtain ⟨bn, hbn⟩ : ∃ bn : Nat, best.toInt = bn := ⟨best.toInt.toNat, by omega⟩
      have j6 := y_i6 hbn hmk (by omega) (by omega)
      have c6 : 0 ≤ ((Int8.ofInt 6).toInt32 * best + mk).toInt ∧ ((Int8.ofInt 6).toInt32 * best + mk).toInt < ((48 : Nat) : Int) := by omega
      exact ⟨c6, fun l hl len bb => ⟨⟨by omega, by omega⟩, fun l2 hl2 len2 bb2 => fun H hH => T98 (y_st e hH (by repeat (first | exact w_nil | refine w_cons (Or.inl (y_m rfl)) ?_ | refine w_cons (Or.inr (by assumption)) ?_)) (by repeat (first | exact w_nil | refine w_cons (Or.inl (y_m rfl)) ?_ | refine w_cons (Or.inr (by assumption)) ?_)))⟩⟩
    have f0 : y_fr h h [] [] := y_rf hr
    refine w_go z_hl [35, 69, 154] [] 40 hr ?_
    intro x hx _ _
    obtain rfl := y_fi g hx
    refine ⟨fun q => ?_, fun _ => ⟨b6, fun l hl len bb => ⟨fun _ => fun H hH => T69 (y_st f0 hH (by repeat (first | exact w_nil | refine w_cons (Or.inl (y_m rfl)) ?_ | refine w_cons (Or.inr (by assumption)) ?_)) (by repeat (first | exact w_nil | refine w_cons (Or.inl (y_m rfl)) ?_ | refine w_cons (Or.inr (by assumption)) ?_))), fun _ => fun H hH => next (y_st f0 hH (by repeat (first | exact w_nil | refine w_cons (Or.inl (y_m rfl)) ?_ | refine w_cons (Or.inr (by assumption)) ?_)) (by repeat (first | exact w_nil | refine w_cons (Or.inl (y_m rfl)) ?_ | refine w_cons (Or.inr (by assumption)) ?_))) hb⟩⟩⟩
    have : ln.toInt ≤ kI.toInt := (y_ci .ge _ _).mp q
    omega
theorem p_rare (hr : w_hr z_D h) (hJ : y_J h) {mk wh : Int32} (hk : ∀ (r : Int32) (H : aH), y_fr h H [19584] [] → K0 (some (.int r)) H C S) : aOK s_P X (d + 1) a_m272 0 [some (.ref 155), some (.int mk), some (.int wh), none, none, none, none, none, none, none, none] [] h C S K0 := by
  obtain ⟨ln, pe, l1, l2, l3⟩ := id hJ.2.2.2.2.2.2
  obtain ⟨b1, b2⟩ := y_lnb hr l1
  have T24 : ∀ {G : aH} {b : Bool} {v : Nat}, y_fr h G [19584] [] → mk.toInt = v → v < 6 → aOK s_P X (d + 1) a_m272 24 [some (.ref 155), some (.int mk), some (.int wh), none, none, none, none, none, none, none, none] [.int (y_01 b)] G C S K0 := by
    intro G b v e hv v6
    refine w_go z_hl [35] [] 30 e.1 ?_
    refine ⟨fun _ => fun H hH => ?_, fun _ => fun H hH => hk _ H (y_st e hH (by repeat (first | exact w_nil | refine w_cons (Or.inl (y_m rfl)) ?_ | refine w_cons (Or.inr (by assumption)) ?_)) (by repeat (first | exact w_nil | refine w_cons (Or.inl (y_m rfl)) ?_ | refine w_cons (Or.inr (by assumption)) ?_)))⟩
    have e2 := y_st e hH (by repeat (first | exact w_nil | refine w_cons (Or.inl (y_m rfl)) ?_ | refine w_cons (Or.inr (by assumption)) ?_)) (by repeat (first | exact w_nil | refine w_cons (Or.inl (y_m rfl)) ?_ | refine w_cons (Or.inr (by assumption)) ?_))
    exact y_rare_loop hv v6 b1 b2 ln.toInt.toNat H _ _ 0 _ _ _ e2.1 ((y_fe e2 rfl).trans l1) rfl (by omega) (by show ((Int8.ofInt (-2)).toInt32).toInt < _; rw [show ((Int8.ofInt (-2)).toInt32).toInt = -2 by decide]; omega) (fun r H' f => hk r H' (y_sq e2 f rfl rfl))
  have T14 : ∀ {G : aH} {v : Nat}, y_fr h G [19584] [] → mk.toInt = v → v < 6 → aOK s_P X (d + 1) a_m272 14 [some (.ref 155), some (.int mk), some (.int wh), none, none, none, none, none, none, none, none] [.int (y_01 true)] G C S K0 := by
    intro G v e hv v6
    refine w_go z_hl [] [176] 30 e.1 ?_
    refine ⟨fun q => absurd q (by decide), fun _ => fun H hH => ?_⟩
    have e2 := y_st e hH (by repeat (first | exact w_nil | refine w_cons (Or.inl (y_m rfl)) ?_ | refine w_cons (Or.inr (by assumption)) ?_)) (by repeat (first | exact w_nil | refine w_cons (Or.inl (y_m rfl)) ?_ | refine w_cons (Or.inr (by assumption)) ?_))
    refine q_in e2.1 (fun H3 h3 _ _ => ⟨fun n e => (by cases e), ?_⟩) (fun H3 h3 _ => ⟨fun n e => (by cases e), ?_⟩)
    · exact T24 (y_sq e2 h3 rfl rfl) hv v6
    · exact T24 (y_sq e2 h3 rfl rfl) hv v6
  have T14n : ∀ {G : aH}, y_fr h G [19584] [] → aOK s_P X (d + 1) a_m272 14 [some (.ref 155), some (.int mk), some (.int wh), none, none, none, none, none, none, none, none] [.int (y_01 false)] G C S K0 := by
    intro G e
    refine w_go z_hl [] [] 30 e.1 ?_
    exact ⟨fun _ => fun H hH => hk _ H (y_st e hH (by repeat (first | exact w_nil | refine w_cons (Or.inl (y_m rfl)) ?_ | refine w_cons (Or.inr (by assumption)) ?_)) (by repeat (first | exact w_nil | refine w_cons (Or.inl (y_m rfl)) ?_ | refine w_cons (Or.inr (by assumption)) ?_))), fun q => absurd q (by decide)⟩
  refine w_go z_hl [] [176] 30 hr ?_
  refine ⟨rfl, y_zini (by decide) (by decide), fun H hH => ?_⟩
  have e : y_fr h H [19584] [] := y_st (y_mo (y_rf hr) rfl rfl) hH (by repeat (first | exact w_nil | refine w_cons (Or.inl (y_m rfl)) ?_ | refine w_cons (Or.inr (by assumption)) ?_)) (by repeat (first | exact w_nil | refine w_cons (Or.inl (y_m rfl)) ?_ | refine w_cons (Or.inr (by assumption)) ?_))
  refine q_in (v := mk.toInt64) (lo := Int64.ofNat 0) (hi := Int64.ofInt 5) e.1 (fun H3 h3 a1 a2 => ⟨fun n e => (by cases e), ?_⟩) (fun H3 h3 _ => ⟨fun n e => (by cases e), ?_⟩)
  · rw [y_i2l] at a1 a2
    rw [y_i64 (by decide) (by decide)] at a2
    have a1 : 0 ≤ mk.toInt := a1
    exact T14 (v := mk.toInt.toNat) (y_sq e h3 rfl rfl) (by omega) (by omega)
  · exact T14n (y_sq e h3 rfl rfl)
theorem y_forced_loop {nd : Int32} (n0 : 0 ≤ nd.toInt) (n10 : nd.toInt ≤ 10) : ∀ (m : Nat) (h : aH) (b kI : Int32) (k : Nat), w_hr z_D h → w_f h 19591 = some (.int nd) → kI.toInt = k → (k : Int) + m = nd.toInt → (∀ (r : Int32) (H : aH), y_fr h H [] [] → K0 (some (.int r)) H C S) → aOK s_P X d a_m282 4 [some (.ref 155), some (.int b), some (.int kI)] [] h C S K0 := by
  intro m
  induction m with
  | zero =>
    intro h b kI k hr g hk hm hK
    refine w_go z_hl [4] [] 30 hr ?_
    intro x hx _ _
    obtain rfl := y_fi g hx
    refine ⟨fun _ => fun H hH => hK _ H (y_st (y_rf hr) hH (by repeat (first | exact w_nil | refine w_cons (Or.inl (y_m rfl)) ?_ | refine w_cons (Or.inr (by assumption)) ?_)) (by repeat (first | exact w_nil | refine w_cons (Or.inl (y_m rfl)) ?_ | refine w_cons (Or.inr (by assumption)) ?_))), fun q => ?_⟩
    have : ¬ (nd.toInt ≤ kI.toInt) := y_cif q
    omega
  | succ m ih =>
    intro h b kI k hr g hk hm hK
    have ink : (kI + Int32.ofInt 1).toInt = ((k + 1 : Nat) : Int) := by rw [y_inc (by omega), hk]; rfl
    have next : ∀ {G : aH} {b' : Int32}, y_fr h G [] [] → aOK s_P X d a_m282 4 [some (.ref 155), some (.int b'), some (.int (kI + Int32.ofInt 1))] [] G C S K0 := fun e => ih _ _ _ (k + 1) e.1 ((y_fe e rfl).trans g) ink (by omega) (fun r H' f => hK r H' (y_sq e f rfl rfl))
    have f0 : y_fr h h [] [] := y_rf hr
    refine w_go z_hl [4] [] 30 hr ?_
    intro x hx _ _
    obtain rfl := y_fi g hx
    refine ⟨fun q => ?_, fun _ => ⟨⟨by omega, by omega⟩, fun l hl len bb => ⟨fun _ => fun H hH => next (y_st f0 hH (by repeat (first | exact w_nil | refine w_cons (Or.inl (y_m rfl)) ?_ | refine w_cons (Or.inr (by assumption)) ?_)) (by repeat (first | exact w_nil | refine w_cons (Or.inl (y_m rfl)) ?_ | refine w_cons (Or.inr (by assumption)) ?_))), fun _ => fun H hH => next (y_st f0 hH (by repeat (first | exact w_nil | refine w_cons (Or.inl (y_m rfl)) ?_ | refine w_cons (Or.inr (by assumption)) ?_)) (by repeat (first | exact w_nil | refine w_cons (Or.inl (y_m rfl)) ?_ | refine w_cons (Or.inr (by assumption)) ?_)))⟩⟩⟩
    have : nd.toInt ≤ kI.toInt := (y_ci .ge _ _).mp q
    omega
theorem y_place_loop {sm v : Int32} (m0 : 0 ≤ sm.toInt) (m10 : sm.toInt ≤ 10) : ∀ (m : Nat) (h : aH) (b kI : Int32) (k : Nat), w_hr z_D h → w_f h 19598 = some (.int sm) → kI.toInt = k → (k : Int) + m = sm.toInt → (∀ (r : Int32) (H : aH), y_fr h H [] [] → K0 (some (.int r)) H C S) → aOK s_P X d a_m285 4 [some (.ref 155), some (.int v), some (.int b), some (.int kI)] [] h C S K0 := by
  intro m
  induction m with
  | zero =>
    intro h b kI k hr g hk hm hK
    refine w_go z_hl [4] [] 30 hr ?_
    intro x hx _ _
    obtain rfl := y_fi g hx
    refine ⟨fun _ => fun H hH => hK _ H (y_st (y_rf hr) hH (by repeat (first | exact w_nil | refine w_cons (Or.inl (y_m rfl)) ?_ | refine w_cons (Or.inr (by assumption)) ?_)) (by repeat (first | exact w_nil | refine w_cons (Or.inl (y_m rfl)) ?_ | refine w_cons (Or.inr (by assumption)) ?_))), fun q => ?_⟩
    have : ¬ (sm.toInt ≤ kI.toInt) := y_cif q
    omega
  | succ m ih =>
    intro h b kI k hr g hk hm hK
    have ink : (kI + Int32.ofInt 1).toInt = ((k + 1 : Nat) : Int) := by rw [y_inc (by omega), hk]; rfl
    have next : ∀ {G : aH} {b' : Int32}, y_fr h G [] [] → aOK s_P X d a_m285 4 [some (.ref 155), some (.int v), some (.int b'), some (.int (kI + Int32.ofInt 1))] [] G C S K0 := fun e => ih _ _ _ (k + 1) e.1 ((y_fe e rfl).trans g) ink (by omega) (fun r H' f => hK r H' (y_sq e f rfl rfl))
    have f0 : y_fr h h [] [] := y_rf hr
    refine w_go z_hl [4] [] 30 hr ?_
    intro x hx _ _
    obtain rfl := y_fi g hx
    refine ⟨fun q => ?_, fun _ => ⟨⟨by omega, by omega⟩, fun l hl len bb => ⟨fun _ => fun H hH => next (y_st f0 hH (by repeat (first | exact w_nil | refine w_cons (Or.inl (y_m rfl)) ?_ | refine w_cons (Or.inr (by assumption)) ?_)) (by repeat (first | exact w_nil | refine w_cons (Or.inl (y_m rfl)) ?_ | refine w_cons (Or.inr (by assumption)) ?_))), fun _ => fun H hH => next (y_st f0 hH (by repeat (first | exact w_nil | refine w_cons (Or.inl (y_m rfl)) ?_ | refine w_cons (Or.inr (by assumption)) ?_)) (by repeat (first | exact w_nil | refine w_cons (Or.inl (y_m rfl)) ?_ | refine w_cons (Or.inr (by assumption)) ?_)))⟩⟩⟩
    have : sm.toInt ≤ kI.toInt := (y_ci .ge _ _).mp q
    omega
theorem p_count (hr : w_hr z_D h) (hJ : y_J h) {a : Int32} (hk : ∀ (r : Int32) (H : aH), y_fr h H [19584] [] → K0 (some (.int r)) H C S) : aOK s_P X (d + 1) a_m281 0 [some (.ref 155), some (.int a)] [] h C S K0 := by
  obtain ⟨nd, sm, so, sa, s1, s2, s3, s4, s5⟩ := id hJ.2.2.2.2.1
  obtain ⟨b1, b2⟩ := y_ndb hr s1
  have T64 : ∀ {G : aH}, y_fr h G [19584] [] → aOK s_P X (d + 1) a_m281 64 [some (.ref 155), some (.int a)] [] G C S K0 := by
    intro G e
    refine w_go z_hl [] [] 30 e.1 ?_
    intro x hx _ _
    exact fun H hH => hk _ H (y_st e hH (by repeat (first | exact w_nil | refine w_cons (Or.inl (y_m rfl)) ?_ | refine w_cons (Or.inr (by assumption)) ?_)) (by repeat (first | exact w_nil | refine w_cons (Or.inl (y_m rfl)) ?_ | refine w_cons (Or.inr (by assumption)) ?_)))
  have T69 : ∀ {G : aH}, y_fr h G [19584] [] → aOK s_P X (d + 1) a_m281 69 [some (.ref 155), some (.int a)] [] G C S K0 := by
    intro G e
    refine w_go z_hl [] [] 30 e.1 ?_
    intro x hx _ _
    exact fun H hH => hk _ H (y_st e hH (by repeat (first | exact w_nil | refine w_cons (Or.inl (y_m rfl)) ?_ | refine w_cons (Or.inr (by assumption)) ?_)) (by repeat (first | exact w_nil | refine w_cons (Or.inl (y_m rfl)) ?_ | refine w_cons (Or.inr (by assumption)) ?_)))
  have T74 : ∀ {G : aH}, y_fr h G [19584] [] → aOK s_P X (d + 1) a_m281 74 [some (.ref 155), some (.int a)] [] G C S K0 := by
    intro G e
    refine w_go z_hl [] [] 30 e.1 ?_
    intro x hx _ _
    exact fun H hH => hk _ H (y_st e hH (by repeat (first | exact w_nil | refine w_cons (Or.inl (y_m rfl)) ?_ | refine w_cons (Or.inr (by assumption)) ?_)) (by repeat (first | exact w_nil | refine w_cons (Or.inl (y_m rfl)) ?_ | refine w_cons (Or.inr (by assumption)) ?_)))
  have T79 : ∀ {G : aH}, y_fr h G [19584] [] → aOK s_P X (d + 1) a_m281 79 [some (.ref 155), some (.int a)] [] G C S K0 := by
    intro G e
    refine w_go z_hl [] [] 30 e.1 ?_
    intro x hx _ _
    exact fun H hH => hk _ H (y_st e hH (by repeat (first | exact w_nil | refine w_cons (Or.inl (y_m rfl)) ?_ | refine w_cons (Or.inr (by assumption)) ?_)) (by repeat (first | exact w_nil | refine w_cons (Or.inl (y_m rfl)) ?_ | refine w_cons (Or.inr (by assumption)) ?_)))
  have T84 : ∀ {G : aH}, y_fr h G [19584] [] → aOK s_P X (d + 1) a_m281 84 [some (.ref 155), some (.int a)] [] G C S K0 := by
    intro G e
    refine w_go z_hl [] [] 30 e.1 ?_
    intro x hx _ _
    exact fun H hH => hk _ H (y_st e hH (by repeat (first | exact w_nil | refine w_cons (Or.inl (y_m rfl)) ?_ | refine w_cons (Or.inr (by assumption)) ?_)) (by repeat (first | exact w_nil | refine w_cons (Or.inl (y_m rfl)) ?_ | refine w_cons (Or.inr (by assumption)) ?_)))
  have T89 : ∀ {G : aH}, y_fr h G [19584] [] → aOK s_P X (d + 1) a_m281 89 [some (.ref 155), some (.int a)] [] G C S K0 := by
    intro G e
    refine w_go z_hl [] [] 30 e.1 ?_
    intro x hx _ _
    exact fun H hH => hk _ H (y_st e hH (by repeat (first | exact w_nil | refine w_cons (Or.inl (y_m rfl)) ?_ | refine w_cons (Or.inr (by assumption)) ?_)) (by repeat (first | exact w_nil | refine w_cons (Or.inl (y_m rfl)) ?_ | refine w_cons (Or.inr (by assumption)) ?_)))
  have T94 : ∀ {G : aH}, y_fr h G [19584] [] → aOK s_P X (d + 1) a_m281 94 [some (.ref 155), some (.int a)] [] G C S K0 := by
    intro G e
    refine w_go z_hl [] [] 30 e.1 ?_
    intro x hx _ _
    exact fun H hH => hk _ H (y_st e hH (by repeat (first | exact w_nil | refine w_cons (Or.inl (y_m rfl)) ?_ | refine w_cons (Or.inr (by assumption)) ?_)) (by repeat (first | exact w_nil | refine w_cons (Or.inl (y_m rfl)) ?_ | refine w_cons (Or.inr (by assumption)) ?_)))
  have T99 : ∀ {G : aH}, y_fr h G [19584] [] → aOK s_P X (d + 1) a_m281 99 [some (.ref 155), some (.int a)] [] G C S K0 := by
    intro G e
    refine w_go z_hl [] [] 30 e.1 ?_
    intro x hx _ _
    exact fun H hH => hk _ H (y_st e hH (by repeat (first | exact w_nil | refine w_cons (Or.inl (y_m rfl)) ?_ | refine w_cons (Or.inr (by assumption)) ?_)) (by repeat (first | exact w_nil | refine w_cons (Or.inl (y_m rfl)) ?_ | refine w_cons (Or.inr (by assumption)) ?_)))
  have T104 : ∀ {G : aH}, y_fr h G [19584] [] → aOK s_P X (d + 1) a_m281 104 [some (.ref 155), some (.int a)] [] G C S K0 := by
    intro G e
    refine w_go z_hl [] [] 30 e.1 ?_
    intro x hx _ _
    exact fun H hH => hk _ H (y_st e hH (by repeat (first | exact w_nil | refine w_cons (Or.inl (y_m rfl)) ?_ | refine w_cons (Or.inr (by assumption)) ?_)) (by repeat (first | exact w_nil | refine w_cons (Or.inl (y_m rfl)) ?_ | refine w_cons (Or.inr (by assumption)) ?_)))
  have T109 : ∀ {G : aH}, y_fr h G [19584] [] → aOK s_P X (d + 1) a_m281 109 [some (.ref 155), some (.int a)] [] G C S K0 := by
    intro G e
    refine w_go z_hl [] [] 30 e.1 ?_
    intro x hx _ _
    exact fun H hH => hk _ H (y_st e hH (by repeat (first | exact w_nil | refine w_cons (Or.inl (y_m rfl)) ?_ | refine w_cons (Or.inr (by assumption)) ?_)) (by repeat (first | exact w_nil | refine w_cons (Or.inl (y_m rfl)) ?_ | refine w_cons (Or.inr (by assumption)) ?_)))
  have T119 : ∀ {G : aH} {x : Int32}, y_fr h G [19584] [] → aOK s_P X (d + 1) a_m281 119 [some (.ref 155), some (.int a)] [.int x] G C S K0 := by
    intro G x e
    refine w_go z_hl [] [] 30 e.1 ?_
    exact fun H hH => hk _ H (y_st e hH (by repeat (first | exact w_nil | refine w_cons (Or.inl (y_m rfl)) ?_ | refine w_cons (Or.inr (by assumption)) ?_)) (by repeat (first | exact w_nil | refine w_cons (Or.inl (y_m rfl)) ?_ | refine w_cons (Or.inr (by assumption)) ?_)))
  have T115 : ∀ {G : aH}, y_fr h G [19584] [] → aOK s_P X (d + 1) a_m281 115 [some (.ref 155), some (.int a)] [] G C S K0 := by
    intro G e
    refine w_go z_hl [] [282] 30 e.1 ?_
    intro H hH
    have e2 := y_st e hH (by repeat (first | exact w_nil | refine w_cons (Or.inl (y_m rfl)) ?_ | refine w_cons (Or.inr (by assumption)) ?_)) (by repeat (first | exact w_nil | refine w_cons (Or.inl (y_m rfl)) ?_ | refine w_cons (Or.inr (by assumption)) ?_))
    have go : ∀ {K1 : Option Value → aH → Nat → Nat → Prop}, (∀ (r : Int32) (H' : aH), y_fr H H' [] [] → K1 (some (.int r)) H' C S) → aOK s_P X d a_m282 0 [some (.ref 155), none, none] [] H C S K1 := by
      intro K1 hK1
      refine w_go z_hl [4] [] 30 e2.1 ?_
      intro H3 h3
      have f : y_fr H H3 [] [] := y_st (y_rf e2.1) h3 (by repeat (first | exact w_nil | refine w_cons (Or.inl (y_m rfl)) ?_ | refine w_cons (Or.inr (by assumption)) ?_)) (by repeat (first | exact w_nil | refine w_cons (Or.inl (y_m rfl)) ?_ | refine w_cons (Or.inr (by assumption)) ?_))
      have f2 := y_sq e2 f rfl rfl
      exact y_forced_loop b1 b2 nd.toInt.toNat H3 _ _ 0 f.1 ((y_fe f2 rfl).trans s1) rfl (by omega) (fun r H' f' => hK1 r H' (y_sq f f' rfl rfl))
    refine go (fun r H' f' => ⟨fun n e => (by cases e), ?_⟩)
    exact T119 (y_sq e2 f' rfl rfl)
  have T120 : ∀ {G : aH}, y_fr h G [19584] [] → aOK s_P X (d + 1) a_m281 120 [some (.ref 155), some (.int a)] [] G C S K0 := by
    intro G e
    refine w_go z_hl [] [] 30 e.1 ?_
    exact fun H hH => hk _ H (y_st e hH (by repeat (first | exact w_nil | refine w_cons (Or.inl (y_m rfl)) ?_ | refine w_cons (Or.inr (by assumption)) ?_)) (by repeat (first | exact w_nil | refine w_cons (Or.inl (y_m rfl)) ?_ | refine w_cons (Or.inr (by assumption)) ?_)))
  refine w_go z_hl [6] [] 30 hr ?_
  refine ⟨rfl, y_zini (by decide) (by decide), fun H hH => ?_⟩
  have e : y_fr h H [19584] [] := y_st (y_mo (y_rf hr) rfl rfl) hH (by repeat (first | exact w_nil | refine w_cons (Or.inl (y_m rfl)) ?_ | refine w_cons (Or.inr (by assumption)) ?_)) (by repeat (first | exact w_nil | refine w_cons (Or.inl (y_m rfl)) ?_ | refine w_cons (Or.inr (by assumption)) ?_))
  by_cases q : a.toInt < 0 ∨ 10 < a.toInt
  · exact y_tsw_d (t := 120) rfl q (by decide) (T120 e)
  · have hq : a.toInt = 0 ∨ a.toInt = 1 ∨ a.toInt = 2 ∨ a.toInt = 3 ∨ a.toInt = 4 ∨ a.toInt = 5 ∨ a.toInt = 6 ∨ a.toInt = 7 ∨ a.toInt = 8 ∨ a.toInt = 9 ∨ a.toInt = 10 := by omega
    rcases hq with x | x | x | x | x | x | x | x | x | x | x
    · exact y_tsw_i (t := 64) rfl q (by rw [x]; rfl) (by decide) (T64 e)
    · exact y_tsw_i (t := 69) rfl q (by rw [x]; rfl) (by decide) (T69 e)
    · exact y_tsw_i (t := 74) rfl q (by rw [x]; rfl) (by decide) (T74 e)
    · exact y_tsw_i (t := 79) rfl q (by rw [x]; rfl) (by decide) (T79 e)
    · exact y_tsw_i (t := 84) rfl q (by rw [x]; rfl) (by decide) (T84 e)
    · exact y_tsw_i (t := 89) rfl q (by rw [x]; rfl) (by decide) (T89 e)
    · exact y_tsw_i (t := 94) rfl q (by rw [x]; rfl) (by decide) (T94 e)
    · exact y_tsw_i (t := 99) rfl q (by rw [x]; rfl) (by decide) (T99 e)
    · exact y_tsw_i (t := 104) rfl q (by rw [x]; rfl) (by decide) (T104 e)
    · exact y_tsw_i (t := 109) rfl q (by rw [x]; rfl) (by decide) (T109 e)
    · exact y_tsw_i (t := 115) rfl q (by rw [x]; rfl) (by decide) (T115 e)
theorem p_of (hr : w_hr z_D h) (hJ : y_J h) {a b : Int32} (hk : ∀ (r : Int32) (H : aH), y_fr h H [19584] [] → K0 (some (.int r)) H C S) : aOK s_P X (d + 2) a_m283 0 [some (.ref 155), some (.int a), some (.int b)] [] h C S K0 := by
  obtain ⟨nd, le, de, ta, n1, n2, n3, n4, c1, c2, c3, c4, c5⟩ := id hJ.1
  obtain ⟨nd', sm, so, sa, s1, s2, s3, s4, s5⟩ := id hJ.2.2.2.2.1
  obtain ⟨b1, b2⟩ := y_ndb hr n1
  obtain ⟨m0, m10⟩ := y_smb hr s2
  have T33 : ∀ {G : aH}, y_fr h G [19584] [] → aOK s_P X (d + 2) a_m283 33 [some (.ref 155), some (.int a), some (.int b)] [] G C S K0 := by
    intro G e
    refine w_go z_hl [] [] 30 e.1 ?_
    exact ⟨rfl, y_zini (by decide) (by decide), fun H hH => hk _ H (y_st e hH (by repeat (first | exact w_nil | refine w_cons (Or.inl (y_m rfl)) ?_ | refine w_cons (Or.inr (by assumption)) ?_)) (by repeat (first | exact w_nil | refine w_cons (Or.inl (y_m rfl)) ?_ | refine w_cons (Or.inr (by assumption)) ?_)))⟩
  have T72 : ∀ {G : aH}, y_fr h G [19584] [] → 0 ≤ a.toInt → a.toInt ≤ 9 → aOK s_P X (d + 2) a_m283 72 [some (.ref 155), some (.int a), some (.int b)] [] G C S K0 := by
    intro G e a0 a9
    refine w_go z_hl [] [] 30 e.1 ?_
    exact ⟨⟨by omega, by omega⟩, fun l hl len bb => fun H hH => hk _ H (y_st e hH (by repeat (first | exact w_nil | refine w_cons (Or.inl (y_m rfl)) ?_ | refine w_cons (Or.inr (by assumption)) ?_)) (by repeat (first | exact w_nil | refine w_cons (Or.inl (y_m rfl)) ?_ | refine w_cons (Or.inr (by assumption)) ?_)))⟩
  have T79 : ∀ {G : aH}, y_fr h G [19584] [] → 0 ≤ a.toInt → a.toInt ≤ 9 → aOK s_P X (d + 2) a_m283 79 [some (.ref 155), some (.int a), some (.int b)] [] G C S K0 := by
    intro G e a0 a9
    refine w_go z_hl [] [] 30 e.1 ?_
    exact ⟨⟨by omega, by omega⟩, fun l hl len bb => fun H hH => hk _ H (y_st e hH (by repeat (first | exact w_nil | refine w_cons (Or.inl (y_m rfl)) ?_ | refine w_cons (Or.inr (by assumption)) ?_)) (by repeat (first | exact w_nil | refine w_cons (Or.inl (y_m rfl)) ?_ | refine w_cons (Or.inr (by assumption)) ?_)))⟩
  have T86 : ∀ {G : aH}, y_fr h G [19584] [] → 0 ≤ a.toInt → a.toInt ≤ 9 → aOK s_P X (d + 2) a_m283 86 [some (.ref 155), some (.int a), some (.int b)] [] G C S K0 := by
    intro G e a0 a9
    refine w_go z_hl [] [] 30 e.1 ?_
    exact ⟨⟨by omega, by omega⟩, fun l hl len bb => fun H hH => hk _ H (y_st e hH (by repeat (first | exact w_nil | refine w_cons (Or.inl (y_m rfl)) ?_ | refine w_cons (Or.inr (by assumption)) ?_)) (by repeat (first | exact w_nil | refine w_cons (Or.inl (y_m rfl)) ?_ | refine w_cons (Or.inr (by assumption)) ?_)))⟩
  have T99 : ∀ {G : aH}, y_fr h G [19584] [] → 0 ≤ a.toInt → a.toInt ≤ 9 → aOK s_P X (d + 2) a_m283 99 [some (.ref 155), some (.int a), some (.int b)] [] G C S K0 := by
    intro G e a0 a9
    refine w_go z_hl [] [] 30 e.1 ?_
    exact ⟨⟨by omega, by omega⟩, fun l hl len bb => fun H hH => hk _ H (y_st e hH (by repeat (first | exact w_nil | refine w_cons (Or.inl (y_m rfl)) ?_ | refine w_cons (Or.inr (by assumption)) ?_)) (by repeat (first | exact w_nil | refine w_cons (Or.inl (y_m rfl)) ?_ | refine w_cons (Or.inr (by assumption)) ?_)))⟩
  have T98 : ∀ {G : aH} {x : Int32}, y_fr h G [19584] [] → aOK s_P X (d + 2) a_m283 98 [some (.ref 155), some (.int a), some (.int b)] [.int x] G C S K0 := by
    intro G x e
    refine w_go z_hl [] [] 30 e.1 ?_
    exact fun H hH => hk _ H (y_st e hH (by repeat (first | exact w_nil | refine w_cons (Or.inl (y_m rfl)) ?_ | refine w_cons (Or.inr (by assumption)) ?_)) (by repeat (first | exact w_nil | refine w_cons (Or.inl (y_m rfl)) ?_ | refine w_cons (Or.inr (by assumption)) ?_)))
  have T93 : ∀ {G : aH}, y_fr h G [19584] [] → aOK s_P X (d + 2) a_m283 93 [some (.ref 155), some (.int a), some (.int b)] [] G C S K0 := by
    intro G e
    refine w_go z_hl [] [285] 30 e.1 ?_
    intro H hH
    have e2 := y_st e hH (by repeat (first | exact w_nil | refine w_cons (Or.inl (y_m rfl)) ?_ | refine w_cons (Or.inr (by assumption)) ?_)) (by repeat (first | exact w_nil | refine w_cons (Or.inl (y_m rfl)) ?_ | refine w_cons (Or.inr (by assumption)) ?_))
    have go : ∀ {K1 : Option Value → aH → Nat → Nat → Prop}, (∀ (r : Int32) (H' : aH), y_fr H H' [] [] → K1 (some (.int r)) H' C S) → aOK s_P X (d + 1) a_m285 0 [some (.ref 155), some (.int a), none, none] [] H C S K1 := by
      intro K1 hK1
      refine w_go z_hl [4] [] 30 e2.1 ?_
      intro H3 h3
      have f : y_fr H H3 [] [] := y_st (y_rf e2.1) h3 (by repeat (first | exact w_nil | refine w_cons (Or.inl (y_m rfl)) ?_ | refine w_cons (Or.inr (by assumption)) ?_)) (by repeat (first | exact w_nil | refine w_cons (Or.inl (y_m rfl)) ?_ | refine w_cons (Or.inr (by assumption)) ?_))
      have f2 := y_sq e2 f rfl rfl
      exact y_place_loop m0 m10 sm.toInt.toNat H3 _ _ 0 f.1 ((y_fe f2 rfl).trans s2) rfl (by omega) (fun r H' f' => hK1 r H' (y_sq f f' rfl rfl))
    refine go (fun r H' f' => ⟨fun n e => (by cases e), ?_⟩)
    exact T98 (y_sq e2 f' rfl rfl)
  have T106 : ∀ {G : aH}, y_fr h G [19584] [] → 0 ≤ a.toInt → a.toInt ≤ 9 → 5 ≤ b.toInt → b.toInt ≤ 12 → aOK s_P X (d + 2) a_m283 106 [some (.ref 155), some (.int a), some (.int b)] [] G C S K0 := by
    intro G e a0 a9 b5 b12
    obtain ⟨an, ha⟩ : ∃ an : Nat, a.toInt = an := ⟨a.toInt.toNat, by omega⟩
    obtain ⟨bn, hb⟩ : ∃ bn : Nat, b.toInt = bn := ⟨b.toInt.toNat, by omega⟩
    have i8 := y_i8 ha hb (by omega) (by omega)
    have ix : ((Int8.ofInt 8).toInt32 * a + b - Int32.ofInt 5).toInt = ((8 * an + bn - 5 : Nat) : Int) := y_subS (n := 5) _ i8 (by decide) (by omega) (by omega)
    have bx : 0 ≤ ((Int8.ofInt 8).toInt32 * a + b - Int32.ofInt 5).toInt ∧ ((Int8.ofInt 8).toInt32 * a + b - Int32.ofInt 5).toInt < ((80 : Nat) : Int) := by omega
    refine w_go z_hl [] [] 30 e.1 ?_
    exact ⟨bx, fun l hl len bb => fun H hH => hk _ H (y_st e hH (by repeat (first | exact w_nil | refine w_cons (Or.inl (y_m rfl)) ?_ | refine w_cons (Or.inr (by assumption)) ?_)) (by repeat (first | exact w_nil | refine w_cons (Or.inl (y_m rfl)) ?_ | refine w_cons (Or.inr (by assumption)) ?_)))⟩
  have T39 : ∀ {G : aH}, y_fr h G [19584] [] → 0 ≤ a.toInt → a.toInt ≤ 9 → 0 ≤ b.toInt → b.toInt ≤ 12 → aOK s_P X (d + 2) a_m283 39 [some (.ref 155), some (.int a), some (.int b)] [.int b] G C S K0 := by
    intro G e a0 a9 b0 b12
    by_cases q : b.toInt < 0 ∨ 4 < b.toInt
    · exact y_tsw_d (t := 106) rfl q (by decide) (T106 e a0 a9 (by omega) b12)
    · have hq : b.toInt = 0 ∨ b.toInt = 1 ∨ b.toInt = 2 ∨ b.toInt = 3 ∨ b.toInt = 4 := by omega
      rcases hq with x | x | x | x | x
      · exact y_tsw_i (t := 72) rfl q (by rw [x]; rfl) (by decide) (T72 e a0 a9)
      · exact y_tsw_i (t := 79) rfl q (by rw [x]; rfl) (by decide) (T79 e a0 a9)
      · exact y_tsw_i (t := 86) rfl q (by rw [x]; rfl) (by decide) (T86 e a0 a9)
      · exact y_tsw_i (t := 93) rfl q (by rw [x]; rfl) (by decide) (T93 e)
      · exact y_tsw_i (t := 99) rfl q (by rw [x]; rfl) (by decide) (T99 e a0 a9)
  have T28 : ∀ {G : aH} {cs : Int32}, y_fr h G [19584] [] → 0 ≤ a.toInt → a.toInt ≤ 9 → 0 ≤ b.toInt → cs.toInt ≤ 8 → aOK s_P X (d + 2) a_m283 28 [some (.ref 155), some (.int a), some (.int b)] [.int cs, .long (b.toInt64 - Int64.ofInt 5)] G C S K0 := by
    intro G cs e a0 a9 b0 cs8
    have bl := b.toInt_lt
    have sb : (b.toInt64 - Int64.ofInt 5).toInt = b.toInt - 5 := by
      rw [y_lsub (by rw [y_i2l, y_i64 (by decide) (by decide)]; omega) (by rw [y_i2l, y_i64 (by decide) (by decide)]; omega), y_i2l, y_i64 (by decide) (by decide)]
    refine w_go z_hl [33, 39] [] 30 e.1 ?_
    refine ⟨fun q => fun H hH => ?_, fun _ => fun H hH => T33 (y_st e hH (by repeat (first | exact w_nil | refine w_cons (Or.inl (y_m rfl)) ?_ | refine w_cons (Or.inr (by assumption)) ?_)) (by repeat (first | exact w_nil | refine w_cons (Or.inl (y_m rfl)) ?_ | refine w_cons (Or.inr (by assumption)) ?_)))⟩
    have q2 : (b.toInt64 - Int64.ofInt 5).toInt < cs.toInt64.toInt := (y_cl .lt _ _).mp q
    rw [sb, y_i2l] at q2
    exact T39 (y_st e hH (by repeat (first | exact w_nil | refine w_cons (Or.inl (y_m rfl)) ?_ | refine w_cons (Or.inr (by assumption)) ?_)) (by repeat (first | exact w_nil | refine w_cons (Or.inl (y_m rfl)) ?_ | refine w_cons (Or.inr (by assumption)) ?_))) a0 a9 b0 (by omega)
  have T10 : ∀ {G : aH} {v : Nat}, y_fr h G [19584] [] → a.toInt = v → v < 10 → aOK s_P X (d + 2) a_m283 10 [some (.ref 155), some (.int a), some (.int b)] [.int (y_01 true)] G C S K0 := by
    intro G v e hv v10
    refine w_go z_hl [33] [179] 30 e.1 ?_
    refine ⟨fun q => absurd q (by decide), fun _ => ⟨fun _ => fun H hH => T33 (y_st e hH (by repeat (first | exact w_nil | refine w_cons (Or.inl (y_m rfl)) ?_ | refine w_cons (Or.inr (by assumption)) ?_)) (by repeat (first | exact w_nil | refine w_cons (Or.inl (y_m rfl)) ?_ | refine w_cons (Or.inr (by assumption)) ?_))), fun q => fun H hH => ?_⟩⟩
    have q2 : ¬ (b.toInt < (0 : Int32).toInt) := y_cif q
    rw [show (0 : Int32).toInt = 0 by decide] at q2
    have e2 := y_st e hH (by repeat (first | exact w_nil | refine w_cons (Or.inl (y_m rfl)) ?_ | refine w_cons (Or.inr (by assumption)) ?_)) (by repeat (first | exact w_nil | refine w_cons (Or.inl (y_m rfl)) ?_ | refine w_cons (Or.inr (by assumption)) ?_))
    refine y_cases (v := a) e2.1 hv v10 ((y_ae e2 rfl).trans n2) (c1 v v10).1 (fun cs H4 h4 hcs => ⟨fun n e => (by cases e), ?_⟩)
    have hcs8 : cs.toInt ≤ 8 := by
      rw [hcs]
      have h5 : 2 ^ y_pl (y_Nn le v) 10 ≤ 2 ^ 3 := Nat.pow_le_pow_right (by decide) (c1 v v10).1
      omega
    exact T28 (y_sq e2 h4 rfl rfl) (by omega) (by omega) (by omega) hcs8
  have T10n : ∀ {G : aH}, y_fr h G [19584] [] → aOK s_P X (d + 2) a_m283 10 [some (.ref 155), some (.int a), some (.int b)] [.int (y_01 false)] G C S K0 := by
    intro G e
    refine w_go z_hl [33] [] 30 e.1 ?_
    exact ⟨fun _ => fun H hH => T33 (y_st e hH (by repeat (first | exact w_nil | refine w_cons (Or.inl (y_m rfl)) ?_ | refine w_cons (Or.inr (by assumption)) ?_)) (by repeat (first | exact w_nil | refine w_cons (Or.inl (y_m rfl)) ?_ | refine w_cons (Or.inr (by assumption)) ?_))), fun q => absurd q (by decide)⟩
  refine w_go z_hl [] [178] 30 hr ?_
  refine ⟨rfl, y_zini (by decide) (by decide), fun H1 h1 => ?_⟩
  have e1 : y_fr h H1 [19584] [] := y_st (y_mo (y_rf hr) rfl rfl) h1 (by repeat (first | exact w_nil | refine w_cons (Or.inl (y_m rfl)) ?_ | refine w_cons (Or.inr (by assumption)) ?_)) (by repeat (first | exact w_nil | refine w_cons (Or.inl (y_m rfl)) ?_ | refine w_cons (Or.inr (by assumption)) ?_))
  refine q_isNode (v := a) e1.1 ((y_fe e1 rfl).trans n1) (fun H2 v h2 hv hv2 hvc => ⟨fun n e => (by cases e), ?_⟩) (fun H2 h2 => ⟨fun n e => (by cases e), ?_⟩)
  · exact T10 (y_sq e1 h2 rfl rfl) hv (by omega)
  · exact T10n (y_sq e1 h2 rfl rfl)
end WG
