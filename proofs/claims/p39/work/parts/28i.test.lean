/-! ===== v3: the reference's test ===== -/
section WG
variable {X : aX} {C S d : Nat} {K0 : Option Value → aH → Nat → Nat → Prop}
theorem y_test_loop {node n mk cl : Int32} {wi wo t1 t0 p q : Int64} {x13 x14 : Int32} (p0 : 0 ≤ p.toInt) (q1 : 1 ≤ q.toInt) : ∀ (t : Nat) (h : aH) (u l : Int64) (kI : Int32) (k : Nat), w_hr z_D h → w_f h 19587 = some (.long u) → w_f h 19588 = some (.long l) → 0 ≤ u.toInt → u.toInt ≤ 1000000000000000000 → 1 ≤ l.toInt → l.toInt ≤ 1000000000000000000 → kI.toInt = k → n.toInt ≤ (k : Int) + t → n.toInt ≤ 6 →
    (∀ (G : aH) (u' l' : Int64) (k' : Int32), y_fr h G [19587, 19588, 19589] [] → w_f G 19587 = some (.long u') → w_f G 19588 = some (.long l') → 0 ≤ u'.toInt → u'.toInt ≤ 1000000000000000000 → 1 ≤ l'.toInt → l'.toInt ≤ 1000000000000000000 → aOK s_P X (d + 3) a_m268 312 [some (.ref 155), some (.int node), some (.int n), some (.int mk), some (.int cl), some (.long wi), none, some (.long wo), none, some (.long t1), none, some (.long t0), none, some (.int x13), some (.int x14), some (.long p), none, some (.long q), none, some (.int k')] [] G C S K0) →
    aOK s_P X (d + 3) a_m268 283 [some (.ref 155), some (.int node), some (.int n), some (.int mk), some (.int cl), some (.long wi), none, some (.long wo), none, some (.long t1), none, some (.long t0), none, some (.int x13), some (.int x14), some (.long p), none, some (.long q), none, some (.int kI)] [] h C S K0 := by
  intro t
  induction t with
  | zero =>
    intro h u l kI k hr f1 f2 u0 u1 l0 l1 hk hnt n6 hE
    refine w_go z_hl [283, 312] [] 40 hr ?_
    refine ⟨fun _ => fun H hH => ?_, fun q => ?_⟩
    · have e : y_fr h H [] [] := y_st (y_rf hr) hH (by repeat (first | exact w_nil | refine w_cons (Or.inl (y_m rfl)) ?_ | refine w_cons (Or.inr (by assumption)) ?_)) (by repeat (first | exact w_nil | refine w_cons (Or.inl (y_m rfl)) ?_ | refine w_cons (Or.inr (by assumption)) ?_))
      exact hE H u l kI (y_mo e rfl rfl) ((y_fe e rfl).trans f1) ((y_fe e rfl).trans f2) u0 u1 l0 l1
    · have : ¬ (n.toInt ≤ kI.toInt) := y_cif q
      omega
  | succ t ih =>
    intro h u l kI k hr f1 f2 u0 u1 l0 l1 hk hnt n6 hE
    have out : ∀ {H : aH}, y_fr h H [] [] → aOK s_P X (d + 3) a_m268 312 [some (.ref 155), some (.int node), some (.int n), some (.int mk), some (.int cl), some (.long wi), none, some (.long wo), none, some (.long t1), none, some (.long t0), none, some (.int x13), some (.int x14), some (.long p), none, some (.long q), none, some (.int kI)] [] H C S K0 := fun e => hE _ u l kI (y_mo e rfl rfl) ((y_fe e rfl).trans f1) ((y_fe e rfl).trans f2) u0 u1 l0 l1
    have T306 : ∀ {G : aH} {u' l' : Int64}, y_fr h G [19587, 19588, 19589] [] → w_f G 19587 = some (.long u') → w_f G 19588 = some (.long l') → 0 ≤ u'.toInt → u'.toInt ≤ 1000000000000000000 → 1 ≤ l'.toInt → l'.toInt ≤ 1000000000000000000 → kI.toInt < n.toInt → aOK s_P X (d + 3) a_m268 306 [some (.ref 155), some (.int node), some (.int n), some (.int mk), some (.int cl), some (.long wi), none, some (.long wo), none, some (.long t1), none, some (.long t0), none, some (.int x13), some (.int x14), some (.long p), none, some (.long q), none, some (.int kI)] [] G C S K0 := by
      intro G u' l' e g1 g2 a0 a1 b0 b1 hkn
      have ik : (kI + Int32.ofInt 1).toInt = ((k + 1 : Nat) : Int) := by rw [y_inc (by omega), hk]; rfl
      refine w_go z_hl [283] [] 40 e.1 ?_
      intro H hH
      have f : y_fr G H [] [] := y_st (y_rf e.1) hH (by repeat (first | exact w_nil | refine w_cons (Or.inl (y_m rfl)) ?_ | refine w_cons (Or.inr (by assumption)) ?_)) (by repeat (first | exact w_nil | refine w_cons (Or.inl (y_m rfl)) ?_ | refine w_cons (Or.inr (by assumption)) ?_))
      have e2 := y_sq e f rfl rfl
      exact ih H u' l' _ (k + 1) e2.1 ((y_fe f rfl).trans g1) ((y_fe f rfl).trans g2) a0 a1 b0 b1 ik (by omega) n6 (fun G' u'' l'' k'' v1 v2 v3 v4 v5 v6 v7 => hE G' u'' l'' k'' (y_sq e2 v1 rfl rfl) v2 v3 v4 v5 v6 v7)
    have TT : ∀ {H : aH}, y_fr h H [] [] → kI.toInt < n.toInt → aOK s_P X (d + 2) a_m215 0 [some (.ref 155), some (.long p), none, some (.long q), none, none, none, none, none, none, none, none, none, none, none, none, none] [] H C S (w_KF s_P X K0 (d + 2) [(a_m268, 306, [some (.ref 155), some (.int node), some (.int n), some (.int mk), some (.int cl), some (.long wi), none, some (.long wo), none, some (.long t1), none, some (.long t0), none, some (.int x13), some (.int x14), some (.long p), none, some (.long q), none, some (.int kI)], [])]) := by
      intro H e hkn
      refine y_times (n := p) (m := q) e.1 p0 q1 ((y_fe e rfl).trans f1) ((y_fe e rfl).trans f2) u0 l0 (fun u' l' H2 a0 b0 a1 b1 g1 g2 e2 => ⟨fun n e => (by cases e), ?_⟩)
      exact T306 (y_sq (y_mo e rfl rfl) e2 rfl rfl) g1 g2 a0 a1 b0 b1 hkn
    refine w_go z_hl [283, 312] [215] 40 hr ?_
    refine ⟨fun _ => fun H hH => out (y_st (y_rf hr) hH (by repeat (first | exact w_nil | refine w_cons (Or.inl (y_m rfl)) ?_ | refine w_cons (Or.inr (by assumption)) ?_)) (by repeat (first | exact w_nil | refine w_cons (Or.inl (y_m rfl)) ?_ | refine w_cons (Or.inr (by assumption)) ?_))), fun q => ?_⟩
    have hkn : ¬ (n.toInt ≤ kI.toInt) := y_cif q
    refine ⟨fun _ => fun H hH => TT (y_st (y_rf hr) hH (by repeat (first | exact w_nil | refine w_cons (Or.inl (y_m rfl)) ?_ | refine w_cons (Or.inr (by assumption)) ?_)) (by repeat (first | exact w_nil | refine w_cons (Or.inl (y_m rfl)) ?_ | refine w_cons (Or.inr (by assumption)) ?_))) (by omega), fun _ => ⟨fun _ => fun H hH => out (y_st (y_rf hr) hH (by repeat (first | exact w_nil | refine w_cons (Or.inl (y_m rfl)) ?_ | refine w_cons (Or.inr (by assumption)) ?_)) (by repeat (first | exact w_nil | refine w_cons (Or.inl (y_m rfl)) ?_ | refine w_cons (Or.inr (by assumption)) ?_))), fun _ => fun H hH => TT (y_st (y_rf hr) hH (by repeat (first | exact w_nil | refine w_cons (Or.inl (y_m rfl)) ?_ | refine w_cons (Or.inr (by assumption)) ?_)) (by repeat (first | exact w_nil | refine w_cons (Or.inl (y_m rfl)) ?_ | refine w_cons (Or.inr (by assumption)) ?_))) (by omega)⟩⟩
theorem y_test_tail {h : aH} (hr : w_hr z_D h) {node n mk cl : Int32} {wi wo t1 t0 : Int64} {v : Nat} (hv : node.toInt = v) (v10 : v < 10) (n6 : n.toInt ≤ 6) (w0 : 0 ≤ wi.toInt) (w8 : wi.toInt ≤ 100000000) (o0 : 0 ≤ wo.toInt) (o8 : wo.toInt ≤ 100000000) (a0 : 0 ≤ t1.toInt) (b0 : 0 ≤ t0.toInt) (hk : ∀ (r : Int32) (H : aH), y_fr h H [19585, 19587, 19588, 19589] [154] → K0 (some (.int r)) H C S) : aOK s_P X (d + 3) a_m268 163 [some (.ref 155), some (.int node), some (.int n), some (.int mk), some (.int cl), some (.long wi), none, some (.long wo), none, some (.long t1), none, some (.long t0), none, none, none, none, none, none, none, none] [] h C S K0 := by
  have T364 : ∀ {G : aH} {ls : aL}, y_fr h G [19585, 19587, 19588, 19589] [154] → aOK s_P X (d + 3) a_m268 364 ls [] G C S K0 := by
    intro G ls e
    refine w_go z_hl [] [] 40 e.1 ?_
    intro H hH
    exact hk _ H (y_st e hH (by repeat (first | exact w_nil | refine w_cons (Or.inl (y_m rfl)) ?_ | refine w_cons (Or.inr (by assumption)) ?_)) (by repeat (first | exact w_nil | refine w_cons (Or.inl (y_m rfl)) ?_ | refine w_cons (Or.inr (by assumption)) ?_)))
  have T355 : ∀ {G : aH} {o13 o14 o15 o17 o19 : Option Value}, y_fr h G [19585, 19587, 19588, 19589] [154] → aOK s_P X (d + 3) a_m268 355 [some (.ref 155), some (.int node), some (.int n), some (.int mk), some (.int cl), some (.long wi), none, some (.long wo), none, some (.long t1), none, some (.long t0), none, o13, o14, o15, none, o17, none, o19] [] G C S K0 := by
    intro G o13 o14 o15 o17 o19 e
    refine w_go z_hl [] [196] 30 e.1 ?_
    refine ⟨rfl, y_zini (by decide) (by decide), fun H hH => ?_⟩
    have e2 := y_st e hH (by repeat (first | exact w_nil | refine w_cons (Or.inl (y_m rfl)) ?_ | refine w_cons (Or.inr (by assumption)) ?_)) (by repeat (first | exact w_nil | refine w_cons (Or.inl (y_m rfl)) ?_ | refine w_cons (Or.inr (by assumption)) ?_))
    refine y_tells e2.1 (hH.2.1 19585 _ rfl) (by decide) (by decide) (fun H2 r2 e3 _ _ => ⟨fun n e => (by cases e), ?_⟩)
    exact T364 (y_sq e2 e3 rfl rfl)
  have T338 : ∀ {G : aH} {u l : Int64} {o13 o14 o15 o17 o19 : Option Value}, y_fr h G [19585, 19587, 19588, 19589] [154] → w_f G 19587 = some (.long u) → w_f G 19588 = some (.long l) → 0 ≤ u.toInt → u.toInt ≤ 1000000000000000000 → 1 ≤ l.toInt → l.toInt ≤ 1000000000000000000 → aOK s_P X (d + 3) a_m268 338 [some (.ref 155), some (.int node), some (.int n), some (.int mk), some (.int cl), some (.long wi), none, some (.long wo), none, some (.long t1), none, some (.long t0), none, o13, o14, o15, none, o17, none, o19] [] G C S K0 := by
    intro G u l o13 o14 o15 o17 o19 e f1 f2 u0 u1 l0 l1
    have s1 : (u + l).toInt = u.toInt + l.toInt := y_add (by omega) (by omega)
    refine w_go z_hl [] [194] 40 e.1 ?_
    intro y hy _ _
    obtain rfl := y_fl f1 hy
    intro z hz _ _
    obtain rfl := y_fl f2 hz
    intro H hH
    have e2 := y_st e hH (by repeat (first | exact w_nil | refine w_cons (Or.inl (y_m rfl)) ?_ | refine w_cons (Or.inr (by assumption)) ?_)) (by repeat (first | exact w_nil | refine w_cons (Or.inl (y_m rfl)) ?_ | refine w_cons (Or.inr (by assumption)) ?_))
    refine q_lowest (n := u) (m := u + l) e2.1 (by omega) (by omega) (fun u l H2 e3 _ _ _ _ _ _ _ => ⟨fun n e => (by cases e), ?_⟩)
    exact T355 (y_sq e2 e3 rfl rfl)
  have T319 : ∀ {G : aH} {u l : Int64} {o13 o14 o15 o17 o19 : Option Value}, y_fr h G [19585, 19587, 19588, 19589] [154] → w_f G 19587 = some (.long u) → w_f G 19588 = some (.long l) → 0 ≤ u.toInt → u.toInt ≤ 1000000000000000000 → 1 ≤ l.toInt → l.toInt ≤ 1000000000000000000 → aOK s_P X (d + 3) a_m268 319 [some (.ref 155), some (.int node), some (.int n), some (.int mk), some (.int cl), some (.long wi), none, some (.long wo), none, some (.long t1), none, some (.long t0), none, o13, o14, o15, none, o17, none, o19] [] G C S K0 := by
    intro G u l o13 o14 o15 o17 o19 e f1 f2 u0 u1 l0 l1
    refine w_go z_hl [338, 335] [] 40 e.1 ?_
    intro y hy _ _
    obtain rfl := y_fl f1 hy
    intro z hz _ _
    obtain rfl := y_fl f2 hz
    refine ⟨fun _ => ?_, fun _ => ?_⟩
    · intro H hH
      have f : y_fr G H [] [] := y_st (y_rf e.1) hH (by repeat (first | exact w_nil | refine w_cons (Or.inl (y_m rfl)) ?_ | refine w_cons (Or.inr (by assumption)) ?_)) (by repeat (first | exact w_nil | refine w_cons (Or.inl (y_m rfl)) ?_ | refine w_cons (Or.inr (by assumption)) ?_))
      exact T338 (y_sq e f rfl rfl) ((y_fe f rfl).trans f1) ((y_fe f rfl).trans f2) u0 u1 l0 l1
    · intro H hH
      have f : y_fr G H [] [] := y_st (y_rf e.1) hH (by repeat (first | exact w_nil | refine w_cons (Or.inl (y_m rfl)) ?_ | refine w_cons (Or.inr (by assumption)) ?_)) (by repeat (first | exact w_nil | refine w_cons (Or.inl (y_m rfl)) ?_ | refine w_cons (Or.inr (by assumption)) ?_))
      have e2 := y_sq e f rfl rfl
      refine w_go z_hl [] [] 40 e2.1 ?_
      intro H2 h2
      exact hk _ H2 (y_st e2 h2 (by repeat (first | exact w_nil | refine w_cons (Or.inl (y_m rfl)) ?_ | refine w_cons (Or.inr (by assumption)) ?_)) (by repeat (first | exact w_nil | refine w_cons (Or.inl (y_m rfl)) ?_ | refine w_cons (Or.inr (by assumption)) ?_)))
  have T312 : ∀ {G : aH} {u l : Int64} {o13 o14 o15 o17 o19 : Option Value}, y_fr h G [19585, 19587, 19588, 19589] [154] → w_f G 19587 = some (.long u) → w_f G 19588 = some (.long l) → 0 ≤ u.toInt → u.toInt ≤ 1000000000000000000 → 1 ≤ l.toInt → l.toInt ≤ 1000000000000000000 → aOK s_P X (d + 3) a_m268 312 [some (.ref 155), some (.int node), some (.int n), some (.int mk), some (.int cl), some (.long wi), none, some (.long wo), none, some (.long t1), none, some (.long t0), none, o13, o14, o15, none, o17, none, o19] [] G C S K0 := by
    intro G u l o13 o14 o15 o17 o19 e f1 f2 u0 u1 l0 l1
    refine w_go z_hl [319] [] 40 e.1 ?_
    intro x hx _ _
    refine ⟨fun _ => fun H hH => hk _ H (y_st e hH (by repeat (first | exact w_nil | refine w_cons (Or.inl (y_m rfl)) ?_ | refine w_cons (Or.inr (by assumption)) ?_)) (by repeat (first | exact w_nil | refine w_cons (Or.inl (y_m rfl)) ?_ | refine w_cons (Or.inr (by assumption)) ?_))), fun _ => fun H hH => ?_⟩
    have f : y_fr G H [] [] := y_st (y_rf e.1) hH (by repeat (first | exact w_nil | refine w_cons (Or.inl (y_m rfl)) ?_ | refine w_cons (Or.inr (by assumption)) ?_)) (by repeat (first | exact w_nil | refine w_cons (Or.inl (y_m rfl)) ?_ | refine w_cons (Or.inr (by assumption)) ?_))
    exact T319 (y_sq e f rfl rfl) ((y_fe f rfl).trans f1) ((y_fe f rfl).trans f2) u0 u1 l0 l1
  have T280 : ∀ {G : aH} {u l : Int64} {p q : Int64} {x13 x14 : Int32}, y_fr h G [19587, 19588, 19589] [] → w_f G 19587 = some (.long u) → w_f G 19588 = some (.long l) → 0 ≤ u.toInt → u.toInt ≤ 1000000000000000000 → 1 ≤ l.toInt → l.toInt ≤ 1000000000000000000 → 0 ≤ p.toInt → 1 ≤ q.toInt → aOK s_P X (d + 3) a_m268 280 [some (.ref 155), some (.int node), some (.int n), some (.int mk), some (.int cl), some (.long wi), none, some (.long wo), none, some (.long t1), none, some (.long t0), none, some (.int x13), some (.int x14), some (.long p), none, some (.long q), none, none] [] G C S K0 := by
    intro G u l p q x13 x14 e f1 f2 u0 u1 l0 l1 p0 q1
    refine w_go z_hl [283] [] 40 e.1 ?_
    intro H hH
    have f : y_fr G H [] [] := y_st (y_rf e.1) hH (by repeat (first | exact w_nil | refine w_cons (Or.inl (y_m rfl)) ?_ | refine w_cons (Or.inr (by assumption)) ?_)) (by repeat (first | exact w_nil | refine w_cons (Or.inl (y_m rfl)) ?_ | refine w_cons (Or.inr (by assumption)) ?_))
    have e2 := y_sq e f rfl rfl
    exact y_test_loop p0 q1 6 H u l _ 0 f.1 ((y_fe f rfl).trans f1) ((y_fe f rfl).trans f2) u0 u1 l0 l1 rfl (by omega) n6 (fun G' u' l' k' v1 v2 v3 v4 v5 v6 v7 => T312 (y_sq (y_mo e2 rfl rfl) v1 rfl rfl) v2 v3 v4 v5 v6 v7)
  have T260 : ∀ {G : aH} {u l : Int64} {x13 x14 : Int32}, y_fr h G [19587, 19588, 19589] [] → w_f G 19587 = some (.long u) → w_f G 19588 = some (.long l) → 0 ≤ u.toInt → 1 ≤ l.toInt → 1 ≤ wo.toInt → aOK s_P X (d + 3) a_m268 260 [some (.ref 155), some (.int node), some (.int n), some (.int mk), some (.int cl), some (.long wi), none, some (.long wo), none, some (.long t1), none, some (.long t0), none, some (.int x13), some (.int x14), none, none, none, none, none] [] G C S K0 := by
    intro G u l x13 x14 e f1 f2 u0 l0 hwo
    refine w_go z_hl [] [194] 40 e.1 ?_
    intro y hy _ _
    obtain rfl := y_fl f1 hy
    intro z hz _ _
    obtain rfl := y_fl f2 hz
    intro H hH
    have e2 := y_st e hH (by repeat (first | exact w_nil | refine w_cons (Or.inl (y_m rfl)) ?_ | refine w_cons (Or.inr (by assumption)) ?_)) (by repeat (first | exact w_nil | refine w_cons (Or.inl (y_m rfl)) ?_ | refine w_cons (Or.inr (by assumption)) ?_))
    refine q_lowest (n := wi) (m := wo) e2.1 (by omega) hwo (fun u' l' H2 e3 g1 g2 g3 g4 g5 g6 g7 => ⟨fun n e => (by cases e), ?_⟩)
    exact T280 (y_sq e2 e3 rfl rfl) g1 g2 (g7 w0) (by omega) g3 (by omega) u0 l0
  have T242n : ∀ {G : aH} {x14 : Int32}, y_fr h G [19587, 19588, 19589] [] → aOK s_P X (d + 3) a_m268 242 [some (.ref 155), some (.int node), some (.int n), some (.int mk), some (.int cl), some (.long wi), none, some (.long wo), none, some (.long t1), none, some (.long t0), none, some (.int (Int32.ofInt 0)), some (.int x14), none, none, none, none, none] [] G C S K0 := by
    intro G x14 e
    refine w_go z_hl [355] [] 40 e.1 ?_
    exact ⟨fun _ => fun H hH => T355 (y_st (y_mo e rfl rfl) hH (by repeat (first | exact w_nil | refine w_cons (Or.inl (y_m rfl)) ?_ | refine w_cons (Or.inr (by assumption)) ?_)) (by repeat (first | exact w_nil | refine w_cons (Or.inl (y_m rfl)) ?_ | refine w_cons (Or.inr (by assumption)) ?_))), fun q => absurd q (by decide)⟩
  have T242 : ∀ {G : aH} {x14 : Int32}, y_fr h G [19587, 19588, 19589] [] → (x14 ≠ 0 → 1 ≤ wo.toInt ∧ 1 ≤ t0.toInt) → aOK s_P X (d + 3) a_m268 242 [some (.ref 155), some (.int node), some (.int n), some (.int mk), some (.int cl), some (.long wi), none, some (.long wo), none, some (.long t1), none, some (.long t0), none, some (.int (Int32.ofInt 1)), some (.int x14), none, none, none, none, none] [] G C S K0 := by
    intro G x14 e h14
    refine w_go z_hl [355] [194] 40 e.1 ?_
    refine ⟨fun q => absurd q (by decide), fun _ => ⟨fun _ => fun H hH => T355 (y_st (y_mo e rfl rfl) hH (by repeat (first | exact w_nil | refine w_cons (Or.inl (y_m rfl)) ?_ | refine w_cons (Or.inr (by assumption)) ?_)) (by repeat (first | exact w_nil | refine w_cons (Or.inl (y_m rfl)) ?_ | refine w_cons (Or.inr (by assumption)) ?_))), fun q => fun H hH => ?_⟩⟩
    have q2 : ¬ (x14.toInt = (0 : Int32).toInt) := y_cif q
    obtain ⟨c1, c2⟩ := h14 (fun e => q2 (by rw [e]))
    have e2 := y_st e hH (by repeat (first | exact w_nil | refine w_cons (Or.inl (y_m rfl)) ?_ | refine w_cons (Or.inr (by assumption)) ?_)) (by repeat (first | exact w_nil | refine w_cons (Or.inl (y_m rfl)) ?_ | refine w_cons (Or.inr (by assumption)) ?_))
    refine q_lowest (n := t1) (m := t0) e2.1 (by omega) c2 (fun u' l' H2 e3 g1 g2 g3 g4 g5 g6 g7 => ⟨fun n e => (by cases e), ?_⟩)
    exact T260 (y_sq e2 e3 rfl rfl) g1 g2 (g7 a0) g3 c1
  have T218 : ∀ {G : aH} {x13 x14 : Int32}, y_fr h G [] [] → (x13 = Int32.ofInt 0 ∨ x13 = Int32.ofInt 1) → (x14 ≠ 0 → 1 ≤ wo.toInt ∧ 1 ≤ t0.toInt) → aOK s_P X (d + 3) a_m268 218 [some (.ref 155), some (.int node), some (.int n), some (.int mk), some (.int cl), some (.long wi), none, some (.long wo), none, some (.long t1), none, some (.long t0), none, some (.int x13), some (.int x14), none, none, none, none, none] [] G C S K0 := by
    intro G x13 x14 e h13 h14
    rcases h13 with rfl | rfl
    · refine w_go z_hl [242] [] 40 e.1 ?_
      refine ⟨rfl, y_zini (by decide) (by decide), ⟨fun _ => ⟨rfl, y_zin (by decide) (by decide), rfl, y_zin (by decide) (by decide), fun H hH => T242n (y_st (y_mo e rfl rfl) hH (by repeat (first | exact w_nil | refine w_cons (Or.inl (y_m rfl)) ?_ | refine w_cons (Or.inr (by assumption)) ?_)) (by repeat (first | exact w_nil | refine w_cons (Or.inl (y_m rfl)) ?_ | refine w_cons (Or.inr (by assumption)) ?_)))⟩, fun q => absurd q (by decide)⟩⟩
    · refine w_go z_hl [242] [] 40 e.1 ?_
      refine ⟨rfl, y_zini (by decide) (by decide), ⟨fun q => absurd q (by decide), fun _ => ⟨rfl, y_zin (by decide) (by decide), rfl, y_zin (by decide) (by decide), fun H hH => T242 (y_st (y_mo e rfl rfl) hH (by repeat (first | exact w_nil | refine w_cons (Or.inl (y_m rfl)) ?_ | refine w_cons (Or.inr (by assumption)) ?_)) (by repeat (first | exact w_nil | refine w_cons (Or.inl (y_m rfl)) ?_ | refine w_cons (Or.inr (by assumption)) ?_))) h14⟩⟩⟩
  have T203 : ∀ {G : aH} {x13 x14 : Int32}, y_fr h G [] [] → (x13 = Int32.ofInt 0 ∨ x13 = Int32.ofInt 1) → (x14 ≠ 0 → 1 ≤ wo.toInt ∧ 1 ≤ t0.toInt) → aOK s_P X (d + 3) a_m268 203 [some (.ref 155), some (.int node), some (.int n), some (.int mk), some (.int cl), some (.long wi), none, some (.long wo), none, some (.long t1), none, some (.long t0), none, some (.int x13), none, none, none, none, none, none] [.int x14] G C S K0 := by
    intro G x13 x14 e h13 h14
    refine w_go z_hl [218] [] 40 e.1 ?_
    refine ⟨fun _ => fun H hH => T218 (y_st e hH (by repeat (first | exact w_nil | refine w_cons (Or.inl (y_m rfl)) ?_ | refine w_cons (Or.inr (by assumption)) ?_)) (by repeat (first | exact w_nil | refine w_cons (Or.inl (y_m rfl)) ?_ | refine w_cons (Or.inr (by assumption)) ?_))) h13 h14, fun _ => ⟨fun _ => fun H hH => T218 (y_st e hH (by repeat (first | exact w_nil | refine w_cons (Or.inl (y_m rfl)) ?_ | refine w_cons (Or.inr (by assumption)) ?_)) (by repeat (first | exact w_nil | refine w_cons (Or.inl (y_m rfl)) ?_ | refine w_cons (Or.inr (by assumption)) ?_))) h13 h14, fun _ => fun H hH => hk _ H (y_st (y_mo e rfl rfl) hH (by repeat (first | exact w_nil | refine w_cons (Or.inl (y_m rfl)) ?_ | refine w_cons (Or.inr (by assumption)) ?_)) (by repeat (first | exact w_nil | refine w_cons (Or.inl (y_m rfl)) ?_ | refine w_cons (Or.inr (by assumption)) ?_)))⟩⟩
  have T182 : ∀ {G : aH} {x13 : Int32}, y_fr h G [] [] → (x13 = Int32.ofInt 0 ∨ x13 = Int32.ofInt 1) → aOK s_P X (d + 3) a_m268 182 [some (.ref 155), some (.int node), some (.int n), some (.int mk), some (.int cl), some (.long wi), none, some (.long wo), none, some (.long t1), none, some (.long t0), none, none, none, none, none, none, none, none] [.int x13] G C S K0 := by
    intro G x13 e h13
    refine w_go z_hl [203] [] 40 e.1 ?_
    refine ⟨fun _ => fun H hH => T203 (y_st e hH (by repeat (first | exact w_nil | refine w_cons (Or.inl (y_m rfl)) ?_ | refine w_cons (Or.inr (by assumption)) ?_)) (by repeat (first | exact w_nil | refine w_cons (Or.inl (y_m rfl)) ?_ | refine w_cons (Or.inr (by assumption)) ?_))) h13 (fun q => absurd rfl q), fun q => ⟨fun _ => fun H hH => T203 (y_st e hH (by repeat (first | exact w_nil | refine w_cons (Or.inl (y_m rfl)) ?_ | refine w_cons (Or.inr (by assumption)) ?_)) (by repeat (first | exact w_nil | refine w_cons (Or.inl (y_m rfl)) ?_ | refine w_cons (Or.inr (by assumption)) ?_))) h13 (fun q => absurd rfl q), fun q2 => fun H hH => T203 (y_st e hH (by repeat (first | exact w_nil | refine w_cons (Or.inl (y_m rfl)) ?_ | refine w_cons (Or.inr (by assumption)) ?_)) (by repeat (first | exact w_nil | refine w_cons (Or.inl (y_m rfl)) ?_ | refine w_cons (Or.inr (by assumption)) ?_))) h13 (fun _ => ?_)⟩⟩
    have q3 : ¬ (wo.toInt ≤ (Int64.ofNat 0).toInt) := y_clf q
    have q4 : ¬ (t0.toInt ≤ (Int64.ofNat 0).toInt) := y_clf q2
    rw [show (Int64.ofNat 0).toInt = 0 by decide] at q3 q4
    omega
  refine w_go z_hl [182] [] 40 hr ?_
  refine ⟨fun _ => fun H hH => T182 (y_st (y_rf hr) hH (by repeat (first | exact w_nil | refine w_cons (Or.inl (y_m rfl)) ?_ | refine w_cons (Or.inr (by assumption)) ?_)) (by repeat (first | exact w_nil | refine w_cons (Or.inl (y_m rfl)) ?_ | refine w_cons (Or.inr (by assumption)) ?_))) (Or.inl rfl), fun q => ⟨fun _ => fun H hH => T182 (y_st (y_rf hr) hH (by repeat (first | exact w_nil | refine w_cons (Or.inl (y_m rfl)) ?_ | refine w_cons (Or.inr (by assumption)) ?_)) (by repeat (first | exact w_nil | refine w_cons (Or.inl (y_m rfl)) ?_ | refine w_cons (Or.inr (by assumption)) ?_))) (Or.inl rfl), fun q2 => fun H hH => T182 (y_st (y_rf hr) hH (by repeat (first | exact w_nil | refine w_cons (Or.inl (y_m rfl)) ?_ | refine w_cons (Or.inr (by assumption)) ?_)) (by repeat (first | exact w_nil | refine w_cons (Or.inl (y_m rfl)) ?_ | refine w_cons (Or.inr (by assumption)) ?_))) (Or.inr rfl)⟩⟩
theorem p_test {h : aH} (hr : w_hr z_D h) (hJ : y_J h) {node n mk : Int32} (hk : ∀ (r : Int32) (H : aH), y_fr h H [19584, 19585, 19587, 19588, 19589] [154, 163] → y_J H → K0 (some (.int r)) H C S) : aOK s_P X (d + 4) a_m268 0 [some (.ref 155), some (.int node), some (.int n), some (.int mk), none, none, none, none, none, none, none, none, none, none, none, none, none, none, none, none] [] h C S K0 := by
  have hJ' := hJ
  obtain ⟨q1, q2, q3, q4, q5, q6, q7⟩ := hJ'
  obtain ⟨nd, le, de, ta, n1, n2, n3, n4, c1, c2, c3, c4, c5⟩ := id q1
  obtain ⟨nd', sm, so, sa, s1, s2, s3, s4, s5⟩ := id q5
  obtain rfl := y_fi n1 s1
  obtain ⟨b1, b2⟩ := y_ndb hr n1
  have out : ∀ {G : aH} {r : Int32}, y_fr h G [19584] [] → K0 (some (.int r)) G C S := fun g => hk _ _ (y_mo g rfl rfl) (y_J_fr g rfl rfl hJ)
  have T135 : ∀ {G0 G : aH} {cl : Int32} {wi wo : Int64} {v : Nat}, y_fr h G0 [19584] [163] → y_J G0 → y_fr G0 G [] [] → node.toInt = v → v < 10 → n.toInt ≤ 6 → 0 ≤ wi.toInt → wi.toInt ≤ 100000000 → 0 ≤ wo.toInt → wo.toInt ≤ 100000000 → aOK s_P X (d + 4) a_m268 135 [some (.ref 155), some (.int node), some (.int n), some (.int mk), some (.int cl), some (.long wi), none, none, none, none, none, none, none, none, none, none, none, none, none, none] [.long wo] G C S K0 := by
    intro G0 G cl wi wo v e0 J0 e hv v10 n6 w0 w8 o0 o8
    have i1 : ((Int8.ofInt 8).toInt32 * node + Int32.ofInt 1).toInt = ((8 * v + 1 : Nat) : Int) := y_i8 hv (by decide) (by omega) (by omega)
    have i0 : ((Int8.ofInt 8).toInt32 * node).toInt = ((8 * v : Nat) : Int) := y_mulS _ y_c8 hv rfl (by omega)
    have k1 : 0 ≤ ((Int8.ofInt 8).toInt32 * node + Int32.ofInt 1).toInt ∧ ((Int8.ofInt 8).toInt32 * node + Int32.ofInt 1).toInt < ((80 : Nat) : Int) := by omega
    have k0 : 0 ≤ ((Int8.ofInt 8).toInt32 * node).toInt ∧ ((Int8.ofInt 8).toInt32 * node).toInt < ((80 : Nat) : Int) := by omega
    have m1 : ((Int8.ofInt 8).toInt32 * node + Int32.ofInt 1).toNatClampNeg < 80 := by have := y_cl1 i1; omega
    have m0 : ((Int8.ofInt 8).toInt32 * node).toNatClampNeg < 80 := by have := y_cl1 i0; omega
    refine w_go z_hl [163] [] 40 e.1 ?_
    refine ⟨k1, fun l hl len bb => ⟨k0, fun H hH => ?_⟩⟩
    have f : y_fr G0 H [] [] := y_st e hH (by repeat (first | exact w_nil | refine w_cons (Or.inl (y_m rfl)) ?_ | refine w_cons (Or.inr (by assumption)) ?_)) (by repeat (first | exact w_nil | refine w_cons (Or.inl (y_m rfl)) ?_ | refine w_cons (Or.inr (by assumption)) ?_))
    have t1 := (bb _ (z_gd (0 : Int32) (Nat.lt_of_lt_of_eq m1 len.symm))).1
    have t0 := (bb _ (z_gd (0 : Int32) (Nat.lt_of_lt_of_eq m0 len.symm))).1
    refine aOK_deep (d := d + 3) (by omega) ?_
    refine y_test_tail f.1 hv v10 n6 w0 w8 o0 o8 (by rw [y_i2l]; exact t1) (by rw [y_i2l]; exact t0) (fun r H5 e5 => ?_)
    exact hk r H5 (y_sq (y_mo (y_sq e0 f rfl rfl : y_fr h H [19584] [163]) rfl rfl) e5 rfl rfl) (y_J_fr e5 rfl rfl (y_J_fr f rfl rfl J0))
  have T125 : ∀ {G0 G : aH} {cl : Int32} {wl : List Int64} {wi : Int64} {v : Nat}, y_fr h G0 [19584] [163] → y_J G0 → y_wl G0 wl → y_fr G0 G [] [] → node.toInt = v → v < 10 → n.toInt ≤ 6 → 0 ≤ wi.toInt → wi.toInt ≤ 100000000 → aOK s_P X (d + 4) a_m268 125 [some (.ref 155), some (.int node), some (.int n), some (.int mk), some (.int cl), none, none, none, none, none, none, none, none, none, none, none, none, none, none, none] [.long wi] G C S K0 := by
    intro G0 G cl wl wi v e0 J0 hw e hv v10 n6 w0 w8
    refine w_go z_hl [] [190] 40 e.1 ?_
    intro H hH
    have f : y_fr G0 H [] [] := y_st e hH (by repeat (first | exact w_nil | refine w_cons (Or.inl (y_m rfl)) ?_ | refine w_cons (Or.inr (by assumption)) ?_)) (by repeat (first | exact w_nil | refine w_cons (Or.inl (y_m rfl)) ?_ | refine w_cons (Or.inr (by assumption)) ?_))
    have f1 : y_fr h H [19584] [163] := y_sq e0 f rfl rfl
    refine y_nowWith (b := false) f.1 ((y_fe f1 rfl).trans n1) ((y_ae f1 rfl).trans s4) (y_wl_fr f (fun q => by cases q) hw) (fun r H2 e3 hr3 => ⟨fun n e => (by cases e), ?_⟩)
    have bb := y_nw_b (sa := sa) (node := cl) (so := false) (but := Int32.ofInt (-1)) hw b1 b2
    exact T135 e0 J0 (y_sq f e3 rfl rfl) hv v10 n6 w0 w8 (by omega) (by omega)
  have T109 : ∀ {G0 G : aH} {cl : Int32} {wl : List Int64} {r : Int64} {v : Nat}, y_fr h G0 [19584] [163] → y_J G0 → y_wl G0 wl → y_fr G0 G [] [] → node.toInt = v → v < 10 → n.toInt ≤ 6 → aOK s_P X (d + 4) a_m268 109 [some (.ref 155), some (.int node), some (.int n), some (.int mk), some (.int cl), none, none, none, none, none, none, none, none, none, none, none, none, none, none, none] [.long r] G C S K0 := by
    intro G0 G cl wl r v e0 J0 hw e hv v10 n6
    refine w_go z_hl [] [190] 40 e.1 ?_
    refine ⟨fun _ => fun H hH => ?_, fun _ => fun H hH => ?_⟩
    · have f : y_fr G0 H [] [] := y_st e hH (by repeat (first | exact w_nil | refine w_cons (Or.inl (y_m rfl)) ?_ | refine w_cons (Or.inr (by assumption)) ?_)) (by repeat (first | exact w_nil | refine w_cons (Or.inl (y_m rfl)) ?_ | refine w_cons (Or.inr (by assumption)) ?_))
      have f1 : y_fr h H [19584] [163] := y_sq e0 f rfl rfl
      refine y_nowWith (b := true) f.1 ((y_fe f1 rfl).trans n1) ((y_ae f1 rfl).trans s4) (y_wl_fr f (fun q => by cases q) hw) (fun r H2 e3 hr3 => ⟨fun n e => (by cases e), ?_⟩)
      have bb := y_nw_b (sa := sa) (node := cl) (so := true) (but := Int32.ofInt (-1)) hw b1 b2
      exact T125 e0 J0 hw (y_sq f e3 rfl rfl) hv v10 n6 (by omega) (by omega)
    · have f : y_fr G0 H [] [] := y_st e hH (by repeat (first | exact w_nil | refine w_cons (Or.inl (y_m rfl)) ?_ | refine w_cons (Or.inr (by assumption)) ?_)) (by repeat (first | exact w_nil | refine w_cons (Or.inl (y_m rfl)) ?_ | refine w_cons (Or.inr (by assumption)) ?_))
      exact hk _ H (y_sq (y_mo e0 rfl rfl) f rfl rfl) (y_J_fr f rfl rfl J0)
  have T105 : ∀ {G0 : aH} {cl : Int32} {wl : List Int64} {v : Nat}, y_fr h G0 [19584] [163] → y_J G0 → y_wl G0 wl → node.toInt = v → v < 10 → n.toInt ≤ 6 → aOK s_P X (d + 4) a_m268 105 [some (.ref 155), some (.int node), some (.int n), some (.int mk), some (.int cl), none, none, none, none, none, none, none, none, none, none, none, none, none, none, none] [] G0 C S K0 := by
    intro G0 cl wl v e0 J0 hw hv v10 n6
    refine w_go z_hl [] [189] 40 e0.1 ?_
    intro H hH
    have f : y_fr G0 H [] [] := y_st (y_rf e0.1) hH (by repeat (first | exact w_nil | refine w_cons (Or.inl (y_m rfl)) ?_ | refine w_cons (Or.inr (by assumption)) ?_)) (by repeat (first | exact w_nil | refine w_cons (Or.inl (y_m rfl)) ?_ | refine w_cons (Or.inr (by assumption)) ?_))
    have f1 : y_fr h H [19584] [163] := y_sq e0 f rfl rfl
    refine y_now f.1 ((y_fe f1 rfl).trans n1) ((y_ae f1 rfl).trans s4) (y_wl_fr f (fun q => by cases q) hw) (fun r H2 e3 hr3 => ⟨fun n e => (by cases e), ?_⟩)
    exact T109 e0 J0 hw (y_sq f e3 rfl rfl) hv v10 n6
  have T101 : ∀ {G : aH} {cl : Int32} {v : Nat}, y_fr h G [19584] [] → node.toInt = v → v < 10 → n.toInt ≤ 6 → aOK s_P X (d + 4) a_m268 101 [some (.ref 155), some (.int node), some (.int n), some (.int mk), some (.int cl), none, none, none, none, none, none, none, none, none, none, none, none, none, none, none] [] G C S K0 := by
    intro G cl v e hv v10 n6
    refine w_go z_hl [] [188] 40 e.1 ?_
    intro H hH
    have e2 := y_st e hH (by repeat (first | exact w_nil | refine w_cons (Or.inl (y_m rfl)) ?_ | refine w_cons (Or.inr (by assumption)) ?_)) (by repeat (first | exact w_nil | refine w_cons (Or.inl (y_m rfl)) ?_ | refine w_cons (Or.inr (by assumption)) ?_))
    refine q_weighsUp e2.1 (y_J_fr e2 rfl rfl hJ) (fun wl H2 e3 J3 hw => ⟨fun n e => (by cases e), ?_⟩)
    exact T105 (y_sq (y_mo e2 rfl rfl) e3 rfl rfl) J3 hw hv v10 n6
  have T59 : ∀ {G : aH} {cl : Int32} {v : Nat}, y_fr h G [19584] [] → node.toInt = v → v < 10 → n.toInt ≤ 6 → 0 ≤ cl.toInt → cl.toInt ≤ 9 → aOK s_P X (d + 4) a_m268 59 [some (.ref 155), some (.int node), some (.int n), some (.int mk), none, none, none, none, none, none, none, none, none, none, none, none, none, none, none, none] [.int cl] G C S K0 := by
    intro G cl v e hv v10 n6 cl0 cl9
    refine w_go z_hl [101] [] 60 e.1 ?_
    refine ⟨⟨by omega, by omega⟩, fun l hl len bb => ⟨fun _ => fun H hH => out (y_st e hH (by repeat (first | exact w_nil | refine w_cons (Or.inl (y_m rfl)) ?_ | refine w_cons (Or.inr (by assumption)) ?_)) (by repeat (first | exact w_nil | refine w_cons (Or.inl (y_m rfl)) ?_ | refine w_cons (Or.inr (by assumption)) ?_))), fun _ => ⟨⟨by omega, by omega⟩, ⟨fun _ => fun H hH => out (y_st e hH (by repeat (first | exact w_nil | refine w_cons (Or.inl (y_m rfl)) ?_ | refine w_cons (Or.inr (by assumption)) ?_)) (by repeat (first | exact w_nil | refine w_cons (Or.inl (y_m rfl)) ?_ | refine w_cons (Or.inr (by assumption)) ?_))), fun _ => ⟨⟨by omega, by omega⟩, fun l2 hl2 len2 bb2 => ⟨fun _ => fun H hH => out (y_st e hH (by repeat (first | exact w_nil | refine w_cons (Or.inl (y_m rfl)) ?_ | refine w_cons (Or.inr (by assumption)) ?_)) (by repeat (first | exact w_nil | refine w_cons (Or.inl (y_m rfl)) ?_ | refine w_cons (Or.inr (by assumption)) ?_))), fun _ => ⟨⟨by omega, by omega⟩, ⟨fun _ => fun H hH => T101 (y_st e hH (by repeat (first | exact w_nil | refine w_cons (Or.inl (y_m rfl)) ?_ | refine w_cons (Or.inr (by assumption)) ?_)) (by repeat (first | exact w_nil | refine w_cons (Or.inl (y_m rfl)) ?_ | refine w_cons (Or.inr (by assumption)) ?_))) hv v10 n6, fun _ => fun H hH => out (y_st e hH (by repeat (first | exact w_nil | refine w_cons (Or.inl (y_m rfl)) ?_ | refine w_cons (Or.inr (by assumption)) ?_)) (by repeat (first | exact w_nil | refine w_cons (Or.inl (y_m rfl)) ?_ | refine w_cons (Or.inr (by assumption)) ?_)))⟩⟩⟩⟩⟩⟩⟩⟩
  have T45 : ∀ {G : aH} {v : Nat}, y_fr h G [19584] [] → node.toInt = v → v < 10 → n.toInt ≤ 6 → y_pl (y_Nn le v) 10 = 1 → aOK s_P X (d + 4) a_m268 45 [some (.ref 155), some (.int node), some (.int n), some (.int mk), none, none, none, none, none, none, none, none, none, none, none, none, none, none, none, none] [.int (y_01 true)] G C S K0 := by
    intro G v e hv v10 n6 hpl
    refine w_go z_hl [] [269] 60 e.1 ?_
    refine ⟨fun _ => ?_, fun q => absurd q (by decide)⟩
    refine ⟨⟨by omega, by omega⟩, fun l hl len bb => ?_⟩
    obtain rfl := y_ai ((y_ae e rfl).trans n2) hl
    have hvc := y_cl1 hv
    have hm := bb _ (z_gd (0 : Int32) (show v < le.length by omega))
    intro H hH
    have e2 := y_st e hH (by repeat (first | exact w_nil | refine w_cons (Or.inl (y_m rfl)) ?_ | refine w_cons (Or.inr (by assumption)) ?_)) (by repeat (first | exact w_nil | refine w_cons (Or.inl (y_m rfl)) ?_ | refine w_cons (Or.inr (by assumption)) ?_))
    refine y_ntz (x := le.getD node.toNatClampNeg 0) (b := y_Nn le v) e2.1 (by rw [hvc]; unfold y_Nn; omega) (by unfold y_Nn; omega) hpl (fun r H2 e3 r0 r9 => ⟨fun n e => (by cases e), ?_⟩)
    exact T59 (y_sq e2 e3 rfl rfl) hv v10 n6 r0 r9
  have T45n : ∀ {G : aH}, y_fr h G [19584] [] → aOK s_P X (d + 4) a_m268 45 [some (.ref 155), some (.int node), some (.int n), some (.int mk), none, none, none, none, none, none, none, none, none, none, none, none, none, none, none, none] [.int (y_01 false)] G C S K0 := by
    intro G e
    refine w_go z_hl [] [] 60 e.1 ?_
    exact ⟨fun q => absurd q (by decide), fun _ => fun H hH => out (y_st e hH (by repeat (first | exact w_nil | refine w_cons (Or.inl (y_m rfl)) ?_ | refine w_cons (Or.inr (by assumption)) ?_)) (by repeat (first | exact w_nil | refine w_cons (Or.inl (y_m rfl)) ?_ | refine w_cons (Or.inr (by assumption)) ?_)))⟩
  have T35 : ∀ {G : aH} {v : Nat}, y_fr h G [19584] [] → node.toInt = v → v < 10 → n.toInt ≤ 6 → y_pl (y_Nn le v) 10 = 1 → aOK s_P X (d + 4) a_m268 35 [some (.ref 155), some (.int node), some (.int n), some (.int mk), none, none, none, none, none, none, none, none, none, none, none, none, none, none, none, none] [.int (y_01 true)] G C S K0 := by
    intro G v e hv v10 n6 hpl
    refine w_go z_hl [] [176] 60 e.1 ?_
    refine ⟨fun q => absurd q (by decide), fun _ => fun H hH => ?_⟩
    have e2 := y_st e hH (by repeat (first | exact w_nil | refine w_cons (Or.inl (y_m rfl)) ?_ | refine w_cons (Or.inr (by assumption)) ?_)) (by repeat (first | exact w_nil | refine w_cons (Or.inl (y_m rfl)) ?_ | refine w_cons (Or.inr (by assumption)) ?_))
    refine q_in e2.1 (fun H3 h3 _ _ => ⟨fun n e => (by cases e), ?_⟩) (fun H3 h3 _ => ⟨fun n e => (by cases e), ?_⟩)
    · exact T45 (y_sq e2 h3 rfl rfl) hv v10 n6 hpl
    · exact T45n (y_sq e2 h3 rfl rfl)
  have T35n : ∀ {G : aH}, y_fr h G [19584] [] → aOK s_P X (d + 4) a_m268 35 [some (.ref 155), some (.int node), some (.int n), some (.int mk), none, none, none, none, none, none, none, none, none, none, none, none, none, none, none, none] [.int (y_01 false)] G C S K0 := by
    intro G e
    refine w_go z_hl [] [] 60 e.1 ?_
    exact ⟨fun _ => fun H hH => out (y_st e hH (by repeat (first | exact w_nil | refine w_cons (Or.inl (y_m rfl)) ?_ | refine w_cons (Or.inr (by assumption)) ?_)) (by repeat (first | exact w_nil | refine w_cons (Or.inl (y_m rfl)) ?_ | refine w_cons (Or.inr (by assumption)) ?_))), fun q => absurd q (by decide)⟩
  have T22 : ∀ {G : aH} {v : Nat} {x : Int32}, y_fr h G [19584] [] → node.toInt = v → v < 10 → (y_bc x).toInt = (y_pl (y_Nn le v) 10 : Int) → aOK s_P X (d + 4) a_m268 22 [some (.ref 155), some (.int node), some (.int n), some (.int mk), none, none, none, none, none, none, none, none, none, none, none, none, none, none, none, none] [.int (y_bc x)] G C S K0 := by
    intro G v x e hv v10 hbc
    refine w_go z_hl [] [176] 60 e.1 ?_
    refine ⟨fun _ => fun H hH => out (y_st e hH (by repeat (first | exact w_nil | refine w_cons (Or.inl (y_m rfl)) ?_ | refine w_cons (Or.inr (by assumption)) ?_)) (by repeat (first | exact w_nil | refine w_cons (Or.inl (y_m rfl)) ?_ | refine w_cons (Or.inr (by assumption)) ?_))), fun q => fun H hH => ?_⟩
    have q2 : ¬ ((y_bc x).toInt ≠ (Int32.ofInt 1).toInt) := y_cif q
    rw [show (Int32.ofInt 1).toInt = 1 by decide] at q2
    have e2 := y_st e hH (by repeat (first | exact w_nil | refine w_cons (Or.inl (y_m rfl)) ?_ | refine w_cons (Or.inr (by assumption)) ?_)) (by repeat (first | exact w_nil | refine w_cons (Or.inl (y_m rfl)) ?_ | refine w_cons (Or.inr (by assumption)) ?_))
    refine q_in (v := n.toInt64) (lo := Int64.ofNat 1) (hi := Int64.ofInt 6) e2.1 (fun H3 h3 _ l2 => ⟨fun n e => (by cases e), ?_⟩) (fun H3 h3 _ => ⟨fun n e => (by cases e), ?_⟩)
    · rw [y_i2l, y_i64 (by decide) (by decide)] at l2
      exact T35 (y_sq e2 h3 rfl rfl) hv v10 l2 (by omega)
    · exact T35n (y_sq e2 h3 rfl rfl)
  have T10 : ∀ {G : aH} {v : Nat}, y_fr h G [19584] [] → node.toInt = v → v < 10 → aOK s_P X (d + 4) a_m268 10 [some (.ref 155), some (.int node), some (.int n), some (.int mk), none, none, none, none, none, none, none, none, none, none, none, none, none, none, none, none] [.int (y_01 true)] G C S K0 := by
    intro G v e hv v10
    refine w_go z_hl [] [15] 60 e.1 ?_
    refine ⟨fun q => absurd q (by decide), fun _ => ?_⟩
    refine ⟨⟨by omega, by omega⟩, fun l hl len bb => ?_⟩
    obtain rfl := y_ai ((y_ae e rfl).trans n2) hl
    have hvc := y_cl1 hv
    have hm := bb _ (z_gd (0 : Int32) (show v < le.length by omega))
    intro H hH
    have e2 := y_st e hH (by repeat (first | exact w_nil | refine w_cons (Or.inl (y_m rfl)) ?_ | refine w_cons (Or.inr (by assumption)) ?_)) (by repeat (first | exact w_nil | refine w_cons (Or.inl (y_m rfl)) ?_ | refine w_cons (Or.inr (by assumption)) ?_))
    refine y_bitCount e2.1 (fun H2 e3 => ⟨fun n e => (by cases e), ?_⟩)
    exact T22 (x := le.getD node.toNatClampNeg 0) (y_sq e2 (y_w0 e3) rfl rfl) hv v10 (y_bcN (by rw [hvc]; unfold y_Nn; omega) (by unfold y_Nn; omega))
  have T10n : ∀ {G : aH}, y_fr h G [19584] [] → aOK s_P X (d + 4) a_m268 10 [some (.ref 155), some (.int node), some (.int n), some (.int mk), none, none, none, none, none, none, none, none, none, none, none, none, none, none, none, none] [.int (y_01 false)] G C S K0 := by
    intro G e
    refine w_go z_hl [] [] 60 e.1 ?_
    exact ⟨fun _ => fun H hH => out (y_st e hH (by repeat (first | exact w_nil | refine w_cons (Or.inl (y_m rfl)) ?_ | refine w_cons (Or.inr (by assumption)) ?_)) (by repeat (first | exact w_nil | refine w_cons (Or.inl (y_m rfl)) ?_ | refine w_cons (Or.inr (by assumption)) ?_))), fun q => absurd q (by decide)⟩
  refine w_go z_hl [] [178] 30 hr ?_
  refine ⟨rfl, y_zini (by decide) (by decide), fun H1 h1 => ?_⟩
  have e1 : y_fr h H1 [19584] [] := y_st (y_mo (y_rf hr) rfl rfl) h1 (by repeat (first | exact w_nil | refine w_cons (Or.inl (y_m rfl)) ?_ | refine w_cons (Or.inr (by assumption)) ?_)) (by repeat (first | exact w_nil | refine w_cons (Or.inl (y_m rfl)) ?_ | refine w_cons (Or.inr (by assumption)) ?_))
  refine q_isNode (v := node) e1.1 ((y_fe e1 rfl).trans n1) (fun H2 v h2 hv hv2 hvc => ⟨fun n e => (by cases e), ?_⟩) (fun H2 h2 => ⟨fun n e => (by cases e), ?_⟩)
  · exact T10 (y_sq e1 h2 rfl rfl) hv (by omega)
  · exact T10n (y_sq e1 h2 rfl rfl)
end WG
