section PT33ic
/-! ===== v6: node, keep, again with prices (laid by wip/tools/mk6.py) ===== -/
section NSP
variable {X : aX} {C S d : Nat} {K0 : Option Value → aH → Nat → Nat → Prop}
theorem c_take6B {h : aH} (hr : w_hr z_D h) {leans deep nd dp : Int32} {pr : List Int32} (a7 : w_a h 7 = some (0, .inl pr)) (g1 : w_f h 128 = some (.int nd)) (g2 : w_f h 129 = some (.int dp)) (n0 : 0 ≤ nd.toInt) (n9 : nd.toInt ≤ 9) (l0 : 0 ≤ leans.toInt) (l1 : leans.toInt ≤ 1023) (hk : ∀ (H : aH), y_fr h H [128, 129, 143] [2, 3, 4, 5, 7] → w_f H 128 = some (.int (nd + Int32.ofInt 1)) → w_f H 129 = some (.int (dp * deep)) → w_a H 7 = some (0, .inl (pr.set nd.toNatClampNeg (Int32.ofInt 1))) → K0 (some (.int nd)) H C S) : aOK s_P X d a_m16 0 [some (.ref 3), some (.int leans), some (.int deep), none, none, none] [] h C S K0 := by
  have T75 : ∀ {G : aH} {c' o' : Int32}, y_fr h G [128, 129, 143] [2, 3, 4, 5, 7] → w_f G 128 = some (.int nd) → w_f G 129 = some (.int dp) → w_a G 7 = some (0, .inl (pr.set nd.toNatClampNeg (Int32.ofInt 1))) → 0 ≤ c'.toInt → c'.toInt ≤ 3 → aOK s_P X d a_m16 75 [some (.ref 3), some (.int leans), some (.int deep), some (.int nd), some (.int c'), some (.int o')] [] G C S K0 := by
    intro G c' o' e h1 h2 h7 c0 c3
    have inc : (nd + Int32.ofInt 1).toInt = nd.toInt + 1 := y_inc (by omega)
    have im := s_i32 (dp * deep)
    refine w_go z_hl [] [] 60 e.1 ?_
    refine ⟨⟨by omega, by omega⟩, ⟨by omega, by omega⟩, fun l hl len bb => ?_⟩
    intro x hx _ _
    obtain rfl := y_fi h2 hx
    refine ⟨rfl, y_zini (by show -2147483648 ≤ (dp * deep).toInt; omega) (by show (dp * deep).toInt ≤ 2147483647; omega), ?_⟩
    intro y hy _ _
    obtain rfl := y_fi h1 hy
    refine ⟨rfl, y_zini (by show 0 ≤ (nd + Int32.ofInt 1).toInt; omega) (by show (nd + Int32.ofInt 1).toInt ≤ 10; omega), ?_⟩
    refine ⟨rfl, y_zini (by decide) (by decide), fun H hH => ?_⟩
    have fG : y_fr G H [128, 129, 143] [3] := y_st (y_mo (y_rf e.1) rfl rfl) hH (by repeat (first | exact w_nil | refine w_cons (Or.inl (y_m rfl)) ?_ | refine w_cons (Or.inr (by assumption)) ?_)) (by repeat (first | exact w_nil | refine w_cons (Or.inl (y_m rfl)) ?_ | refine w_cons (Or.inr (by assumption)) ?_))
    exact hk H (y_st e hH (by repeat (first | exact w_nil | refine w_cons (Or.inl (y_m rfl)) ?_ | refine w_cons (Or.inr (by assumption)) ?_)) (by repeat (first | exact w_nil | refine w_cons (Or.inl (y_m rfl)) ?_ | refine w_cons (Or.inr (by assumption)) ?_))) (hH.2.1 128 _ rfl) (hH.2.1 129 _ rfl) ((y_ae fG rfl).trans h7)
  have ide := s_i32 deep
  refine w_go z_hl [32] [] 60 hr ?_
  intro x hx _ _
  obtain rfl := y_fi g1 hx
  refine ⟨⟨by omega, by omega⟩, ⟨by omega, by omega⟩, fun a1 _ _ _ => ⟨⟨by omega, by omega⟩, ⟨by omega, by omega⟩, fun a2 _ _ _ => ⟨⟨by omega, by omega⟩, ⟨by decide, by decide⟩, fun a3 h3 _ _ => fun H hH => ?_⟩⟩⟩
  obtain rfl := y_ai a7 h3
  have e : y_fr h H [] [2, 5, 7] := y_st (y_mo (y_rf hr) rfl rfl) hH (by repeat (first | exact w_nil | refine w_cons (Or.inl (y_m rfl)) ?_ | refine w_cons (Or.inr (by assumption)) ?_)) (by repeat (first | exact w_nil | refine w_cons (Or.inl (y_m rfl)) ?_ | refine w_cons (Or.inr (by assumption)) ?_))
  refine c_take_loop n0 n9 nd.toInt.toNat H _ _ e.1 (by decide) (by decide) (by decide) (by rw [show (Int32.ofInt 0).toInt = 0 by decide]; omega) (fun H' c' o' f x1 x2 => ?_)
  exact T75 (y_sq (y_mo e rfl rfl) f rfl rfl) ((y_fe f rfl).trans ((y_fe e rfl).trans g1)) ((y_fe f rfl).trans ((y_fe e rfl).trans g2)) ((y_ae f rfl).trans (hH.2.2.1 7 _ rfl)) x1 x2
theorem c_node6B {h : aH} (hr : w_hr z_D h) {leans deep nd dp : Int32} {pr : List Int32} (a7 : w_a h 7 = some (0, .inl pr)) (g1 : w_f h 128 = some (.int nd)) (g2 : w_f h 129 = some (.int dp)) (n0 : 0 ≤ nd.toInt) (n10 : nd.toInt ≤ 10) (d1 : 1 ≤ dp.toInt) (d8 : dp.toInt ≤ 100000000) (yes : n_nd leans deep nd dp → ∀ (H : aH), y_fr h H [128, 129, 143] [2, 3, 4, 5, 7] → w_f H 128 = some (.int (nd + Int32.ofInt 1)) → w_f H 129 = some (.int (dp * deep)) → w_a H 7 = some (0, .inl (pr.set nd.toNatClampNeg (Int32.ofInt 1))) → K0 (some (.int nd)) H C S) (no : ¬ n_nd leans deep nd dp → ∀ H, y_fr h H [] [] → K0 (some (.int (Int32.ofInt (-1)))) H C S) : aOK s_P X (d + 2) a_m12 0 [some (.ref 2), some (.int leans), some (.int deep)] [] h C S K0 := by
  have T23 : ∀ {G : aH}, n_nd leans deep nd dp → y_fr h G [128, 129, 143] [2, 3, 4, 5, 7] → w_f G 128 = some (.int (nd + Int32.ofInt 1)) → w_f G 129 = some (.int (dp * deep)) → w_a G 7 = some (0, .inl (pr.set nd.toNatClampNeg (Int32.ofInt 1))) → aOK s_P X (d + 2) a_m12 23 [some (.ref 2), some (.int leans), some (.int deep)] [.int nd] G C S K0 := by
    intro G v e h1 h2 h7
    refine w_go z_hl [] [] 30 e.1 ?_
    intro H hH
    have f : y_fr G H [] [] := y_st (y_rf e.1) hH (by repeat (first | exact w_nil | refine w_cons (Or.inl (y_m rfl)) ?_ | refine w_cons (Or.inr (by assumption)) ?_)) (by repeat (first | exact w_nil | refine w_cons (Or.inl (y_m rfl)) ?_ | refine w_cons (Or.inr (by assumption)) ?_))
    exact yes v H (y_sq e f rfl rfl) ((y_fe f rfl).trans h1) ((y_fe f rfl).trans h2) ((y_ae f rfl).trans h7)
  have T9 : ∀ {G : aH}, n_nd leans deep nd dp → y_fr h G [] [] → aOK s_P X (d + 2) a_m12 9 [some (.ref 2), some (.int leans), some (.int deep)] [.int (y_01 true)] G C S K0 := by
    intro G v e
    have wle : y_ways nd ≤ 1024 := (y_all n0 n10).2.2
    have v3 := v.2.2.1
    refine w_go z_hl [] [16] 30 e.1 ?_
    refine ⟨fun _ => fun H hH => ?_, fun q => absurd q (by decide)⟩
    have e2 := y_st e hH (by repeat (first | exact w_nil | refine w_cons (Or.inl (y_m rfl)) ?_ | refine w_cons (Or.inr (by assumption)) ?_)) (by repeat (first | exact w_nil | refine w_cons (Or.inl (y_m rfl)) ?_ | refine w_cons (Or.inr (by assumption)) ?_))
    refine c_take6B e2.1 ((y_ae e2 rfl).trans a7) ((y_fe e2 rfl).trans g1) ((y_fe e2 rfl).trans g2) n0 v.1 v.2.1 (by omega) (fun H2 f x1 x2 x7 => ⟨fun n e => (by cases e), ?_⟩)
    exact T23 v (y_sq (y_mo e2 rfl rfl) f rfl rfl) x1 x2 x7
  have T9n : ∀ {G : aH}, ¬ n_nd leans deep nd dp → y_fr h G [] [] → aOK s_P X (d + 2) a_m12 9 [some (.ref 2), some (.int leans), some (.int deep)] [.int (y_01 false)] G C S K0 := by
    intro G v e
    refine w_go z_hl [] [] 30 e.1 ?_
    exact ⟨fun q => absurd q (by decide), fun _ => fun H hH => no v H (y_st e hH (by repeat (first | exact w_nil | refine w_cons (Or.inl (y_m rfl)) ?_ | refine w_cons (Or.inr (by assumption)) ?_)) (by repeat (first | exact w_nil | refine w_cons (Or.inl (y_m rfl)) ?_ | refine w_cons (Or.inr (by assumption)) ?_)))⟩
  refine w_go z_hl [] [13] 30 hr ?_
  intro H hH
  have e := y_st (y_rf hr) hH (by repeat (first | exact w_nil | refine w_cons (Or.inl (y_m rfl)) ?_ | refine w_cons (Or.inr (by assumption)) ?_)) (by repeat (first | exact w_nil | refine w_cons (Or.inl (y_m rfl)) ?_ | refine w_cons (Or.inr (by assumption)) ?_))
  refine c_canTake (d := d) e.1 ((y_fe e rfl).trans g1) ((y_fe e rfl).trans g2) n0 n10 d1 d8 (fun v H2 h2 => ⟨fun n e => (by cases e), ?_⟩) (fun v H2 h2 => ⟨fun n e => (by cases e), ?_⟩)
  · exact T9 v (y_sq e h2 rfl rfl)
  · exact T9n v (y_sq e h2 rfl rfl)
theorem f_node6B {h : aH} (hr : w_hr z_D h) (hJ : y_J h) (hC : j_cost h) {leans deep X0 D0 : Int32} (g1 : w_f h 19591 = some (.int X0)) (g2 : w_f h 19600 = some (.long D0.toInt64)) (hk : ∀ (r : Int32) (H : aH), y_fr h H [19584, 19591, 19600] [156, 157, 159, 160, 161] → y_J H → j_cost H → (n_nd leans deep X0 D0 → r = X0 ∧ w_f H 19591 = some (.int (X0 + Int32.ofInt 1)) ∧ w_f H 19600 = some (.long (D0.toInt64 * deep.toInt64)) ∧ ∀ co, w_a h 161 = some (0, .inl co) → w_a H 161 = some (0, .inl (co.set X0.toNatClampNeg (Int32.ofInt 1)))) → (¬ n_nd leans deep X0 D0 → r = Int32.ofInt (-1) ∧ y_fr h H [19584] []) → K0 (some (.int r)) H C S) : aOK s_P X (d + 2) a_m173 0 [some (.ref 155), some (.int leans), some (.int deep), none] [] h C S K0 := by
  have hJ' := hJ
  obtain ⟨⟨nd, le, de, ta, n1, n2, n3, n4, c1, c2, c3, c4, c5⟩, ⟨nd', dp, de', d1, d2, d3, d4⟩, -⟩ := hJ'
  have e0 := d1.symm.trans n1
  cases e0
  have e0 : de = de' := by
    have := n3.symm.trans d3
    cases this
    rfl
  subst e0
  have hX : nd = X0 := y_fi n1 g1
  subst hX
  have hD0 : dp = D0.toInt64 := by
    have := d2.symm.trans g2
    injection this with this
    injection this
  obtain ⟨b1, b2⟩ := y_ndb hr n1
  obtain ⟨n, hn⟩ : ∃ n : Nat, nd.toInt = n := ⟨nd.toInt.toNat, by omega⟩
  have hnn : nd.toInt.toNat = n := by omega
  have hnc := (y_ofNat hn (by omega)).2
  refine w_go z_hl [] [174, 15, 176] 30 hr ?_
  refine ⟨rfl, y_zini (by decide) (by decide), ?_⟩
  intro H1 h1
  have e1 : y_fr h H1 [19584] [] := y_fr_rel h1 (w_cons (Or.inl (y_m rfl)) w_nil) w_nil
  have out : ∀ {G H : aH}, ¬ n_nd leans deep nd D0 → y_fr h G [19584] [] → w_rel z_D G [] [] H → K0 (some (.int (Int32.ofInt (-1)))) H C S := fun nv g1 g3 => by
    have g4 := y_fr_tr g1 (y_fr_rel g3 w_nil w_nil) (fun _ q => q) (fun _ q => q)
    exact hk _ _ (y_fr_mono g4 (fun x q => by rw [List.mem_singleton.mp q]; exact y_m rfl) (fun _ q => by cases q)) (y_J_fr g4 rfl rfl hJ) (j_cost_e g4 rfl rfl hC) (fun v => absurd v nv) (fun _ => ⟨rfl, g4⟩)
  refine y_isSet (v := leans) e1.1 ((y_fe e1 rfl).trans n1) b1 b2 (fun H2 h2 => ?_)
  refine ⟨fun n e => (by cases e), ?_⟩
  have e2 : y_fr h H2 [19584] [] := y_fr_tr e1 (y_fr_mono h2 (fun _ q => by cases q) (fun _ q => q)) (fun _ q => q) (fun _ q => q)
  cases hset : decide (0 ≤ leans.toInt ∧ leans.toInt < y_ways nd) with
  | false =>
    refine w_go z_hl [] [174, 15, 176] 30 h2.1 ?_
    refine ⟨fun q => ⟨fun q2 => ?_, fun q2 => absurd q2 (by decide)⟩, fun q => absurd q (by decide)⟩
    intro H3 h3
    exact out (fun v => of_decide_eq_false hset ⟨v.2.1, v.2.2.1⟩) e2 h3
  | true =>
    have hsv := of_decide_eq_true hset
    obtain ⟨-, l1, l2⟩ := y_all b1 b2
    obtain ⟨lb, hlb⟩ : ∃ lb : Nat, leans.toInt = lb := ⟨leans.toInt.toNat, by omega⟩
    refine w_go z_hl [] [174, 15, 176] 30 h2.1 ?_
    refine ⟨fun q => absurd q (by decide), fun q => ?_⟩
    intro H3 h3
    have e3 : y_fr h H3 [19584] [] := y_fr_tr e2 (y_fr_rel h3 w_nil w_nil) (fun _ q => q) (fun _ q => q)
    refine y_bitCount (x := leans) e3.1 (fun H4 h4 => ?_)
    refine ⟨fun n e => (by cases e), ?_⟩
    have e4 : y_fr h H4 [19584] [] := y_fr_tr e3 (y_fr_rel h4 w_nil w_nil) (fun _ q => q) (fun _ q => q)
    have hbc := y_bcN hlb (by omega)
    refine w_go z_hl [] [174, 15, 176] 30 e4.1 ?_
    refine ⟨fun q => ⟨fun q2 => ?_, fun q2 => absurd q2 (by decide)⟩, fun q => ?_⟩
    · intro H5 h5
      have z3 : (Int32.ofInt 3).toInt < (y_bc leans).toInt := (y_ci .gt _ _).mp q
      rw [show (Int32.ofInt 3).toInt = 3 by decide] at z3
      exact out (fun v => by have := v.2.2.2.1; omega) e4 h5
    · have h3b : ¬ ((Int32.ofInt 3).toInt < (y_bc leans).toInt) := y_cif q
      rw [show (Int32.ofInt 3).toInt = 3 by decide, hbc] at h3b
      intro H5 h5
      have e5 : y_fr h H5 [19584] [] := y_fr_tr e4 (y_fr_rel h5 w_nil w_nil) (fun _ q => q) (fun _ q => q)
      refine y_in h5.1 (fun H6 h6 => ?_)
      refine ⟨fun n e => (by cases e), ?_⟩
      have e6 : y_fr h H6 [19584] [] := y_fr_tr e5 (y_fr_rel h6 w_nil w_nil) (fun _ q => q) (fun _ q => q)
      cases hdp : decide ((Int64.ofNat 1).toInt ≤ deep.toInt64.toInt ∧ deep.toInt64.toInt ≤ (Int64.ofInt 10000000).toInt) with
      | false =>
        have go : aOK s_P X (d + 2) a_m173 30 [some (.ref 155), some (.int leans), some (.int deep), none] [.int (y_01 false)] H6 C S K0 := by
          refine w_go z_hl [] [174, 15, 176] 30 e6.1 ?_
          refine ⟨fun q => ⟨fun q2 => ?_, fun q2 => absurd q2 (by decide)⟩, fun q => absurd q (by decide)⟩
          intro H7 h7
          exact out (fun v => of_decide_eq_false hdp (by rw [y_i2l, y_i64 (by decide) (by decide), show (Int64.ofNat 1).toInt = 1 from rfl]; exact ⟨v.2.2.2.2.1, v.2.2.2.2.2.1⟩)) e6 h7
        rw [← hdp] at go
        exact go
      | true =>
        have hdv := of_decide_eq_true hdp
        rw [y_i2l, y_i64 (by decide) (by decide), show (Int64.ofNat 1).toInt = 1 from rfl] at hdv
        have n1' : w_f H6 19591 = some (.int nd) := (y_fe e6 rfl).trans n1
        have go : aOK s_P X (d + 2) a_m173 30 [some (.ref 155), some (.int leans), some (.int deep), none] [.int (y_01 true)] H6 C S K0 := by
          refine w_go z_hl [68] [174, 15, 176] 30 e6.1 ?_
          refine ⟨fun q => absurd q (by decide), fun q => ?_⟩
          intro x hx _ _
          have ex : x = nd := by
            have := hx.symm.trans n1'
            cases this
            rfl
          subst ex
          have fr7 : ∀ {H : aH} {hf : wF}, w_rel z_D H6 hf [] H → (∀ q ∈ hf, q.1 ∈ ([] : List Nat) ∨ w_f H6 q.1 = some q.2) → y_fr h H [19584] [] := fun g1 g2 => y_fr_tr e6 (y_fr_rel g1 g2 w_nil) (fun _ q => by cases q) (fun _ q => q)
          have out2 : ∀ {H : aH} {hf : wF}, ¬ n_nd leans deep x D0 → w_rel z_D H6 hf [] H → (∀ q ∈ hf, q.1 ∈ ([] : List Nat) ∨ w_f H6 q.1 = some q.2) → K0 (some (.int (Int32.ofInt (-1)))) H C S := fun nv g1 g2 => by
            have g4 := fr7 g1 g2
            exact hk _ _ (y_fr_mono g4 (fun x q => by rw [List.mem_singleton.mp q]; exact y_m rfl) (fun _ q => by cases q)) (y_J_fr g4 rfl rfl hJ) (j_cost_e g4 rfl rfl hC) (fun v => absurd v nv) (fun _ => ⟨rfl, g4⟩)
          refine ⟨fun q3 => ⟨fun q4 => fun H7 h7 => out2 (fun v => by have z : ((Int8.ofInt 10).toInt32).toInt ≤ x.toInt := (y_ci .ge _ _).mp q3; rw [show ((Int8.ofInt 10).toInt32).toInt = 10 by decide] at z; have := v.1; omega) h7 (w_cons (Or.inr n1') w_nil), fun q4 => absurd q4 (by decide)⟩, fun q3 => ⟨fun q4 => absurd q4 (by decide), fun q4 => ?_⟩⟩
          have hlt : ¬ (((Int8.ofInt 10).toInt32).toInt ≤ x.toInt) := y_cif q3
          rw [show ((Int8.ofInt 10).toInt32).toInt = 10 by decide] at hlt
          intro y hy by1 by2
          have d2' : w_f H6 19600 = some (.long dp) := (y_fe e6 rfl).trans d2
          have ey : y = dp := by
            have := hy.symm.trans d2'
            cases this
            rfl
          subst ey
          have hmul : (y * deep.toInt64).toInt = y.toInt * deep.toInt := by
            have p1 : 0 ≤ y.toInt * deep.toInt := Int.mul_nonneg (by omega) (by omega)
            have p2 : y.toInt * deep.toInt ≤ 100000000 * 10000000 := Int.mul_le_mul (by omega) (by omega) (by omega) (by decide)
            rw [y_mul (by rw [y_i2l]; omega) (by rw [y_i2l]; omega), y_i2l]
          refine ⟨fun q5 => ?_, fun q5 => fun H7 h7 => out2 (fun v => (y_clf q5 : ¬ ((y * deep.toInt64).toInt ≤ (Int64.ofInt 100000000).toInt)) (by rw [y_i64 (by decide) (by decide), hmul, hD0, y_i2l]; exact v.2.2.2.2.2.2)) h7 (w_cons (Or.inr d2') (w_cons (Or.inr n1') w_nil))⟩
          have hle8 : (y * deep.toInt64).toInt ≤ (Int64.ofInt 100000000).toInt := (y_cl .le _ _).mp q5
          rw [y_i64 (by decide) (by decide), hmul] at hle8
          have pos8 : 1 * 1 ≤ y.toInt * deep.toInt := Int.mul_le_mul by1 (by omega) (by decide) (by omega)
          intro H7 h7
          have e7 := fr7 h7 (w_cons (Or.inr d2') (w_cons (Or.inr n1') w_nil))
          have n7 : w_f H7 19591 = some (.int x) := (y_fe e7 rfl).trans n1
          have d7 : w_f H7 19600 = some (.long y) := (y_fe e7 rfl).trans d2
          refine w_go z_hl [] [] 80 e7.1 ?_
          intro z hz _ _
          have ez : z = x := by
            have := hz.symm.trans n7
            cases this
            rfl
          subst ez
          refine ⟨⟨by omega, by omega⟩, ⟨by omega, by omega⟩, fun a1 ha1 la1 ba1 => ?_⟩
          have q1 : a1 = le := by
            have := ha1.symm.trans ((y_ae e7 rfl).trans n2)
            cases this
            rfl
          subst q1
          refine ⟨⟨by omega, by omega⟩, ⟨by omega, by omega⟩, fun a2 ha2 la2 ba2 => ?_⟩
          have q1 : a2 = de := by
            have := ha2.symm.trans ((y_ae e7 rfl).trans n3)
            cases this
            rfl
          subst q1
          intro z2 hz2 _ _
          have ez : z2 = y := by
            have := hz2.symm.trans d7
            cases this
            rfl
          subst ez
          refine ⟨rfl, y_zin (by show 1 ≤ (z2 * deep.toInt64).toInt; omega) (by show (z2 * deep.toInt64).toInt ≤ 100000000; omega), ?_⟩
          refine ⟨⟨by omega, by omega⟩, by decide, fun a3 ha3 la3 ba3 => ?_⟩
          refine ⟨⟨by omega, by omega⟩, by decide, fun a4 ha4 la4 ba4 => ?_⟩
          refine ⟨⟨by omega, by omega⟩, by decide, fun a5 ha5 la5 ba5 => ?_⟩
          have hinc : (z + Int32.ofInt 1).toInt = z.toInt + 1 := y_inc (by omega)
          refine ⟨rfl, y_zini (by show 0 ≤ (z + Int32.ofInt 1).toInt; omega) (by show (z + Int32.ofInt 1).toInt ≤ 10; omega), ?_⟩
          intro H8 h8
          have f8 : y_fr H7 H8 [19584, 19591, 19600] [156, 157, 159, 160, 161] := y_fr_rel h8 (w_cons (Or.inl (y_m rfl)) (w_cons (Or.inl (y_m rfl)) (w_cons (Or.inl (y_m rfl)) (w_cons (Or.inl (y_m rfl)) w_nil)))) (w_cons (Or.inl (y_m rfl)) (w_cons (Or.inl (y_m rfl)) (w_cons (Or.inl (y_m rfl)) (w_cons (Or.inl (y_m rfl)) (w_cons (Or.inl (y_m rfl)) (w_cons (Or.inl (y_m rfl)) (w_cons (Or.inl (y_m rfl)) (w_cons (Or.inl (y_m rfl)) (w_cons (Or.inl (y_m rfl)) (w_cons (Or.inl (y_m rfl)) w_nil))))))))))
          have e8 : y_fr h H8 [19584, 19591, 19600] [156, 157, 159, 160, 161] := y_fr_tr (y_fr_mono e7 (fun x q => by rw [List.mem_singleton.mp q]; exact y_m rfl) (fun _ q => by cases q)) f8 (fun _ q => q) (fun _ q => q)
          have HC8 : j_cost H8 := by
            obtain ⟨ndc, co, kn', kc, x1, x2, x3, x4, x5, x6⟩ := hC
            have q1 := x1.symm.trans n1
            cases q1
            have q1 : a5 = co := by
              have := ha5.symm.trans ((y_ae e7 rfl).trans x2)
              cases this
              rfl
            subst q1
            have A5 : w_a H8 161 = some (0, .inl (a5.set z.toNatClampNeg (Int32.ofInt 1))) := h8.2.2.1 161 _ rfl
            refine ⟨_, _, kn', kc, h8.2.1 19591 _ rfl, A5, (y_ae e8 rfl).trans x3, (y_ae e8 rfl).trans x4, fun v hv => ?_, x6⟩
            have hv2 : (v : Int) < (z + Int32.ofInt 1).toInt := hv
            rw [hnc, y_Nset (by omega)]
            split
            · decide
            · exact x5 v (by omega)
          refine hk _ H8 e8 ?_ HC8 (fun _ => ⟨Int32.add_sub_cancel _ _, h8.2.1 19591 _ rfl, (by rw [← hD0]; exact h8.2.1 19600 _ rfl), fun co hco => (by obtain rfl := y_ai ((y_ae e7 rfl).trans hco) ha5; exact h8.2.2.1 161 _ rfl)⟩) (fun nv => absurd ⟨by omega, hsv.1, hsv.2, by rw [hbc]; omega, hdv.1, hdv.2, by have := hle8; rw [hD0, y_i2l] at this; exact this⟩ nv)
          obtain ⟨-, -, ⟨de2, to, kt, sn, sl, sh, o1, o2, o3, o4, o5, o6, o7, o8, o9⟩, ⟨nd2, wl, w1, w2, w3, w4, w5⟩, ⟨nd3, sm, so, sa, s1, s2, s3, s4, s5⟩, ⟨nd4, kn, km, ko, ks, k1, k2, k3, k4, k5, k6⟩, hland⟩ := hJ
          have q1 : a2 = de2 := by
            have := n3.symm.trans o1
            cases this
            rfl
          subst q1
          have q1 := w1.symm.trans n1
          cases q1
          have q1 := s1.symm.trans n1
          cases q1
          have q1 := k1.symm.trans n1
          cases q1
          have q1 : a4 = sa := by
            have := ha4.symm.trans ((y_ae e7 rfl).trans s4)
            cases this
            rfl
          subst q1
          have N8 : w_f H8 19591 = some (.int (z + Int32.ofInt 1)) := h8.2.1 19591 _ rfl
          have A1 : w_a H8 156 = some (0, .inl (a1.set z.toNatClampNeg leans)) := h8.2.2.1 156 _ rfl
          have A2 : w_a H8 157 = some (0, .inl (a2.set z.toNatClampNeg deep)) := h8.2.2.1 157 _ rfl
          have A4 : w_a H8 160 = some (0, .inl (a4.set z.toNatClampNeg (Int32.ofInt (-1)))) := h8.2.2.1 160 _ rfl
          have D8 : w_f H8 19600 = some (.long (z2 * deep.toInt64)) := h8.2.1 19600 _ rfl
          rw [hnc] at A1 A2 A4
          have tn : (z + Int32.ofInt 1).toInt.toNat = n + 1 := by omega
          have dset : ∀ i, y_N (a2.set n deep) i = if i = n then deep.toInt else y_N a2 i := fun i => y_Nset (by omega)
          have dn0 : y_N a2 n = 0 := c5 n (by omega)
          have dmono : ∀ i, y_N a2 i ≤ y_N (a2.set n deep) i := fun i => by
            rw [dset]
            split
            · rename_i e; rw [e, dn0]; omega
            · exact Int.le_refl _
          have epr : y_pr (y_N (a2.set n deep)) (n + 1) = z2.toInt * deep.toInt := by
            show y_pr (y_N (a2.set n deep)) n * y_N (a2.set n deep) n = _
            rw [y_pr_c (g := y_N a2) (fun v hv => by rw [dset, if_neg (by omega)]), dset, if_pos rfl, d4, hnn]
          have ways : y_ways z ≤ y_ways (z + Int32.ofInt 1) := by
            unfold y_ways
            exact Nat.pow_le_pow_right (by decide) (by omega)
          refine ⟨⟨_, _, _, ta, N8, A1, A2, (y_ae e8 rfl).trans n4, fun v hv => ?_, fun i hi => Int.le_trans (c2 i hi) (dmono _), fun v hv => ?_, ?_, fun v hv => ?_⟩, ⟨_, _, _, N8, D8, A2, ?_⟩, ⟨_, to, kt, sn, sl, sh, A2, (y_ae e8 rfl).trans o2, (y_ae e8 rfl).trans o3, (y_ae e8 rfl).trans o4, (y_ae e8 rfl).trans o5, (y_ae e8 rfl).trans o6, fun i hi => Int.le_trans (o7 i hi) (dmono _), fun i hi => Int.le_trans (o8 i hi) (dmono _), fun k hk6 => ⟨Int.le_trans (o9 k hk6).1 (dmono _), Int.le_trans (o9 k hk6).2 (dmono _)⟩⟩, ⟨_, wl, N8, (y_ae e8 rfl).trans w2, w3, w4, fun i hi => w5 i (Nat.le_trans ways hi)⟩, ⟨_, sm, so, _, N8, (y_fe e8 rfl).trans s2, (y_ae e8 rfl).trans s3, A4, ?_⟩, ⟨_, kn, km, ko, ks, N8, (y_ae e8 rfl).trans k2, (y_ae e8 rfl).trans k3, (y_ae e8 rfl).trans k4, (y_ae e8 rfl).trans k5, fun i hi => ⟨by have := (k6 i hi).1; omega, (k6 i hi).2⟩⟩, j_land_e (y_fe e8 rfl) (y_ae e8 rfl) hland⟩
          · rw [y_Nnset (by omega)]
            split
            · rename_i e
              subst e
              have hl2 : leans.toInt.toNat = lb := by omega
              rw [hl2]
              refine ⟨by omega, ?_⟩
              have : y_ways z = 2 ^ v := by unfold y_ways; rw [hnn]
              omega
            · exact c1 v hv
          · rw [dset]
            split
            · omega
            · exact c3 v (by omega)
          · rw [tn, epr]
            omega
          · rw [dset, if_neg (by omega)]
            exact c5 v (by omega)
          · rw [tn, epr, hmul]
          · rw [tn]
            rw [hnn] at s5
            obtain ⟨t1, t2, t3, t4⟩ := s5
            have aset : ∀ i, y_N (a4.set n (Int32.ofInt (-1))) i = if i = n then (Int32.ofInt (-1)).toInt else y_N a4 i := fun i => y_Nset (by omega)
            refine ⟨by omega, fun k hk' => ?_, t3, fun v hv hs => ?_⟩
            · obtain ⟨u1, u2, u3⟩ := t2 k hk'
              refine ⟨u1, by omega, ?_⟩
              rw [aset, if_neg (by omega)]
              exact u3
            · rw [aset] at hs
              split at hs
              · rw [show (Int32.ofInt (-1)).toInt = -1 by decide] at hs
                omega
              · exact t4 v (by omega) hs
        rw [← hdp] at go
        exact go
theorem f_keep6B {h : aH} (hr : w_hr z_D h) (hJ : y_J h) (hC : j_cost h) {iI : Int32} (hk : ∀ (r : Int32) (H : aH), y_fr h H [19584] [187, 188, 189, 190, 191, 192, 193, 194] → y_J H → j_cost H → (∀ l, w_a h 188 = some (2, .inl l) → w_a H 188 = some (2, .inl (if 0 ≤ iI.toInt ∧ iI.toInt ≤ 2 then l.set iI.toInt.toNat (Int32.ofInt 1) else l))) → (∀ kn, w_a h 187 = some (0, .inl kn) → ∀ nd, w_f h 19591 = some (.int nd) → w_a H 187 = some (0, .inl (if 0 ≤ iI.toInt ∧ iI.toInt ≤ 2 then kn.set iI.toInt.toNat nd else kn))) → (∀ co kc, w_a h 161 = some (0, .inl co) → w_a h 191 = some (0, .inl kc) → ∃ kc', w_a H 191 = some (0, .inl kc') ∧ (0 ≤ iI.toInt ∧ iI.toInt ≤ 2 → y_row iI.toInt.toNat 10 co kc kc') ∧ (¬ (0 ≤ iI.toInt ∧ iI.toInt ≤ 2) → kc' = kc)) → r = n_ke iI → K0 (some (.int r)) H C S) : aOK s_P X (d + 1) a_m279 0 [some (.ref 155), some (.int iI), none, none] [] h C S K0 := by
  have hJ' := hJ
  obtain ⟨q1, q2, q3, q4, q5, q6, q7⟩ := hJ'
  obtain ⟨nd, le, de, ta, n1, n2, n3, n4, c1, c2, c3, c4, c5⟩ := q1
  obtain ⟨nd', sm, so, sa, s1, s2, s3, s4, s5⟩ := q5
  obtain rfl := y_fi n1 s1
  obtain ⟨nd', kn, km, ko, ks, k1, k2, k3, k4, k5, k6⟩ := q6
  obtain rfl := y_fi n1 k1
  obtain ⟨de', to, kt, sn, sl, sh, o1, o2, o3, o4, o5, o6, o7, o8, o9⟩ := q3
  obtain rfl := y_ai n3 o1
  refine w_go z_hl [48] [176] 30 hr ?_
  refine ⟨rfl, y_zini (by decide) (by decide), fun H1 h1 => ?_⟩
  have e1 : y_fr h H1 [19584] [] := y_st (y_mo (y_rf hr) rfl rfl) h1 (by repeat (first | exact w_nil | refine w_cons (Or.inl (y_m rfl)) ?_ | refine w_cons (Or.inr (by assumption)) ?_)) (by repeat (first | exact w_nil | refine w_cons (Or.inl (y_m rfl)) ?_ | refine w_cons (Or.inr (by assumption)) ?_))
  refine q_in e1.1 (fun H2 h2 l1 l2 => ⟨fun n e => (by cases e), ?_⟩) (fun H2 h2 nl => ⟨fun n e => (by cases e), ?_⟩)
  · have l1 : 0 ≤ iI.toInt := by rw [y_i2l] at l1; exact l1
    have l2 : iI.toInt ≤ 2 := by rw [y_i2l] at l2; exact l2
    have lv : 0 ≤ iI.toInt ∧ iI.toInt ≤ 2 := ⟨l1, l2⟩
    obtain ⟨i, hi⟩ : ∃ i : Nat, iI.toInt = i := ⟨iI.toInt.toNat, by omega⟩
    have ci := y_cl1 hi
    have e2 := y_sq e1 h2 rfl rfl
    refine w_go z_hl [48] [176] 40 e2.1 ?_
    refine ⟨fun _ => ?_, fun q => absurd q (by decide)⟩
    refine ⟨⟨by omega, by omega⟩, by decide, fun l hl len bb => ?_⟩
    intro x hx b1 b2
    obtain rfl := y_fi ((y_fe e2 rfl).trans n1) hx
    refine ⟨⟨by omega, by omega⟩, ⟨by omega, by omega⟩, fun l2 hl2 len2 bb2 => ?_⟩
    obtain rfl := y_ai ((y_ae e2 rfl).trans k2) hl2
    intro y hy b3 b4
    obtain rfl := y_fi ((y_fe e2 rfl).trans s2) hy
    refine ⟨⟨by omega, by omega⟩, ⟨by omega, by omega⟩, fun l3 hl3 len3 bb3 => ?_⟩
    obtain rfl := y_ai ((y_ae e2 rfl).trans k3) hl3
    intro H3 h3
    have e3 : y_fr h H3 [19584] [187, 188, 193] := y_st (y_mo e2 rfl rfl) h3 (by repeat (first | exact w_nil | refine w_cons (Or.inl (y_m rfl)) ?_ | refine w_cons (Or.inr (by assumption)) ?_)) (by repeat (first | exact w_nil | refine w_cons (Or.inl (y_m rfl)) ?_ | refine w_cons (Or.inr (by assumption)) ?_))
    have A1 := h3.2.2.1 187 _ rfl
    have A2 := h3.2.2.1 193 _ rfl
    have A0 := h3.2.2.1 188 _ rfl
    obtain ⟨kf, z1, z2, -⟩ := w_arrI e3.1 (o := 189) (t := 0) (n := 30) (lo := -1) (hi := 1) (by decide) rfl
    obtain ⟨kc, z3, z4, -⟩ := w_arrI e3.1 (o := 191) (t := 0) (n := 30) (lo := 0) (hi := 99) (by decide) rfl
    obtain ⟨fo, z5, z6, -⟩ := w_arrI e3.1 (o := 159) (t := 0) (n := 10) (lo := -1) (hi := 1) (by decide) rfl
    obtain ⟨co, z7, z8, -⟩ := w_arrI e3.1 (o := 161) (t := 0) (n := 10) (lo := 0) (hi := 99) (by decide) rfl
    obtain ⟨ndc, co', knc, kcc, x1, x2, x3, x4, x5, x6⟩ := id hC
    obtain rfl := y_fi n1 x1
    obtain rfl := y_ai ((y_ae e3 rfl).trans x2) (w_a_at z7)
    obtain rfl := y_ai ((y_ae e3 rfl).trans x4) (w_a_at z3)
    obtain rfl := y_ai k2 x3
    refine y_keep_out (de := de) (ks0 := ks) (ko0 := ko) (kc0 := kcc) hi (by omega) c2 10 H3 _ 0 none kf ks kcc ko kt e3.1 (w_a_at z1) ((y_ae e3 rfl).trans k5) (w_a_at z3) ((y_ae e3 rfl).trans k4) ((y_ae e3 rfl).trans o3) ((y_ae e3 rfl).trans n4) (w_a_at z5) ((y_ae e3 rfl).trans s4) (w_a_at z7) ((y_ae e3 rfl).trans s3) rfl rfl o8 (fun j => by rw [if_neg (by omega)]) (fun j => by rw [if_neg (by omega)]) (fun j => by rw [if_neg (by omega)]) (fun H4 ks' ko' kt' kc' f1 f2 f3 f4 f5 f6 f7 f8 f9 => ?_)
    have e4 : y_fr h H4 [19584] [187, 188, 189, 190, 191, 192, 193, 194] := y_sq (y_mo e3 rfl rfl) f1 rfl rfl
    have HC4 : j_cost H4 := by
      refine ⟨nd, co', _, kc', (y_fe e4 rfl).trans n1, (y_ae e4 rfl).trans x2, (y_ae f1 rfl).trans A1, f8, x5, fun j v hj hv => ?_⟩
      rw [ci, y_Nnset (by omega)] at hv
      rw [f9]
      by_cases q : j = i
      · subst q
        rw [if_pos rfl] at hv
        rw [if_pos (by omega), show 10 * j + v - 10 * j = v by omega]
        exact x5 v (by omega)
      · rw [if_neg q] at hv
        have hb10 : y_Nn kn j ≤ 10 := by
          have := (k6 j hj).1
          unfold y_N at this
          unfold y_Nn
          omega
        rw [if_neg (by omega)]
        exact x6 j v hj hv
    have K188 : ∀ l0, w_a h 188 = some (2, .inl l0) → w_a H4 188 = some (2, .inl (if 0 ≤ iI.toInt ∧ iI.toInt ≤ 2 then l0.set iI.toInt.toNat (Int32.ofInt 1) else l0)) := by
      intro l0 hl0
      rw [if_pos lv]
      obtain rfl := y_ai ((y_ae e2 rfl).trans hl0) hl
      have := (y_ae f1 rfl).trans A0
      rw [ci] at this
      rw [show iI.toInt.toNat = i by omega]
      exact this
    have K187 : ∀ kn0, w_a h 187 = some (0, .inl kn0) → ∀ nd0, w_f h 19591 = some (.int nd0) → w_a H4 187 = some (0, .inl (if 0 ≤ iI.toInt ∧ iI.toInt ≤ 2 then kn0.set iI.toInt.toNat nd0 else kn0)) := by
      intro kn0 hkn0 nd0 hnd0
      rw [if_pos lv]
      obtain rfl := y_ai k2 hkn0
      obtain rfl := y_fi n1 hnd0
      have := (y_ae f1 rfl).trans A1
      rw [ci] at this
      rw [show iI.toInt.toNat = i by omega]
      exact this
    have K191 : ∀ co0 kc0', w_a h 161 = some (0, .inl co0) → w_a h 191 = some (0, .inl kc0') → ∃ kc1, w_a H4 191 = some (0, .inl kc1) ∧ (0 ≤ iI.toInt ∧ iI.toInt ≤ 2 → y_row iI.toInt.toNat 10 co0 kc0' kc1) ∧ (¬ (0 ≤ iI.toInt ∧ iI.toInt ≤ 2) → kc1 = kc0') := by
      intro co0 kc0' h1 h2
      obtain rfl := y_ai x2 h1
      obtain rfl := y_ai x4 h2
      refine ⟨kc', f8, fun _ => ?_, fun n => absurd lv n⟩
      rw [show iI.toInt.toNat = i by omega]
      exact f9
    refine hk _ _ e4 ⟨⟨nd, le, de, ta, (y_fe e4 rfl).trans n1, (y_ae e4 rfl).trans n2, (y_ae e4 rfl).trans n3, (y_ae e4 rfl).trans n4, c1, c2, c3, c4, c5⟩, j_dp_e (y_fe e4 rfl) (y_fe e4 rfl) (y_ae e4 rfl) q2, ⟨de, to, kt', sn, sl, sh, (y_ae e4 rfl).trans n3, (y_ae e4 rfl).trans o2, f4, (y_ae e4 rfl).trans o4, (y_ae e4 rfl).trans o5, (y_ae e4 rfl).trans o6, o7, f5, o9⟩, j_w_e (y_fe e4 rfl) (y_ae e4 rfl) q4, ⟨nd, sm, so, sa, (y_fe e4 rfl).trans n1, (y_fe e4 rfl).trans s2, (y_ae e4 rfl).trans s3, (y_ae e4 rfl).trans s4, s5⟩, ⟨nd, _, _, ko', ks', (y_fe e4 rfl).trans n1, (y_ae f1 rfl).trans A1, (y_ae f1 rfl).trans A2, f3, f2, fun j hj => ?_⟩, j_land_e (y_fe e4 rfl) (y_ae e4 rfl) q7⟩ HC4 K188 K187 K191 (by unfold n_ke; rw [if_pos lv])
    rw [ci]
    have en : y_Nn (kn.set i nd) j = if j = i then nd.toInt.toNat else y_Nn kn j := y_Nnset (by omega)
    have en2 : y_N (kn.set i nd) j = if j = i then nd.toInt else y_N kn j := y_Nset (by omega)
    have em : y_Nn (km.set i sm) j = if j = i then sm.toInt.toNat else y_Nn km j := y_Nnset (by omega)
    rw [en, en2, em]
    by_cases q : j = i
    · subst q
      rw [if_pos rfl, if_pos rfl, if_pos rfl]
      refine ⟨Int.le_refl _, y_ord_c s5 (fun k hk' => ?_) (fun k hk' => ?_)⟩
      · rw [f7, if_pos (by omega), show 10 * j + k - 10 * j = k by omega]
      · rw [f6, if_pos (by omega), show 10 * j + k - 10 * j = k by omega]
    · rw [if_neg q, if_neg q, if_neg q]
      have kj := k6 j hj
      have hb10 : y_Nn kn j ≤ 10 := by
        unfold y_Nn
        have := kj.1
        unfold y_N at this
        omega
      refine ⟨kj.1, y_ord_c kj.2 (fun k hk' => ?_) (fun k hk' => ?_)⟩
      · rw [f7, if_neg (by omega)]
      · rw [f6, if_neg (by omega)]
  · refine w_go z_hl [48] [176] 30 h2.1 ?_
    refine ⟨fun q => absurd q (by decide), fun _ => ⟨by decide, fun H3 h3 => ?_⟩⟩
    have g := y_st (y_sq e1 h2 rfl rfl) h3 (by repeat (first | exact w_nil | refine w_cons (Or.inl (y_m rfl)) ?_ | refine w_cons (Or.inr (by assumption)) ?_)) (by repeat (first | exact w_nil | refine w_cons (Or.inl (y_m rfl)) ?_ | refine w_cons (Or.inr (by assumption)) ?_))
    exact hk _ _ (y_mo g rfl rfl) (y_J_fr g rfl rfl hJ) (j_cost_e g rfl rfl hC) (fun l0 hl0 => (by rw [if_neg (fun q => nl (by rw [y_i2l]; exact q.1) (by rw [y_i2l]; exact q.2))]; exact (y_ae g rfl).trans hl0)) (fun kn0 hkn0 nd0 _ => (by rw [if_neg (fun q => nl (by rw [y_i2l]; exact q.1) (by rw [y_i2l]; exact q.2))]; exact (y_ae g rfl).trans hkn0)) (fun co0 kc0 h1 h2 => ⟨kc0, (y_ae g rfl).trans h2, fun q => absurd q (fun q => nl (by rw [y_i2l]; exact q.1) (by rw [y_i2l]; exact q.2)), fun _ => rfl⟩) (by unfold n_ke; rw [if_neg (fun q => nl (by rw [y_i2l]; exact q.1) (by rw [y_i2l]; exact q.2))])
theorem f_again6B {h : aH} (hr : w_hr z_D h) (hJ : y_J h) (hC : j_cost h) {iI j0 j1 j2 : Int32} (g0 : w_a h 188 = some (2, .inl [j0, j1, j2])) (hk : ∀ (r : Int32) (H : aH), y_fr h H [19584, 19598] [158, 159, 160, 161, 162] → y_J H → j_cost H → (∀ co kn kc, w_a h 161 = some (0, .inl co) → w_a h 187 = some (0, .inl kn) → w_a h 191 = some (0, .inl kc) → ∃ co', w_a H 161 = some (0, .inl co') ∧ (n_agVB iI j0 j1 j2 → ∀ u, y_N co' u = if u < y_Nn kn iI.toInt.toNat then y_N kc (10 * iI.toInt.toNat + u) else y_N co u) ∧ (¬ n_agVB iI j0 j1 j2 → co' = co)) → r = n_agB iI j0 j1 j2 → K0 (some (.int r)) H C S) : aOK s_P X (d + 1) a_m280 0 [some (.ref 155), some (.int iI), none, none, none] [] h C S K0 := by
  have hJ' := hJ
  obtain ⟨q1, q2, q3, q4, q5, q6, q7⟩ := hJ'
  obtain ⟨nd, le, de, ta, n1, n2, n3, n4, c1, c2, c3, c4, c5⟩ := q1
  obtain ⟨nd', sm, so, sa, s1, s2, s3, s4, s5⟩ := q5
  obtain rfl := y_fi n1 s1
  obtain ⟨nd', kn, km, ko, ks, k1, k2, k3, k4, k5, k6⟩ := id q6
  obtain rfl := y_fi n1 k1
  obtain ⟨de', to, kt, sn, sl, sh, o1, o2, o3, o4, o5, o6, o7, o8, o9⟩ := id q3
  obtain rfl := y_ai n3 o1
  obtain ⟨b1, b2⟩ := y_ndb hr n1
  refine w_go z_hl [40] [176] 30 hr ?_
  refine ⟨rfl, y_zini (by decide) (by decide), fun H1 h1 => ?_⟩
  have e1 : y_fr h H1 [19584] [] := y_st (y_mo (y_rf hr) rfl rfl) h1 (by repeat (first | exact w_nil | refine w_cons (Or.inl (y_m rfl)) ?_ | refine w_cons (Or.inr (by assumption)) ?_)) (by repeat (first | exact w_nil | refine w_cons (Or.inl (y_m rfl)) ?_ | refine w_cons (Or.inr (by assumption)) ?_))
  have out : ∀ {G : aH}, ¬ n_agVB iI j0 j1 j2 → y_fr h G [19584] [] → K0 (some (.int (Int32.ofInt 0))) G C S := fun nv g => hk _ _ (y_mo g rfl rfl) (y_J_fr g rfl rfl hJ) (j_cost_e g rfl rfl hC) (fun co kn kc h1 _ _ => ⟨co, (y_ae g rfl).trans h1, fun q => absurd q nv, fun _ => rfl⟩) (by unfold n_agB; rw [if_neg nv])
  refine q_in e1.1 (fun H2 h2 l1 l2 => ⟨fun n e => (by cases e), ?_⟩) (fun H2 h2 nl => ⟨fun n e => (by cases e), ?_⟩)
  · have l1 : 0 ≤ iI.toInt := by rw [y_i2l] at l1; exact l1
    have l2 : iI.toInt ≤ 2 := by rw [y_i2l] at l2; exact l2
    obtain ⟨i, hi⟩ : ∃ i : Nat, iI.toInt = i := ⟨iI.toInt.toNat, by omega⟩
    have ci := y_cl1 hi
    have e2 := y_sq e1 h2 rfl rfl
    refine w_go z_hl [40] [176] 40 e2.1 ?_
    refine ⟨fun q => absurd q (by decide), fun _ => ?_⟩
    refine ⟨⟨by omega, by omega⟩, fun l hl len bb => ?_⟩
    obtain rfl := y_ai ((y_ae e2 rfl).trans g0) hl
    have hix : iI.toNatClampNeg = iI.toInt.toNat := rfl
    refine ⟨fun qz => ?_, fun qz => ⟨by decide, fun H3 h3 => out (fun v => (y_cif qz) v.2.2) (y_st e2 h3 (by repeat (first | exact w_nil | refine w_cons (Or.inl (y_m rfl)) ?_ | refine w_cons (Or.inr (by assumption)) ?_)) (by repeat (first | exact w_nil | refine w_cons (Or.inl (y_m rfl)) ?_ | refine w_cons (Or.inr (by assumption)) ?_)))⟩⟩
    have hv : n_agVB iI j0 j1 j2 := ⟨l1, l2, (y_ci .ne _ _).mp qz⟩
    refine ⟨⟨by omega, by omega⟩, fun l2 hl2 len2 bb2 => ?_⟩
    obtain rfl := y_ai ((y_ae e2 rfl).trans k3) hl2
    have hm := bb2 _ (z_gd (0 : Int32) (show iI.toNatClampNeg < km.length by omega))
    refine ⟨rfl, y_zini hm.1 hm.2, ?_⟩
    intro H3 h3
    have e3 : y_fr h H3 [19584, 19598] [] := y_st (y_mo e2 rfl rfl) h3 (by repeat (first | exact w_nil | refine w_cons (Or.inl (y_m rfl)) ?_ | refine w_cons (Or.inr (by assumption)) ?_)) (by repeat (first | exact w_nil | refine w_cons (Or.inl (y_m rfl)) ?_ | refine w_cons (Or.inr (by assumption)) ?_))
    have F := h3.2.1 19598 _ rfl
    obtain ⟨kf, z1, z2, -⟩ := w_arrI e3.1 (o := 189) (t := 0) (n := 30) (lo := -1) (hi := 1) (by decide) rfl
    obtain ⟨kc, z3, z4, -⟩ := w_arrI e3.1 (o := 191) (t := 0) (n := 30) (lo := 0) (hi := 99) (by decide) rfl
    obtain ⟨fo, z5, z6, -⟩ := w_arrI e3.1 (o := 159) (t := 0) (n := 10) (lo := -1) (hi := 1) (by decide) rfl
    obtain ⟨co, z7, z8, -⟩ := w_arrI e3.1 (o := 161) (t := 0) (n := 10) (lo := 0) (hi := 99) (by decide) rfl
    obtain ⟨kn', z9, z10, z11⟩ := w_arrI e3.1 (o := 187) (t := 0) (n := 3) (lo := 0) (hi := 10) (by decide) rfl
    obtain rfl := y_ai ((y_ae e3 rfl).trans k2) (w_a_at z9)
    have pn : y_N kn i = y_Nn kn i := by
      have := z11 _ (z_gd (0 : Int32) (show i < kn.length by omega))
      unfold y_N y_Nn
      omega
    obtain ⟨ndc, co', knc, kcc, x1, x2, x3, x4, x5, x6⟩ := id hC
    obtain rfl := y_fi n1 x1
    obtain rfl := y_ai ((y_ae e3 rfl).trans x2) (w_a_at z7)
    obtain rfl := y_ai ((y_ae e3 rfl).trans x4) (w_a_at z3)
    obtain rfl := y_ai k2 x3
    refine f_again_out (co0 := co') (de := de) (ks := ks) (ko := ko) (fun v hv => x6 i v (by omega) hv) hi (by omega) o8 b1 b2 pn nd.toInt.toNat H3 _ 0 none none fo sa co' so ta e3.1 ((y_fe e3 rfl).trans n1) ((y_ae e3 rfl).trans k2) (w_a_at z1) ((y_ae e3 rfl).trans k5) (w_a_at z3) ((y_ae e3 rfl).trans k4) ((y_ae e3 rfl).trans o3) ((y_ae e3 rfl).trans n4) (w_a_at z5) ((y_ae e3 rfl).trans s4) (w_a_at z7) ((y_ae e3 rfl).trans s3) rfl (by omega) c2 (fun u hu => absurd hu (by omega)) x5 (fun u => by rw [if_neg (by omega)]) (fun H4 sa' so' ta' co'' w1 w2 w3 f1 f2 f3 f4 f5 f6 => ?_)
    have e4 : y_fr h H4 [19584, 19598] [158, 159, 160, 161, 162] := y_sq (y_mo e3 rfl rfl) f1 rfl rfl
    refine hk _ _ e4 ⟨⟨nd, le, de, ta', (y_fe e4 rfl).trans n1, (y_ae e4 rfl).trans n2, (y_ae e4 rfl).trans n3, f4, c1, f5, c3, c4, c5⟩, j_dp_e (y_fe e4 rfl) (y_fe e4 rfl) (y_ae e4 rfl) q2, j_old_e (y_ae e4 rfl) (y_ae e4 rfl) (y_ae e4 rfl) (y_ae e4 rfl) (y_ae e4 rfl) (y_ae e4 rfl) q3, j_w_e (y_fe e4 rfl) (y_ae e4 rfl) q4, ⟨nd, _, so', sa', (y_fe e4 rfl).trans n1, (y_fe f1 rfl).trans F, f3, f2, ?_⟩, j_kept_e (y_fe e4 rfl) (y_ae e4 rfl) (y_ae e4 rfl) (y_ae e4 rfl) (y_ae e4 rfl) q6, j_land_e (y_fe e4 rfl) (y_ae e4 rfl) q7⟩ ⟨nd, co'', kn, kcc, (y_fe e4 rfl).trans n1, w1, (y_ae e4 rfl).trans k2, (y_ae e4 rfl).trans x4, w2, x6⟩ (fun co1 kn1 kc1 y1 y2 y3 => ?_) (by unfold n_agB; rw [if_pos hv])
    rotate_left
    · obtain rfl := y_ai x2 y1
      obtain rfl := y_ai k2 y2
      obtain rfl := y_ai x4 y3
      refine ⟨co'', w1, fun _ u => ?_, fun n => absurd hv n⟩
      have z := w3 u
      have kj := (k6 i (by omega)).1
      rw [show iI.toInt.toNat = i by omega]
      by_cases q : u < y_Nn kn i
      · rw [if_pos ⟨by omega, q⟩] at z
        rw [if_pos q]
        exact z
      · rw [if_neg (fun w => q w.2)] at z
        rw [if_neg q]
        exact z
    rw [ci]
    have kj := k6 i (by omega)
    refine y_ord_x (p := y_Nn kn i) kj.2 (by have := kj.1; omega) (fun k hk' => (f6 k hk').2) (fun k hk' => (f6 k hk').1)
  · refine w_go z_hl [40] [176] 30 h2.1 ?_
    refine ⟨fun _ => ⟨by decide, fun H3 h3 => ?_⟩, fun q => absurd q (by decide)⟩
    exact out (fun v => nl (by rw [y_i2l]; exact v.1) (by rw [y_i2l]; exact v.2.1)) (y_st (y_sq e1 h2 rfl rfl) h3 (by repeat (first | exact w_nil | refine w_cons (Or.inl (y_m rfl)) ?_ | refine w_cons (Or.inr (by assumption)) ?_)) (by repeat (first | exact w_nil | refine w_cons (Or.inl (y_m rfl)) ?_ | refine w_cons (Or.inr (by assumption)) ?_)))
end NSP
end PT33ic
section PT33id
/-! ===== v6: pairs with prices (laid by wip/tools/mk33t.py) ===== -/
def n_kpB (s : Nat) (v : Nat → Int32) : Nat → Int32 := fun k => if k = 17408 + 512 * s then Int32.ofInt 1 else if k = 17409 + 512 * s then v 128 else if 710000 + 100 * s ≤ k ∧ k < 710000 + 100 * s + 10 then v (700000 + (k - (710000 + 100 * s))) else v k
def n_anB (s : Nat) (v : Nat → Int32) : Nat → Int32 := fun k => if 700000 ≤ k ∧ k < 700010 ∧ ((k - 700000 : Nat) : Int) < (v (17409 + 512 * s)).toInt then v (710000 + 100 * s + (k - 700000)) else v k
def n_s12B (us : List Int32) (v : Nat → Int32) : (Nat → Int32) × Int32 := match us with
  | [a, b] => if n_nd a b (v 128) (v 129) then (n_upB (n_upB (n_upB v 128 (v 128 + Int32.ofInt 1)) 129 (v 129 * b)) (700000 + (v 128).toInt.toNat) (Int32.ofInt 1), v 128) else (v, Int32.ofInt (-1))
  | _ => (v, 0)
def n_s57B (us : List Int32) (v : Nat → Int32) : (Nat → Int32) × Int32 := match us with
  | [a, b] => if n_coV a b (v 128) then (n_upB v (700000 + a.toInt.toNat) b, v (700000 + a.toInt.toNat)) else (v, Int32.ofInt (-1))
  | _ => (v, 0)
def n_s163B (us : List Int32) (v : Nat → Int32) : (Nat → Int32) × Int32 := match us with
  | [a] => if 0 ≤ a.toInt ∧ a.toInt ≤ 2 then (n_kpB a.toInt.toNat v, Int32.ofInt 1) else (v, Int32.ofInt 0)
  | _ => (v, 0)
def n_s165B (us : List Int32) (v : Nat → Int32) : (Nat → Int32) × Int32 := match us with
  | [a] => if n_agVB a (v 17408) (v 17920) (v 18432) then (n_anB a.toInt.toNat v, Int32.ofInt 1) else (v, Int32.ofInt 0)
  | _ => (v, 0)
section NPS
variable {X : aX} {h H : aH} {v v' : Nat → Int32}
theorem n_l7_lenB : (n_l7B v).length = 10 := by
  unfold n_l7B
  rw [List.length_map, List.length_range]
theorem n_l7_atB {i : Nat} (hi : i < 10) : (n_l7B v).getD i 0 = v (700000 + i) := by
  unfold n_l7B
  rw [List.getD_eq_getElem?_getD, List.getElem?_map, List.getElem?_range hi]
  rfl
theorem n_l7_xB {l : List Int32} (hl : l.length = 10) (ha : ∀ i, i < 10 → l.getD i 0 = v (700000 + i)) : l = n_l7B v := by
  apply List.ext_getElem
  · rw [hl, n_l7_lenB]
  · intro i h1 h2
    have h3 := ha i (by omega)
    have h4 := n_l7_atB (v := v) (i := i) (by omega)
    rw [List.getD_eq_getElem?_getD, List.getElem?_eq_getElem h1] at h3
    rw [List.getD_eq_getElem?_getD, List.getElem?_eq_getElem h2] at h4
    exact h3.trans h4.symm
theorem n_l7_kB (hk : ∀ i, i < 10 → v' (700000 + i) = v (700000 + i)) : n_l7B v' = n_l7B v := n_l7_xB n_l7_lenB (fun i hi => by rw [n_l7_atB hi, hk i hi])
theorem n_l7_setB {j : Nat} {x : Int32} (hj : j < 10) : (n_l7B v).set j x = n_l7B (n_upB v (700000 + j) x) := by
  refine n_l7_xB (by rw [List.length_set, n_l7_lenB]) (fun i hi => ?_)
  rw [List.getD_eq_getElem?_getD, List.getElem?_set, n_l7_lenB]
  unfold n_upB
  by_cases e : j = i
  · subst e
    rw [if_pos rfl, if_pos hj, if_pos rfl]
    rfl
  · rw [if_neg e, if_neg (by omega), ← n_l7_atB (v := v) hi, List.getD_eq_getElem?_getD]
theorem n_cQ_kB {s ob : Nat} (h1 : v' (17409 + 512 * s) = v (17409 + 512 * s)) (h2 : ∀ j, j < 10 → v' (710000 + 100 * s + j) = v (710000 + 100 * s + j)) (q : n_cQB h v s ob) : n_cQB h v' s ob := by
  obtain ⟨kp, q1, q2, q3⟩ := q
  refine ⟨kp, q1, q2, fun j h10 hj => ?_⟩
  rw [h1] at hj
  rw [h2 j h10]
  exact q3 j h10 hj
theorem n_mQ_kB (h1 : ∀ s, s < 3 → v' (17409 + 512 * s) = v (17409 + 512 * s)) (h2 : ∀ s, s < 3 → ∀ j, j < 10 → v' (710000 + 100 * s + j) = v (710000 + 100 * s + j)) (q : n_mQB h v) : n_mQB h v' := by
  obtain ⟨kc, q1, q2, q3⟩ := q
  refine ⟨kc, q1, q2, fun s hs j h10 hj => ?_⟩
  rw [h1 s hs] at hj
  rw [h2 s hs j h10]
  exact q3 s hs j h10 hj
theorem n_upoB {k k' : Nat} {x : Int32} (hk : k' ≠ k) : n_upB v k x k' = v k' := if_neg hk
theorem n_kpoB {s k : Nat} (h1 : k ≠ 17408 + 512 * s) (h2 : k ≠ 17409 + 512 * s) (h3 : ¬ (710000 + 100 * s ≤ k ∧ k < 710000 + 100 * s + 10)) : n_kpB s v k = v k := by
  unfold n_kpB
  rw [if_neg h1, if_neg h2, if_neg h3]
theorem n_anoB {s k : Nat} (h1 : ¬ (700000 ≤ k ∧ k < 700010)) : n_anB s v k = v k := by
  unfold n_anB
  rw [if_neg (fun w => h1 ⟨w.1, w.2.1⟩)]
/-- the class's fields and rows behind a change of rows -/
theorem n_cV_xB (hf : ∀ k ∈ nCB, w_f H k = some (.int (v' k))) (h7 : w_a H 7 = some (0, .inl (n_l7B v'))) (q0 : n_cQB H v' 0 139) (q1 : n_cQB H v' 1 143) (q2 : n_cQB H v' 2 147) : n_cVB H v' := ⟨hf, h7, q0, q1, q2⟩
theorem n_nCbB {k : Nat} (hk : k ∈ nCB) : k < 20000 := by
  have : ∀ k ∈ nCB, k < 20000 := by decide
  exact this k hk
theorem n_nMbB {p : Nat × Nat} (hp : p ∈ nMB) : p.1 < 17408 ∧ p.2 < 20000 := by
  have : ∀ p ∈ nMB, p.1 < 17408 ∧ p.2 < 20000 := by decide
  exact this p hp
theorem n_c12B : n_pcB X a_m12 2 false n_s12B := by
  intro us h v C S K0 hl _ hI hc hm hk
  match us, hl with
  | [a, b], _ =>
    have f0 := hc.1 128 (by decide)
    have f1 := hc.1 129 (by decide)
    have b0 := n_bdB (lo := 0) (hi := 10) hI.1 f0 rfl
    have b1 := n_dpsB hI.1 hm
    refine c_node6B (d := 198) hI.1 hc.2.1 f0 f1 b0.1 b0.2 b1.1 b1.2 (fun q H e x1 x2 x7 => ?_) (fun q H e => ?_)
    · rw [show n_s12B [a, b] v = (n_upB (n_upB (n_upB v 128 (v 128 + Int32.ofInt 1)) 129 (v 129 * b)) (700000 + (v 128).toInt.toNat) (Int32.ofInt 1), v 128) from if_pos q] at hk
      dsimp only at hk
      have q1 := q.1
      refine hk H ⟨e.1, y_jfr y_JA_x e rfl rfl hI.2.1, t_day_frcB e rfl hI.2.2⟩ (n_cV_xB (fun k hk' => ?_) ?_ ?_ ?_ ?_) (n_mS_VB (n_fm_okB e rfl) hm)
      · have hb := n_nCbB hk'
        rw [n_upoB (by omega)]
        by_cases e1 : k = 129
        · subst e1
          exact x2
        · rw [n_upoB e1]
          by_cases e2 : k = 128
          · subst e2
            exact x1
          · rw [n_upoB e2]
            refine (e.2.1 k (fun w => ?_)).trans (hc.1 k hk')
            have z : nCB.all (fun k => decide (k ≠ 143)) = true := rfl
            have z := of_decide_eq_true (List.all_eq_true.mp z k hk')
            simp only [List.mem_cons, List.not_mem_nil, or_false] at w
            omega
      · rw [x7, show (v 128).toNatClampNeg = (v 128).toInt.toNat from rfl, ← n_l7_setB (by omega), n_l7_kB (v' := n_upB (n_upB v 128 (v 128 + Int32.ofInt 1)) 129 (v 129 * b)) (v := v) (fun i _ => by rw [n_upoB (by omega), n_upoB (by omega)])]
      · exact n_cQ_SB (e.2.2 _ (by decide)) (n_cQ_kB (by rw [n_upoB (by omega), n_upoB (by omega), n_upoB (by omega)]) (fun j _ => by rw [n_upoB (by omega), n_upoB (by omega), n_upoB (by omega)]) hc.2.2.1)
      · exact n_cQ_SB (e.2.2 _ (by decide)) (n_cQ_kB (by rw [n_upoB (by omega), n_upoB (by omega), n_upoB (by omega)]) (fun j _ => by rw [n_upoB (by omega), n_upoB (by omega), n_upoB (by omega)]) hc.2.2.2.1)
      · exact n_cQ_SB (e.2.2 _ (by decide)) (n_cQ_kB (by rw [n_upoB (by omega), n_upoB (by omega), n_upoB (by omega)]) (fun j _ => by rw [n_upoB (by omega), n_upoB (by omega), n_upoB (by omega)]) hc.2.2.2.2)
    · rw [show n_s12B [a, b] v = (v, Int32.ofInt (-1)) from if_neg q] at hk
      dsimp only at hk
      exact hk H ⟨e.1, y_jfr y_JA_x e rfl rfl hI.2.1, t_day_frcB e rfl hI.2.2⟩ (n_cS_VB (n_fk_cB (ex := []) e rfl) hc) (n_mS_VB (n_fm_okB e rfl) hm)
theorem n_r173B : n_prB X a_m173 2 false n_s12B := by
  intro us h w v C S K0 hl _ hI hc hm hk
  match us, hl with
  | [a, b], _ =>
    have b1 := n_dpsB hI.1 hm
    have g0 := hm.1 (128, 19591) (by decide)
    have b0 := n_bdB (lo := 0) (hi := 10) hI.1 g0 rfl
    refine f_node6B (d := 198) hI.1 hI.2.1.1 hI.2.1.2.2 g0 hm.2.2 (fun r H e qJ qC y n => ?_)
    have tI : t_I H := ⟨e.1, ⟨qJ, j_say_e e rfl rfl hI.2.1.2.1, qC⟩, t_day_fr e rfl hI.2.2⟩
    have hc' := n_cS_VB (n_fk_cB (ex := [19591, 19600, 161]) e rfl) hc
    by_cases q : n_nd a b (v 128) (v 129)
    · rw [show n_s12B [a, b] v = (n_upB (n_upB (n_upB v 128 (v 128 + Int32.ofInt 1)) 129 (v 129 * b)) (700000 + (v 128).toInt.toNat) (Int32.ofInt 1), v 128) from if_pos q] at hk
      dsimp only at hk
      obtain ⟨y1, y2, y3, y4⟩ := y q
      have q1 := q.1
      have q5 := q.2.2.2.2.1
      have q7 := q.2.2.2.2.2.2
      have p1 : 0 ≤ (v 129).toInt * b.toInt := Int.mul_nonneg (by omega) (by omega)
      have em : (v 129).toInt64 * b.toInt64 = (v 129 * b).toInt64 := by
        refine Int64.toInt_inj.mp ?_
        rw [y_mul (by rw [y_i2l, y_i2l]; omega) (by rw [y_i2l, y_i2l]; omega), y_i2l, y_i2l, y_i2l, Int32.toInt_mul]
        exact (Int.bmod_eq_of_le (by omega) (by omega)).symm
      rw [em] at y3
      rw [y1]
      have zu : ∀ k', k' ≠ 128 ∧ k' ≠ 129 ∧ k' < 700000 → n_upB (n_upB (n_upB v 128 (v 128 + Int32.ofInt 1)) 129 (v 129 * b)) (700000 + (v 128).toInt.toNat) (Int32.ofInt 1) k' = v k' := fun k' w => by
        rw [n_upoB (by omega), n_upoB w.2.1, n_upoB w.1]
      refine hk H tI hc' ⟨fun p hp => ?_, ⟨?_, ?_, ?_, ?_⟩, ?_⟩
      · have z1 : nMB.all (fun p => decide (p.1 = 128 ↔ p.2 = 19591)) = true := rfl
        have z1 := of_decide_eq_true (List.all_eq_true.mp z1 p hp)
        have z2 : nMB.all (fun p => decide (p.1 ≠ 129) && decide (p.2 ≠ 19584) && decide (p.2 ≠ 19600)) = true := rfl
        have z2 := List.all_eq_true.mp z2 p hp
        simp only [Bool.and_eq_true, decide_eq_true_eq] at z2
        have zb := n_nMbB hp
        rw [n_upoB (by omega), n_upoB z2.1.1]
        by_cases w1 : p.1 = 128
        · rw [w1, z1.mp w1]
          exact y2
        · rw [n_upoB w1]
          refine (e.2.1 _ (fun w2 => ?_)).trans (hm.1 p hp)
          simp only [List.mem_cons, List.not_mem_nil, or_false] at w2
          rcases w2 with w2 | w2 | w2
          · exact z2.1.2 w2
          · exact w1 (z1.mpr w2)
          · exact z2.2 w2
      · unfold n_mKB
        rw [zu 17408 (by decide), zu 17920 (by decide), zu 18432 (by decide)]
        exact (e.2.2 188 (by decide)).trans hm.2.1.1
      · rw [zu 17409 (by decide), zu 17921 (by decide), zu 18433 (by decide)]
        exact (e.2.2 187 (by decide)).trans hm.2.1.2.1
      · rw [y4 _ hm.2.1.2.2.1, show (v 128).toNatClampNeg = (v 128).toInt.toNat from rfl, ← n_l7_setB (by omega), n_l7_kB (v' := n_upB (n_upB v 128 (v 128 + Int32.ofInt 1)) 129 (v 129 * b)) (v := v) (fun i _ => by rw [n_upoB (by omega), n_upoB (by omega)])]
      · exact n_mQ_SB (e.2.2 _ (by decide)) (n_mQ_kB (fun s hs => by rw [n_upoB (by omega), n_upoB (by omega), n_upoB (by omega)]) (fun s hs j _ => by rw [n_upoB (by omega), n_upoB (by omega), n_upoB (by omega)]) hm.2.1.2.2.2)
      · rw [n_upoB (by omega)]
        exact y3
    · rw [show n_s12B [a, b] v = (v, Int32.ofInt (-1)) from if_neg q] at hk
      dsimp only at hk
      obtain ⟨y1, y2⟩ := n q
      rw [y1]
      exact hk H tI hc' (n_mS_VB (n_fk_mB y2 rfl) hm)
theorem n_c57B : n_pcB X a_m57 2 false n_s57B := by
  intro us h v C S K0 hl _ hI hc hm hk
  match us, hl with
  | [a, b], _ =>
    have f0 := hc.1 128 (by decide)
    have b0 := n_bdB (lo := 0) (hi := 10) hI.1 f0 rfl
    refine c_cost (d := 199) hI.1 f0 b0.2 hc.2.1 (fun q H e x7 => ?_) (fun q H e => ?_)
    · rw [show n_s57B [a, b] v = (n_upB v (700000 + a.toInt.toNat) b, v (700000 + a.toInt.toNat)) from if_pos q] at hk
      dsimp only at hk
      have q1 := q.1
      have q2 := q.2.1
      have ca : a.toNatClampNeg = a.toInt.toNat := rfl
      rw [ca] at x7 ⊢
      rw [n_l7_atB (by omega)]
      refine hk H ⟨e.1, y_jfr y_JA_x e rfl rfl hI.2.1, t_day_frcB e rfl hI.2.2⟩ (n_cV_xB (fun k hk' => ?_) ?_ ?_ ?_ ?_) (n_mS_VB (n_fm_okB e rfl) hm)
      · have hb := n_nCbB hk'
        rw [n_upoB (by omega)]
        exact (e.2.1 k (fun w => by cases w)).trans (hc.1 k hk')
      · rw [x7, n_l7_setB (by omega)]
      · exact n_cQ_SB (e.2.2 _ (by decide)) (n_cQ_kB (by rw [n_upoB (by omega)]) (fun j _ => by rw [n_upoB (by omega)]) hc.2.2.1)
      · exact n_cQ_SB (e.2.2 _ (by decide)) (n_cQ_kB (by rw [n_upoB (by omega)]) (fun j _ => by rw [n_upoB (by omega)]) hc.2.2.2.1)
      · exact n_cQ_SB (e.2.2 _ (by decide)) (n_cQ_kB (by rw [n_upoB (by omega)]) (fun j _ => by rw [n_upoB (by omega)]) hc.2.2.2.2)
    · rw [show n_s57B [a, b] v = (v, Int32.ofInt (-1)) from if_neg q] at hk
      dsimp only at hk
      exact hk H ⟨e.1, y_jfr y_JA_x e rfl rfl hI.2.1, t_day_frcB e rfl hI.2.2⟩ (n_cS_VB (n_fk_cB (ex := []) e rfl) hc) (n_mS_VB (n_fm_okB e rfl) hm)
theorem n_r206B : n_prB X a_m206 2 false n_s57B := by
  intro us h w v C S K0 hl _ hI hc hm hk
  match us, hl with
  | [a, b], _ =>
    have g0 := hm.1 (128, 19591) (by decide)
    have b0 := n_bdB (lo := 0) (hi := 10) hI.1 g0 rfl
    refine f_cost (d := 198) hI.1 hI.2.1.1 hI.2.1.2.2 g0 hm.2.1.2.2.1 (fun q H e qC x7 => ?_) (fun q H e qC => ?_)
    · rw [show n_s57B [a, b] v = (n_upB v (700000 + a.toInt.toNat) b, v (700000 + a.toInt.toNat)) from if_pos q] at hk
      dsimp only at hk
      have q1 := q.1
      have q2 := q.2.1
      have ca : a.toNatClampNeg = a.toInt.toNat := rfl
      rw [ca] at x7 ⊢
      rw [n_l7_atB (by omega)]
      refine hk H ⟨e.1, ⟨t_J161 e hI.2.1.1, j_say_e e rfl rfl hI.2.1.2.1, qC⟩, t_day_fr e rfl hI.2.2⟩ (n_cS_VB (n_fk_cB (ex := [161]) e rfl) hc) ⟨fun p hp => ?_, ⟨?_, ?_, ?_, ?_⟩, ?_⟩
      · have zb := n_nMbB hp
        have z2 : nMB.all (fun p => decide (p.2 ≠ 19584)) = true := rfl
        have z2 := of_decide_eq_true (List.all_eq_true.mp z2 p hp)
        rw [n_upoB (by omega)]
        exact (e.2.1 _ (fun w => z2 (List.mem_singleton.mp w))).trans (hm.1 p hp)
      · unfold n_mKB
        rw [n_upoB (k' := 17408) (by omega), n_upoB (k' := 17920) (by omega), n_upoB (k' := 18432) (by omega)]
        exact (e.2.2 188 (by decide)).trans hm.2.1.1
      · rw [n_upoB (k' := 17409) (by omega), n_upoB (k' := 17921) (by omega), n_upoB (k' := 18433) (by omega)]
        exact (e.2.2 187 (by decide)).trans hm.2.1.2.1
      · rw [x7, n_l7_setB (by omega)]
      · exact n_mQ_SB (e.2.2 _ (by decide)) (n_mQ_kB (fun s hs => by rw [n_upoB (by omega)]) (fun s hs j _ => by rw [n_upoB (by omega)]) hm.2.1.2.2.2)
      · rw [n_upoB (by omega)]
        exact (e.2.1 _ (by decide)).trans hm.2.2
    · rw [show n_s57B [a, b] v = (v, Int32.ofInt (-1)) from if_neg q] at hk
      dsimp only at hk
      exact hk H ⟨e.1, ⟨y_J_fr e rfl rfl hI.2.1.1, j_say_e e rfl rfl hI.2.1.2.1, qC⟩, t_day_fr e rfl hI.2.2⟩ (n_cS_VB (n_fk_cB (ex := []) e rfl) hc) (n_mS_VB (n_fk_mB e rfl) hm)
/-- fields and rows that are there -/
theorem n_getB {key : Nat} {lo hi : Int} (hr : w_hr z_D h) (hd : t_dk key = some (1, lo, hi)) : ∃ x : Int32, w_f h key = some (.int x) := by
  obtain ⟨w, w1, w2⟩ := t_dk_ok hd hr
  rcases w2 with ⟨-, y, rfl, -⟩ | ⟨q, -⟩
  · exact ⟨y, w1⟩
  · exact absurd (show (1 : Nat) = 2 from q) (by decide)
theorem n_arrB {ob n : Nat} {lo hi : Int} (hr : w_hr z_D h) (hD : z_D ob = some (.inl (0, n, lo, hi))) : ∃ l : List Int32, w_a h ob = some (0, .inl l) ∧ l.length = n := by
  obtain ⟨l, h1, h2, -⟩ := w_arrI hr (by decide) hD
  exact ⟨l, w_a_at h1, h2⟩
theorem n_c163B : n_pcB X a_m163 1 false n_s163B := by
  intro us h v C S K0 hl _ hI hc hm hk
  match us, hl with
  | [a], _ =>
    have i1 := s_i32 a
    have f0 := hc.1 128 (by decide)
    have b0 := n_bdB (lo := 0) (hi := 10) hI.1 f0 rfl
    by_cases q : 0 ≤ a.toInt ∧ a.toInt ≤ 2
    · rw [show n_s163B [a] v = (n_kpB a.toInt.toNat v, Int32.ofInt 1) from if_pos q] at hk
      dsimp only at hk
      obtain ⟨x1, g1⟩ := n_getB (key := 136) hI.1 rfl
      obtain ⟨x2, g2⟩ := n_getB (key := 137) hI.1 rfl
      obtain ⟨x3, g3⟩ := n_getB (key := 138) hI.1 rfl
      obtain ⟨x4, g4⟩ := n_getB (key := 139) hI.1 rfl
      obtain ⟨x5, g5⟩ := n_getB (key := 140) hI.1 rfl
      obtain ⟨l8, a8, -⟩ := n_arrB (ob := 8) hI.1 rfl
      obtain ⟨l6, a6, -⟩ := n_arrB (ob := 6) hI.1 rfl
      rcases (show a.toInt = 0 ∨ a.toInt = 1 ∨ a.toInt = 2 by omega) with z | z | z
      · obtain ⟨kl, k1, -⟩ := n_arrB (ob := 137) hI.1 rfl
        obtain ⟨kt, k2, -⟩ := n_arrB (ob := 138) hI.1 rfl
        obtain ⟨kp, k3, q2, q3⟩ := hc.2.2.1
        rw [show a.toInt.toNat = 0 by omega] at hk
        refine c_keep0 (d := 199) hI.1 z f0 g1 g2 g3 g4 g5 a8 a6 hc.2.1 k1 k2 k3 (fun H e w0 w1 _ _ _ _ _ _ _ w9 => ?_)
        refine hk H ⟨e.1, y_jfr y_JA_x e rfl rfl hI.2.1, t_day_frcB e rfl hI.2.2⟩ (n_cV_xB (fun k hk' => ?_) ?_ ?_ ?_ ?_) (n_mS_VB (n_fm_okB e rfl) hm)
        · have hb := n_nCbB hk'
          by_cases e1 : k = 17408
          · subst e1
            exact w0
          · by_cases e2 : k = 17409
            · subst e2
              exact w1
            · rw [show n_kpB 0 v k = v k from n_kpoB (by omega) (by omega) (by omega)]
              refine (e.2.1 k (fun w => ?_)).trans (hc.1 k hk')
              have z9 : nCB.all (fun k => !([17410, 17411, 17412, 17413, 17414] : List Nat).elem k) = true := rfl
              have z9 := List.all_eq_true.mp z9 k hk'
              rw [Bool.not_eq_true'] at z9
              have z9 := n_nelB z9
              simp only [List.mem_cons, List.not_mem_nil, or_false] at w z9
              omega
        · rw [e.2.2 7 (by decide), hc.2.1, n_l7_kB (v' := n_kpB 0 v) (v := v) (fun i _ => n_kpoB (by omega) (by omega) (by omega))]
        · refine ⟨_, w9, by rw [y_cpy_len]; exact q2, fun j h10 hj => ?_⟩
          have e1 : n_kpB 0 v (17409 + 512 * 0) = v 128 := rfl
          rw [e1] at hj
          rw [y_cpy_at (by omega), if_pos (by omega), n_l7_atB h10]
          unfold n_kpB
          rw [if_neg (by omega), if_neg (by omega), if_pos (by omega)]
          exact congrArg v (by omega)
        · exact n_cQ_SB (e.2.2 _ (by decide)) (n_cQ_kB (n_kpoB (by decide) (by decide) (by decide)) (fun j _ => n_kpoB (by omega) (by omega) (by omega)) hc.2.2.2.1)
        · exact n_cQ_SB (e.2.2 _ (by decide)) (n_cQ_kB (n_kpoB (by decide) (by decide) (by decide)) (fun j _ => n_kpoB (by omega) (by omega) (by omega)) hc.2.2.2.2)
      · obtain ⟨kl, k1, -⟩ := n_arrB (ob := 141) hI.1 rfl
        obtain ⟨kt, k2, -⟩ := n_arrB (ob := 142) hI.1 rfl
        obtain ⟨kp, k3, q2, q3⟩ := hc.2.2.2.1
        rw [show a.toInt.toNat = 1 by omega] at hk
        refine c_keep1 (d := 199) hI.1 z f0 g1 g2 g3 g4 g5 a8 a6 hc.2.1 k1 k2 k3 (fun H e w0 w1 _ _ _ _ _ _ _ w9 => ?_)
        refine hk H ⟨e.1, y_jfr y_JA_x e rfl rfl hI.2.1, t_day_frcB e rfl hI.2.2⟩ (n_cV_xB (fun k hk' => ?_) ?_ ?_ ?_ ?_) (n_mS_VB (n_fm_okB e rfl) hm)
        · have hb := n_nCbB hk'
          by_cases e1 : k = 17920
          · subst e1
            exact w0
          · by_cases e2 : k = 17921
            · subst e2
              exact w1
            · rw [show n_kpB 1 v k = v k from n_kpoB (by omega) (by omega) (by omega)]
              refine (e.2.1 k (fun w => ?_)).trans (hc.1 k hk')
              have z9 : nCB.all (fun k => !([17922, 17923, 17924, 17925, 17926] : List Nat).elem k) = true := rfl
              have z9 := List.all_eq_true.mp z9 k hk'
              rw [Bool.not_eq_true'] at z9
              have z9 := n_nelB z9
              simp only [List.mem_cons, List.not_mem_nil, or_false] at w z9
              omega
        · rw [e.2.2 7 (by decide), hc.2.1, n_l7_kB (v' := n_kpB 1 v) (v := v) (fun i _ => n_kpoB (by omega) (by omega) (by omega))]
        · exact n_cQ_SB (e.2.2 _ (by decide)) (n_cQ_kB (n_kpoB (by decide) (by decide) (by decide)) (fun j _ => n_kpoB (by omega) (by omega) (by omega)) hc.2.2.1)
        · refine ⟨_, w9, by rw [y_cpy_len]; exact q2, fun j h10 hj => ?_⟩
          have e1 : n_kpB 1 v (17409 + 512 * 1) = v 128 := rfl
          rw [e1] at hj
          rw [y_cpy_at (by omega), if_pos (by omega), n_l7_atB h10]
          unfold n_kpB
          rw [if_neg (by omega), if_neg (by omega), if_pos (by omega)]
          exact congrArg v (by omega)
        · exact n_cQ_SB (e.2.2 _ (by decide)) (n_cQ_kB (n_kpoB (by decide) (by decide) (by decide)) (fun j _ => n_kpoB (by omega) (by omega) (by omega)) hc.2.2.2.2)
      · obtain ⟨kl, k1, -⟩ := n_arrB (ob := 145) hI.1 rfl
        obtain ⟨kt, k2, -⟩ := n_arrB (ob := 146) hI.1 rfl
        obtain ⟨kp, k3, q2, q3⟩ := hc.2.2.2.2
        rw [show a.toInt.toNat = 2 by omega] at hk
        refine c_keep2 (d := 199) hI.1 z f0 g1 g2 g3 g4 g5 a8 a6 hc.2.1 k1 k2 k3 (fun H e w0 w1 _ _ _ _ _ _ _ w9 => ?_)
        refine hk H ⟨e.1, y_jfr y_JA_x e rfl rfl hI.2.1, t_day_frcB e rfl hI.2.2⟩ (n_cV_xB (fun k hk' => ?_) ?_ ?_ ?_ ?_) (n_mS_VB (n_fm_okB e rfl) hm)
        · have hb := n_nCbB hk'
          by_cases e1 : k = 18432
          · subst e1
            exact w0
          · by_cases e2 : k = 18433
            · subst e2
              exact w1
            · rw [show n_kpB 2 v k = v k from n_kpoB (by omega) (by omega) (by omega)]
              refine (e.2.1 k (fun w => ?_)).trans (hc.1 k hk')
              have z9 : nCB.all (fun k => !([18434, 18435, 18436, 18437, 18438] : List Nat).elem k) = true := rfl
              have z9 := List.all_eq_true.mp z9 k hk'
              rw [Bool.not_eq_true'] at z9
              have z9 := n_nelB z9
              simp only [List.mem_cons, List.not_mem_nil, or_false] at w z9
              omega
        · rw [e.2.2 7 (by decide), hc.2.1, n_l7_kB (v' := n_kpB 2 v) (v := v) (fun i _ => n_kpoB (by omega) (by omega) (by omega))]
        · exact n_cQ_SB (e.2.2 _ (by decide)) (n_cQ_kB (n_kpoB (by decide) (by decide) (by decide)) (fun j _ => n_kpoB (by omega) (by omega) (by omega)) hc.2.2.1)
        · exact n_cQ_SB (e.2.2 _ (by decide)) (n_cQ_kB (n_kpoB (by decide) (by decide) (by decide)) (fun j _ => n_kpoB (by omega) (by omega) (by omega)) hc.2.2.2.1)
        · refine ⟨_, w9, by rw [y_cpy_len]; exact q2, fun j h10 hj => ?_⟩
          have e1 : n_kpB 2 v (17409 + 512 * 2) = v 128 := rfl
          rw [e1] at hj
          rw [y_cpy_at (by omega), if_pos (by omega), n_l7_atB h10]
          unfold n_kpB
          rw [if_neg (by omega), if_neg (by omega), if_pos (by omega)]
          exact congrArg v (by omega)
    · rw [show n_s163B [a] v = (v, Int32.ofInt 0) from if_neg q] at hk
      dsimp only at hk
      by_cases q1 : a.toInt ≤ -1
      · exact n_ctxc (us := [a]) (ws := [.int a]) (m := 0) (Int32.ofInt 0) (z_kp3_s (y_jx_l y_JA_x)) rfl rfl rfl hI rfl rfl (by decide +kernel) (by decide +kernel) rfl (by decide +kernel) (n_Ra (by omega) (by omega) rfl (n_Rn)) (fun _ h => absurd h List.not_mem_nil) (fun H h1 hf => hk H h1 (n_cS_VB (n_sCB hI.1 hf (by decide +kernel)) hc) (n_mS_VB (n_mk_mB (ex := []) hI.1 hf (by decide +kernel)) hm))
      · exact n_ctxc (us := [a]) (ws := [.int a]) (m := 0) (Int32.ofInt 0) (z_kp4_s (y_jx_l y_JA_x)) rfl rfl rfl hI rfl rfl (by decide +kernel) (by decide +kernel) rfl (by decide +kernel) (n_Ra (by omega) (by omega) rfl (n_Rn)) (fun _ h => absurd h List.not_mem_nil) (fun H h1 hf => hk H h1 (n_cS_VB (n_sCB hI.1 hf (by decide +kernel)) hc) (n_mS_VB (n_mk_mB (ex := []) hI.1 hf (by decide +kernel)) hm))
theorem n_c165B : n_pcB X a_m165 1 false n_s165B := by
  intro us h v C S K0 hl _ hI hc hm hk
  match us, hl with
  | [a], _ =>
    have i1 := s_i32 a
    have f0 := hc.1 17408 (by decide)
    have f1 := hc.1 17920 (by decide)
    have f2 := hc.1 18432 (by decide)
    have b0 := n_bdB (lo := 0) (hi := 1) hI.1 f0 rfl
    have b1 := n_bdB (lo := 0) (hi := 1) hI.1 f1 rfl
    have b2 := n_bdB (lo := 0) (hi := 1) hI.1 f2 rfl
    have ca : a.toNatClampNeg = a.toInt.toNat := rfl
    by_cases q : n_agVB a (v 17408) (v 17920) (v 18432)
    · rw [show n_s165B [a] v = (n_anB a.toInt.toNat v, Int32.ofInt 1) from if_pos q] at hk
      dsimp only at hk
      obtain ⟨q1, q2, q3⟩ := q
      obtain ⟨l8, a8, -⟩ := n_arrB (ob := 8) hI.1 rfl
      obtain ⟨l6, a6, -⟩ := n_arrB (ob := 6) hI.1 rfl
      rcases (show a.toInt = 0 ∨ a.toInt = 1 ∨ a.toInt = 2 by omega) with z | z | z
      · obtain ⟨kl, k1, -⟩ := n_arrB (ob := 137) hI.1 rfl
        obtain ⟨kt, k2, -⟩ := n_arrB (ob := 138) hI.1 rfl
        obtain ⟨kp, k3, p2, p3⟩ := id hc.2.2.1
        obtain ⟨x1, g1⟩ := n_getB (key := 17410) hI.1 rfl
        obtain ⟨x2, g2⟩ := n_getB (key := 17411) hI.1 rfl
        obtain ⟨x3, g3⟩ := n_getB (key := 17412) hI.1 rfl
        obtain ⟨x4, g4⟩ := n_getB (key := 17413) hI.1 rfl
        obtain ⟨x5, g5⟩ := n_getB (key := 17414) hI.1 rfl
        have fn := hc.1 17409 (by decide)
        have bn := n_bdB (lo := 0) (hi := 10) hI.1 fn rfl
        have eg : ([v 17408, v 17920, v 18432] : List Int32).getD a.toNatClampNeg 0 = v 17408 := by rw [ca, z]; rfl
        rw [show a.toInt.toNat = 0 by omega] at hk
        refine c_again0 (d := 198) hI.1 z f0 (by rw [← eg]; exact q3) fn g1 g2 g3 g4 g5 a8 a6 hc.2.1 k1 k2 k3 (fun H e _ _ _ _ _ _ _ _ w9 => ?_)
        refine hk H ⟨e.1, y_jfr y_JA_x e rfl rfl hI.2.1, t_day_frcB e rfl hI.2.2⟩ (n_cV_xB (fun k hk' => ?_) ?_ ?_ ?_ ?_) (n_mS_VB (n_fm_okB e rfl) hm)
        · have hb := n_nCbB hk'
          rw [show n_anB 0 v k = v k from n_anoB (by omega)]
          refine (e.2.1 k (fun w => ?_)).trans (hc.1 k hk')
          have z9 : nCB.all (fun k => !([136, 137, 138, 139, 140, 143] : List Nat).elem k) = true := rfl
          have z9 := List.all_eq_true.mp z9 k hk'
          rw [Bool.not_eq_true'] at z9
          exact n_nelB z9 w
        · rw [w9]
          congr 3
          refine n_l7_xB (by rw [y_cpy_len, n_l7_lenB]) (fun i hi => ?_)
          rw [y_cpy_at (by rw [n_l7_lenB]; exact hi)]
          unfold n_anB
          by_cases w : i < (v 17409).toInt.toNat
          · rw [if_pos w, if_pos ⟨by omega, by omega, by show ((700000 + i - 700000 : Nat) : Int) < (v 17409).toInt; omega⟩, p3 i hi (by show (i : Int) < (v 17409).toInt; omega)]
            exact congrArg v (by omega)
          · rw [if_neg w, if_neg (fun y => w (by have y3 : ((700000 + i - 700000 : Nat) : Int) < (v 17409).toInt := y.2.2; omega)), n_l7_atB hi]
        · exact n_cQ_SB (e.2.2 _ (by decide)) (n_cQ_kB (n_anoB (by decide)) (fun j _ => n_anoB (by omega)) hc.2.2.1)
        · exact n_cQ_SB (e.2.2 _ (by decide)) (n_cQ_kB (n_anoB (by decide)) (fun j _ => n_anoB (by omega)) hc.2.2.2.1)
        · exact n_cQ_SB (e.2.2 _ (by decide)) (n_cQ_kB (n_anoB (by decide)) (fun j _ => n_anoB (by omega)) hc.2.2.2.2)
      · obtain ⟨kl, k1, -⟩ := n_arrB (ob := 141) hI.1 rfl
        obtain ⟨kt, k2, -⟩ := n_arrB (ob := 142) hI.1 rfl
        obtain ⟨kp, k3, p2, p3⟩ := id hc.2.2.2.1
        obtain ⟨x1, g1⟩ := n_getB (key := 17922) hI.1 rfl
        obtain ⟨x2, g2⟩ := n_getB (key := 17923) hI.1 rfl
        obtain ⟨x3, g3⟩ := n_getB (key := 17924) hI.1 rfl
        obtain ⟨x4, g4⟩ := n_getB (key := 17925) hI.1 rfl
        obtain ⟨x5, g5⟩ := n_getB (key := 17926) hI.1 rfl
        have fn := hc.1 17921 (by decide)
        have bn := n_bdB (lo := 0) (hi := 10) hI.1 fn rfl
        have eg : ([v 17408, v 17920, v 18432] : List Int32).getD a.toNatClampNeg 0 = v 17920 := by rw [ca, z]; rfl
        rw [show a.toInt.toNat = 1 by omega] at hk
        refine c_again1 (d := 198) hI.1 z f1 (by rw [← eg]; exact q3) fn g1 g2 g3 g4 g5 a8 a6 hc.2.1 k1 k2 k3 (fun H e _ _ _ _ _ _ _ _ w9 => ?_)
        refine hk H ⟨e.1, y_jfr y_JA_x e rfl rfl hI.2.1, t_day_frcB e rfl hI.2.2⟩ (n_cV_xB (fun k hk' => ?_) ?_ ?_ ?_ ?_) (n_mS_VB (n_fm_okB e rfl) hm)
        · have hb := n_nCbB hk'
          rw [show n_anB 1 v k = v k from n_anoB (by omega)]
          refine (e.2.1 k (fun w => ?_)).trans (hc.1 k hk')
          have z9 : nCB.all (fun k => !([136, 137, 138, 139, 140, 143] : List Nat).elem k) = true := rfl
          have z9 := List.all_eq_true.mp z9 k hk'
          rw [Bool.not_eq_true'] at z9
          exact n_nelB z9 w
        · rw [w9]
          congr 3
          refine n_l7_xB (by rw [y_cpy_len, n_l7_lenB]) (fun i hi => ?_)
          rw [y_cpy_at (by rw [n_l7_lenB]; exact hi)]
          unfold n_anB
          by_cases w : i < (v 17921).toInt.toNat
          · rw [if_pos w, if_pos ⟨by omega, by omega, by show ((700000 + i - 700000 : Nat) : Int) < (v 17921).toInt; omega⟩, p3 i hi (by show (i : Int) < (v 17921).toInt; omega)]
            exact congrArg v (by omega)
          · rw [if_neg w, if_neg (fun y => w (by have y3 : ((700000 + i - 700000 : Nat) : Int) < (v 17921).toInt := y.2.2; omega)), n_l7_atB hi]
        · exact n_cQ_SB (e.2.2 _ (by decide)) (n_cQ_kB (n_anoB (by decide)) (fun j _ => n_anoB (by omega)) hc.2.2.1)
        · exact n_cQ_SB (e.2.2 _ (by decide)) (n_cQ_kB (n_anoB (by decide)) (fun j _ => n_anoB (by omega)) hc.2.2.2.1)
        · exact n_cQ_SB (e.2.2 _ (by decide)) (n_cQ_kB (n_anoB (by decide)) (fun j _ => n_anoB (by omega)) hc.2.2.2.2)
      · obtain ⟨kl, k1, -⟩ := n_arrB (ob := 145) hI.1 rfl
        obtain ⟨kt, k2, -⟩ := n_arrB (ob := 146) hI.1 rfl
        obtain ⟨kp, k3, p2, p3⟩ := id hc.2.2.2.2
        obtain ⟨x1, g1⟩ := n_getB (key := 18434) hI.1 rfl
        obtain ⟨x2, g2⟩ := n_getB (key := 18435) hI.1 rfl
        obtain ⟨x3, g3⟩ := n_getB (key := 18436) hI.1 rfl
        obtain ⟨x4, g4⟩ := n_getB (key := 18437) hI.1 rfl
        obtain ⟨x5, g5⟩ := n_getB (key := 18438) hI.1 rfl
        have fn := hc.1 18433 (by decide)
        have bn := n_bdB (lo := 0) (hi := 10) hI.1 fn rfl
        have eg : ([v 17408, v 17920, v 18432] : List Int32).getD a.toNatClampNeg 0 = v 18432 := by rw [ca, z]; rfl
        rw [show a.toInt.toNat = 2 by omega] at hk
        refine c_again2 (d := 198) hI.1 z f2 (by rw [← eg]; exact q3) fn g1 g2 g3 g4 g5 a8 a6 hc.2.1 k1 k2 k3 (fun H e _ _ _ _ _ _ _ _ w9 => ?_)
        refine hk H ⟨e.1, y_jfr y_JA_x e rfl rfl hI.2.1, t_day_frcB e rfl hI.2.2⟩ (n_cV_xB (fun k hk' => ?_) ?_ ?_ ?_ ?_) (n_mS_VB (n_fm_okB e rfl) hm)
        · have hb := n_nCbB hk'
          rw [show n_anB 2 v k = v k from n_anoB (by omega)]
          refine (e.2.1 k (fun w => ?_)).trans (hc.1 k hk')
          have z9 : nCB.all (fun k => !([136, 137, 138, 139, 140, 143] : List Nat).elem k) = true := rfl
          have z9 := List.all_eq_true.mp z9 k hk'
          rw [Bool.not_eq_true'] at z9
          exact n_nelB z9 w
        · rw [w9]
          congr 3
          refine n_l7_xB (by rw [y_cpy_len, n_l7_lenB]) (fun i hi => ?_)
          rw [y_cpy_at (by rw [n_l7_lenB]; exact hi)]
          unfold n_anB
          by_cases w : i < (v 18433).toInt.toNat
          · rw [if_pos w, if_pos ⟨by omega, by omega, by show ((700000 + i - 700000 : Nat) : Int) < (v 18433).toInt; omega⟩, p3 i hi (by show (i : Int) < (v 18433).toInt; omega)]
            exact congrArg v (by omega)
          · rw [if_neg w, if_neg (fun y => w (by have y3 : ((700000 + i - 700000 : Nat) : Int) < (v 18433).toInt := y.2.2; omega)), n_l7_atB hi]
        · exact n_cQ_SB (e.2.2 _ (by decide)) (n_cQ_kB (n_anoB (by decide)) (fun j _ => n_anoB (by omega)) hc.2.2.1)
        · exact n_cQ_SB (e.2.2 _ (by decide)) (n_cQ_kB (n_anoB (by decide)) (fun j _ => n_anoB (by omega)) hc.2.2.2.1)
        · exact n_cQ_SB (e.2.2 _ (by decide)) (n_cQ_kB (n_anoB (by decide)) (fun j _ => n_anoB (by omega)) hc.2.2.2.2)
    · rw [show n_s165B [a] v = (v, Int32.ofInt 0) from if_neg q] at hk
      dsimp only at hk
      by_cases q1 : a.toInt ≤ -1
      · exact n_ctxc (us := [a]) (ws := [.int a]) (m := 0) (Int32.ofInt 0) (z_ag6_s (y_jx_l y_JA_x)) rfl rfl rfl hI rfl rfl (by decide +kernel) (by decide +kernel) rfl (by decide +kernel) (n_Ra (by omega) (by omega) rfl (n_Rn)) (fun _ h => absurd h List.not_mem_nil) (fun H h1 hf => hk H h1 (n_cS_VB (n_sCB hI.1 hf (by decide +kernel)) hc) (n_mS_VB (n_mk_mB (ex := []) hI.1 hf (by decide +kernel)) hm))
      · by_cases q2 : 3 ≤ a.toInt
        · exact n_ctxc (us := [a]) (ws := [.int a]) (m := 0) (Int32.ofInt 0) (z_ag7_s (y_jx_l y_JA_x)) rfl rfl rfl hI rfl rfl (by decide +kernel) (by decide +kernel) rfl (by decide +kernel) (n_Ra (by omega) (by omega) rfl (n_Rn)) (fun _ h => absurd h List.not_mem_nil) (fun H h1 hf => hk H h1 (n_cS_VB (n_sCB hI.1 hf (by decide +kernel)) hc) (n_mS_VB (n_mk_mB (ex := []) hI.1 hf (by decide +kernel)) hm))
        · rcases (show a.toInt = 0 ∨ a.toInt = 1 ∨ a.toInt = 2 by omega) with z | z | z
          · have eg : ([v 17408, v 17920, v 18432] : List Int32).getD a.toNatClampNeg 0 = v 17408 := by rw [ca, z]; rfl
            have q3 : (v 17408).toInt = 0 := by
              by_cases y : (v 17408).toInt = 0
              · exact y
              · exact absurd ⟨by omega, by omega, by rw [eg]; exact y⟩ q
            exact n_ctxc (us := [a]) (ws := [.int a, .int (v 17408)]) (m := 0) (Int32.ofInt 0) (z_ag3_s (y_jx_l y_JA_x)) rfl rfl rfl hI rfl rfl (by decide +kernel) (by decide +kernel) rfl (by decide +kernel) (n_Ra (by omega) (by omega) rfl (n_Rf rfl f0 (by omega) (by omega) (n_Rn))) (fun _ h => absurd h List.not_mem_nil) (fun H h1 hf => hk H h1 (n_cS_VB (n_sCB hI.1 hf (by decide +kernel)) hc) (n_mS_VB (n_mk_mB (ex := []) hI.1 hf (by decide +kernel)) hm))
          · have eg : ([v 17408, v 17920, v 18432] : List Int32).getD a.toNatClampNeg 0 = v 17920 := by rw [ca, z]; rfl
            have q3 : (v 17920).toInt = 0 := by
              by_cases y : (v 17920).toInt = 0
              · exact y
              · exact absurd ⟨by omega, by omega, by rw [eg]; exact y⟩ q
            exact n_ctxc (us := [a]) (ws := [.int a, .int (v 17920)]) (m := 0) (Int32.ofInt 0) (z_ag4_s (y_jx_l y_JA_x)) rfl rfl rfl hI rfl rfl (by decide +kernel) (by decide +kernel) rfl (by decide +kernel) (n_Ra (by omega) (by omega) rfl (n_Rf rfl f1 (by omega) (by omega) (n_Rn))) (fun _ h => absurd h List.not_mem_nil) (fun H h1 hf => hk H h1 (n_cS_VB (n_sCB hI.1 hf (by decide +kernel)) hc) (n_mS_VB (n_mk_mB (ex := []) hI.1 hf (by decide +kernel)) hm))
          · have eg : ([v 17408, v 17920, v 18432] : List Int32).getD a.toNatClampNeg 0 = v 18432 := by rw [ca, z]; rfl
            have q3 : (v 18432).toInt = 0 := by
              by_cases y : (v 18432).toInt = 0
              · exact y
              · exact absurd ⟨by omega, by omega, by rw [eg]; exact y⟩ q
            exact n_ctxc (us := [a]) (ws := [.int a, .int (v 18432)]) (m := 0) (Int32.ofInt 0) (z_ag5_s (y_jx_l y_JA_x)) rfl rfl rfl hI rfl rfl (by decide +kernel) (by decide +kernel) rfl (by decide +kernel) (n_Ra (by omega) (by omega) rfl (n_Rf rfl f2 (by omega) (by omega) (n_Rn))) (fun _ h => absurd h List.not_mem_nil) (fun H h1 hf => hk H h1 (n_cS_VB (n_sCB hI.1 hf (by decide +kernel)) hc) (n_mS_VB (n_mk_mB (ex := []) hI.1 hf (by decide +kernel)) hm))
theorem n_r279B : n_prB X a_m279 1 false n_s163B := by
  intro us h w v C S K0 hl hb hI hc hm hk
  match us, hl with
  | [a], _ =>
    have g0 := hm.1 (128, 19591) (by decide)
    have b0 := n_bdB (lo := 0) (hi := 10) hI.1 g0 rfl
    refine f_keep6B (d := 199) hI.1 hI.2.1.1 hI.2.1.2.2 (fun r H e q1 q2 q3 q4 q5 q6 => ?_)
    have tI : t_I H := ⟨e.1, ⟨q1, j_say_e e rfl rfl hI.2.1.2.1, q2⟩, t_day_fr e rfl hI.2.2⟩
    have g := q3 _ hm.2.1.1
    have g7 := q4 _ hm.2.1.2.1 _ g0
    obtain ⟨kc, c1, c2, c3⟩ := hm.2.1.2.2.2
    obtain ⟨kc', d1, d2, d3⟩ := q5 _ _ hm.2.1.2.2.1 c1
    have dl : kc'.length = 30 := by
      obtain ⟨l, e1, e2⟩ := n_arrB (ob := 191) e.1 rfl
      obtain rfl := y_ai d1 e1
      exact e2
    have gD : w_f H 19600 = some (.long (v 129).toInt64) := (e.2.1 _ (by decide)).trans hm.2.2
    have hc' := n_cS_VB (n_fk_cB (ex := [187, 188, 191]) e rfl) hc
    have hM : ∀ p ∈ nMB, w_f H p.2 = w_f h p.2 := by
      intro p hp
      refine e.2.1 _ (fun z => ?_)
      have z2 : nMB.all (fun p => decide (p.2 ≠ 19584)) = true := rfl
      exact of_decide_eq_true (List.all_eq_true.mp z2 p hp) (List.mem_singleton.mp z)
    rw [q6]
    unfold n_ke
    by_cases q : 0 ≤ a.toInt ∧ a.toInt ≤ 2
    · rw [show n_s163B [a] v = (n_kpB a.toInt.toNat v, Int32.ofInt 1) from if_pos q] at hk
      dsimp only at hk
      rw [if_pos q] at g g7 ⊢
      have dr := d2 q
      obtain ⟨s, hs⟩ : ∃ s : Nat, a.toInt.toNat = s := ⟨_, rfl⟩
      rw [hs] at g g7 dr hk
      have s3 : s < 3 := by omega
      refine hk H tI hc' ⟨fun p hp => ?_, ⟨?_, ?_, ?_, kc', d1, dl, fun s' hs' j h10 hj => ?_⟩, ?_⟩
      · have zb := n_nMbB hp
        rw [n_kpoB (by omega) (by omega) (by omega)]
        exact (hM p hp).trans (hm.1 p hp)
      · unfold n_mKB
        rw [g]
        rcases (show s = 0 ∨ s = 1 ∨ s = 2 by omega) with rfl | rfl | rfl <;> rfl
      · rw [g7]
        rcases (show s = 0 ∨ s = 1 ∨ s = 2 by omega) with rfl | rfl | rfl <;> rfl
      · rw [e.2.2 161 (by decide), hm.2.1.2.2.1, n_l7_kB (v' := n_kpB s v) (v := v) (fun i _ => n_kpoB (by omega) (by omega) (by omega))]
      · have dj := dr (10 * s' + j)
        by_cases es : s' = s
        · subst es
          rw [if_pos (by omega)] at dj
          have d5 : kc'.getD (10 * s' + j) 0 = (n_l7B v).getD j 0 := Int32.toInt_inj.mp (by
            have : y_N (n_l7B v) (10 * s' + j - 10 * s') = y_N (n_l7B v) j := by rw [show 10 * s' + j - 10 * s' = j by omega]
            exact dj.trans this)
          rw [d5, n_l7_atB h10]
          unfold n_kpB
          rw [if_neg (by omega), if_neg (by omega), if_pos (by omega)]
          exact congrArg v (by omega)
        · rw [if_neg (by omega)] at dj
          have d5 : kc'.getD (10 * s' + j) 0 = kc.getD (10 * s' + j) 0 := Int32.toInt_inj.mp dj
          rw [n_kpoB (by omega) (by omega) (by omega)] at hj ⊢
          rw [d5]
          exact c3 s' hs' j h10 hj
      · rw [n_kpoB (by omega) (by omega) (by omega)]
        exact gD
    · rw [show n_s163B [a] v = (v, Int32.ofInt 0) from if_neg q] at hk
      dsimp only at hk
      rw [if_neg q] at g g7 ⊢
      have d4 := d3 q
      subst d4
      exact hk H tI hc' ⟨fun p hp => (hM p hp).trans (hm.1 p hp), ⟨g, g7, (e.2.2 161 (by decide)).trans hm.2.1.2.2.1, kc', d1, dl, c3⟩, gD⟩
theorem n_r280B : n_prB X a_m280 1 false n_s165B := by
  intro us h w v C S K0 hl hb hI hc hm hk
  match us, hl with
  | [a], _ =>
    refine f_again6B (d := 199) hI.1 hI.2.1.1 hI.2.1.2.2 hm.2.1.1 (fun r H e q1 q2 q3 q4 => ?_)
    have tI : t_I H := ⟨e.1, ⟨q1, j_say_e e rfl rfl hI.2.1.2.1, q2⟩, t_day_fr e rfl hI.2.2⟩
    obtain ⟨kc, c1, c2, c3⟩ := hm.2.1.2.2.2
    obtain ⟨co', d1, d2, d3⟩ := q3 _ _ _ hm.2.1.2.2.1 hm.2.1.2.1 c1
    have dl : co'.length = 10 := by
      obtain ⟨l, e1, e2⟩ := n_arrB (ob := 161) e.1 rfl
      obtain rfl := y_ai d1 e1
      exact e2
    have hc' := n_cS_VB (n_fk_cB (ex := [161]) e rfl) hc
    have hM : ∀ p ∈ nMB, w_f H p.2 = w_f h p.2 := by
      intro p hp
      refine e.2.1 _ (fun z => ?_)
      have z2 : nMB.all (fun p => decide (p.2 ≠ 19584) && decide (p.2 ≠ 19598)) = true := rfl
      have z2 := List.all_eq_true.mp z2 p hp
      simp only [Bool.and_eq_true, decide_eq_true_eq] at z2
      simp only [List.mem_cons, List.not_mem_nil, or_false] at z
      rcases z with z | z
      · exact z2.1 z
      · exact z2.2 z
    have gD : w_f H 19600 = some (.long (v 129).toInt64) := (e.2.1 _ (by decide)).trans hm.2.2
    rw [q4]
    unfold n_agB
    by_cases q : n_agVB a (v 17408) (v 17920) (v 18432)
    · rw [show n_s165B [a] v = (n_anB a.toInt.toNat v, Int32.ofInt 1) from if_pos q] at hk
      dsimp only at hk
      rw [if_pos q]
      have dr := d2 q
      obtain ⟨p1, p2, -⟩ := q
      obtain ⟨s, hs⟩ : ∃ s : Nat, a.toInt.toNat = s := ⟨_, rfl⟩
      rw [hs] at dr hk
      have s3 : s < 3 := by omega
      have en : y_Nn [v 17409, v 17921, v 18433] s = (v (17409 + 512 * s)).toInt.toNat := by
        rcases (show s = 0 ∨ s = 1 ∨ s = 2 by omega) with rfl | rfl | rfl <;> rfl
      refine hk H tI hc' ⟨fun p hp => ?_, ⟨?_, ?_, ?_, ?_⟩, ?_⟩
      · have zb := n_nMbB hp
        rw [n_anoB (by omega)]
        exact (hM p hp).trans (hm.1 p hp)
      · unfold n_mKB
        rw [n_anoB (by omega), n_anoB (by omega), n_anoB (by omega)]
        exact (e.2.2 188 (by decide)).trans hm.2.1.1
      · rw [n_anoB (by omega), n_anoB (by omega), n_anoB (by omega)]
        exact (e.2.2 187 (by decide)).trans hm.2.1.2.1
      · rw [d1]
        congr 3
        refine n_l7_xB dl (fun i hi => ?_)
        have di := dr i
        rw [en] at di
        unfold n_anB
        by_cases w0 : i < (v (17409 + 512 * s)).toInt.toNat
        · rw [if_pos w0] at di
          rw [if_pos ⟨by omega, by omega, by omega⟩]
          have d5 : co'.getD i 0 = kc.getD (10 * s + i) 0 := Int32.toInt_inj.mp di
          rw [d5, c3 s s3 i hi (by omega)]
          exact congrArg v (by omega)
        · rw [if_neg w0] at di
          rw [if_neg (fun y => w0 (by have := y.2.2; omega))]
          have d5 : co'.getD i 0 = (n_l7B v).getD i 0 := Int32.toInt_inj.mp di
          rw [d5, n_l7_atB hi]
      · exact n_mQ_SB (e.2.2 _ (by decide)) (n_mQ_kB (fun s' hs' => n_anoB (by omega)) (fun s' hs' j _ => n_anoB (by omega)) hm.2.1.2.2.2)
      · rw [n_anoB (by omega)]
        exact gD
    · rw [show n_s165B [a] v = (v, Int32.ofInt 0) from if_neg q] at hk
      dsimp only at hk
      rw [if_neg q]
      have d4 := d3 q
      subst d4
      exact hk H tI hc' ⟨fun p hp => (hM p hp).trans (hm.1 p hp), ⟨(e.2.2 188 (by decide)).trans hm.2.1.1, (e.2.2 187 (by decide)).trans hm.2.1.2.1, d1, n_mQ_SB (e.2.2 _ (by decide)) hm.2.1.2.2.2⟩, gD⟩
end NPS
end PT33id
section PT33ie
/-! ===== v5: methods that leave what is held alike (laid by wip/tools/mk33i.py) ===== -/
theorem n_a17B {X : aX} : n_toldB X 200 a_m17 2 3 false := n_ctx0B (n := 3) (m := 0) (b := false) (z_x2_s (y_jx_l y_JA_x)) rfl rfl rfl (by decide +kernel) (by decide +kernel) rfl rfl (by decide +kernel) (by decide +kernel) (by decide +kernel)
theorem n_a21B {X : aX} : n_toldB X 200 a_m21 2 2 false := n_ctx0B (n := 2) (m := 0) (b := false) (z_x3_s (y_jx_l y_JA_x)) rfl rfl rfl (by decide +kernel) (by decide +kernel) rfl rfl (by decide +kernel) (by decide +kernel) (by decide +kernel)
theorem n_a24B {X : aX} : n_toldB X 200 a_m24 2 2 false := n_ctx0B (n := 2) (m := 0) (b := false) (z_x6_s (y_jx_l y_JA_x)) rfl rfl rfl (by decide +kernel) (by decide +kernel) rfl rfl (by decide +kernel) (by decide +kernel) (by decide +kernel)
theorem n_a28B {X : aX} : n_toldB X 200 a_m28 2 1 false := n_ctx0B (n := 1) (m := 0) (b := false) (z_x10_s (y_jx_l y_JA_x)) rfl rfl rfl (by decide +kernel) (by decide +kernel) rfl rfl (by decide +kernel) (by decide +kernel) (by decide +kernel)
theorem n_a33B {X : aX} : n_toldB X 200 a_m33 2 1 false := n_ctx0B (n := 1) (m := 0) (b := false) (z_x18_s (y_jx_l y_JA_x)) rfl rfl rfl (by decide +kernel) (by decide +kernel) rfl rfl (by decide +kernel) (by decide +kernel) (by decide +kernel)
theorem n_a46B {X : aX} : n_toldB X 200 a_m46 2 1 false := n_ctx0B (n := 1) (m := 2) (b := false) (z_x19_s (y_jx_l y_JA_x)) rfl rfl rfl (by decide +kernel) (by decide +kernel) rfl rfl (by decide +kernel) (by decide +kernel) (by decide +kernel)
theorem n_a47B {X : aX} : n_toldB X 200 a_m47 2 0 false := n_ctx0B (n := 0) (m := 2) (b := false) (z_x21_s (y_jx_l y_JA_x)) rfl rfl rfl (by decide +kernel) (by decide +kernel) rfl rfl (by decide +kernel) (by decide +kernel) (by decide +kernel)
theorem n_a49B {X : aX} : n_toldB X 200 a_m49 2 2 false := n_ctx0B (n := 2) (m := 0) (b := false) (z_x23_s (y_jx_l y_JA_x)) rfl rfl rfl (by decide +kernel) (by decide +kernel) rfl rfl (by decide +kernel) (by decide +kernel) (by decide +kernel)
theorem n_a52B {X : aX} : n_toldB X 200 a_m52 2 1 false := n_ctx0B (n := 1) (m := 3) (b := false) (z_x28_s (y_jx_l y_JA_x)) rfl rfl rfl (by decide +kernel) (by decide +kernel) rfl rfl (by decide +kernel) (by decide +kernel) (by decide +kernel)
theorem n_a54B {X : aX} : n_toldB X 200 a_m54 2 2 false := n_ctx0B (n := 2) (m := 0) (b := false) (z_x30_s (y_jx_l y_JA_x)) rfl rfl rfl (by decide +kernel) (by decide +kernel) rfl rfl (by decide +kernel) (by decide +kernel) (by decide +kernel)
theorem n_a58B {X : aX} : n_toldB X 200 a_m58 2 1 false := n_ctx0B (n := 1) (m := 2) (b := false) (z_x32_s (y_jx_l y_JA_x)) rfl rfl rfl (by decide +kernel) (by decide +kernel) rfl rfl (by decide +kernel) (by decide +kernel) (by decide +kernel)
theorem n_a61B {X : aX} : n_toldB X 200 a_m61 2 3 false := n_ctx0B (n := 3) (m := 0) (b := false) (z_x35_s (y_jx_l y_JA_x)) rfl rfl rfl (by decide +kernel) (by decide +kernel) rfl rfl (by decide +kernel) (by decide +kernel) (by decide +kernel)
theorem n_a66B {X : aX} : n_toldB X 200 a_m66 2 3 false := n_ctx0B (n := 3) (m := 3) (b := false) (z_x37_s (y_jx_l y_JA_x)) rfl rfl rfl (by decide +kernel) (by decide +kernel) rfl rfl (by decide +kernel) (by decide +kernel) (by decide +kernel)
theorem n_a68B {X : aX} : n_toldB X 200 a_m68 2 1 false := n_ctx0B (n := 1) (m := 2) (b := false) (z_x39_s (y_jx_l y_JA_x)) rfl rfl rfl (by decide +kernel) (by decide +kernel) rfl rfl (by decide +kernel) (by decide +kernel) (by decide +kernel)
theorem n_a71B {X : aX} : n_toldB X 200 a_m71 2 1 false := n_ctx0B (n := 1) (m := 6) (b := false) (z_x40_s (y_jx_l y_JA_x)) rfl rfl rfl (by decide +kernel) (by decide +kernel) rfl rfl (by decide +kernel) (by decide +kernel) (by decide +kernel)
theorem n_a92B {X : aX} : n_toldB X 200 a_m92 2 1 false := n_ctx0B (n := 1) (m := 0) (b := false) (z_x463_s (y_jx_l y_JA_x)) rfl rfl rfl (by decide +kernel) (by decide +kernel) rfl rfl (by decide +kernel) (by decide +kernel) (by decide +kernel)
theorem n_a112B {X : aX} : n_toldB X 200 a_m112 2 2 false := n_ctx0B (n := 2) (m := 1) (b := false) (z_x464_s (y_jx_l y_JA_x)) rfl rfl rfl (by decide +kernel) (by decide +kernel) rfl rfl (by decide +kernel) (by decide +kernel) (by decide +kernel)
theorem n_a113B {X : aX} : n_toldB X 200 a_m113 2 2 false := n_ctx0B (n := 2) (m := 0) (b := false) (z_x465_s (y_jx_l y_JA_x)) rfl rfl rfl (by decide +kernel) (by decide +kernel) rfl rfl (by decide +kernel) (by decide +kernel) (by decide +kernel)
theorem n_a114B {X : aX} : n_toldB X 200 a_m114 2 1 false := n_ctx0B (n := 1) (m := 3) (b := false) (z_x466_s (y_jx_l y_JA_x)) rfl rfl rfl (by decide +kernel) (by decide +kernel) rfl rfl (by decide +kernel) (by decide +kernel) (by decide +kernel)
theorem n_a115B {X : aX} : n_toldB X 200 a_m115 2 4 false := n_ctx0B (n := 4) (m := 1) (b := false) (z_x469_s (y_jx_l y_JA_x)) rfl rfl rfl (by decide +kernel) (by decide +kernel) rfl rfl (by decide +kernel) (by decide +kernel) (by decide +kernel)
theorem n_a119B {X : aX} : n_toldB X 200 a_m119 2 2 false := n_ctx0B (n := 2) (m := 0) (b := false) (z_x475_s (y_jx_l y_JA_x)) rfl rfl rfl (by decide +kernel) (by decide +kernel) rfl rfl (by decide +kernel) (by decide +kernel) (by decide +kernel)
theorem n_a125B {X : aX} : n_toldB X 200 a_m125 2 1 false := n_ctx0B (n := 1) (m := 2) (b := false) (z_x476_s (y_jx_l y_JA_x)) rfl rfl rfl (by decide +kernel) (by decide +kernel) rfl rfl (by decide +kernel) (by decide +kernel) (by decide +kernel)
theorem n_a128B {X : aX} : n_toldB X 200 a_m128 2 2 false := n_ctx0B (n := 2) (m := 1) (b := false) (z_x491_s (y_jx_l y_JA_x)) rfl rfl rfl (by decide +kernel) (by decide +kernel) rfl rfl (by decide +kernel) (by decide +kernel) (by decide +kernel)
theorem n_a137B {X : aX} : n_toldB X 200 a_m137 2 2 false := n_ctx0B (n := 2) (m := 4) (b := false) (z_x493_s (y_jx_l y_JA_x)) rfl rfl rfl (by decide +kernel) (by decide +kernel) rfl rfl (by decide +kernel) (by decide +kernel) (by decide +kernel)
theorem n_a139B {X : aX} : n_toldB X 200 a_m139 2 2 false := n_ctx0B (n := 2) (m := 5) (b := false) (z_x496_s (y_jx_l y_JA_x)) rfl rfl rfl (by decide +kernel) (by decide +kernel) rfl rfl (by decide +kernel) (by decide +kernel) (by decide +kernel)
theorem n_a143B {X : aX} : n_toldB X 200 a_m143 2 4 false := n_ctx0B (n := 4) (m := 0) (b := false) (z_x497_s (y_jx_l y_JA_x)) rfl rfl rfl (by decide +kernel) (by decide +kernel) rfl rfl (by decide +kernel) (by decide +kernel) (by decide +kernel)
theorem n_a145B {X : aX} : n_toldB X 200 a_m145 2 2 false := n_ctx0B (n := 2) (m := 3) (b := false) (z_x498_s (y_jx_l y_JA_x)) rfl rfl rfl (by decide +kernel) (by decide +kernel) rfl rfl (by decide +kernel) (by decide +kernel) (by decide +kernel)
theorem n_a146B {X : aX} : n_toldB X 200 a_m146 2 3 false := n_ctx0B (n := 3) (m := 9) (b := false) (z_x500_s (y_jx_l y_JA_x)) rfl rfl rfl (by decide +kernel) (by decide +kernel) rfl rfl (by decide +kernel) (by decide +kernel) (by decide +kernel)
theorem n_a149B {X : aX} : n_toldB X 200 a_m149 2 5 false := n_ctx0B (n := 5) (m := 2) (b := false) (z_x501_s (y_jx_l y_JA_x)) rfl rfl rfl (by decide +kernel) (by decide +kernel) rfl rfl (by decide +kernel) (by decide +kernel) (by decide +kernel)
theorem n_a153B {X : aX} : n_toldB X 200 a_m153 2 2 false := n_ctx0B (n := 2) (m := 0) (b := false) (z_x502_s (y_jx_l y_JA_x)) rfl rfl rfl (by decide +kernel) (by decide +kernel) rfl rfl (by decide +kernel) (by decide +kernel) (by decide +kernel)
theorem n_a156B {X : aX} : n_toldB X 200 a_m156 2 2 false := n_ctx0B (n := 2) (m := 3) (b := false) (z_x503_s (y_jx_l y_JA_x)) rfl rfl rfl (by decide +kernel) (by decide +kernel) rfl rfl (by decide +kernel) (by decide +kernel) (by decide +kernel)
theorem n_a159B {X : aX} : n_toldB X 200 a_m159 2 1 false := n_ctx0B (n := 1) (m := 2) (b := false) (z_x507_s (y_jx_l y_JA_x)) rfl rfl rfl (by decide +kernel) (by decide +kernel) rfl rfl (by decide +kernel) (by decide +kernel) (by decide +kernel)
theorem n_a162B {X : aX} : n_toldB X 200 a_m162 2 1 false := n_ctx0B (n := 1) (m := 5) (b := false) (z_x508_s (y_jx_l y_JA_x)) rfl rfl rfl (by decide +kernel) (by decide +kernel) rfl rfl (by decide +kernel) (by decide +kernel) (by decide +kernel)
theorem n_a168B {X : aX} : n_toldB X 200 a_m168 2 1 false := n_ctx0B (n := 1) (m := 0) (b := false) (z_x511_s (y_jx_l y_JA_x)) rfl rfl rfl (by decide +kernel) (by decide +kernel) rfl rfl (by decide +kernel) (by decide +kernel) (by decide +kernel)
theorem n_a177B {X : aX} : n_toldB X 200 a_m177 155 3 false := by
  intro us h C S K0 hl hb hI hk
  obtain ⟨hr, ⟨hJ, hS, hC⟩, hday⟩ := hI
  match us, hl with
  | [u0, u1, u2], _ => exact p_set hr hJ (fun r H hf q0 => hk r H ⟨hf.1, ⟨q0, (j_say_e hf rfl rfl hS), (j_cost_e hf rfl rfl hC)⟩, t_day_fr hf rfl hday⟩ (n_fk_cB (ex := []) hf rfl) (n_fk_mB hf rfl))
theorem n_a180B {X : aX} : n_toldB X 200 a_m180 155 2 false := by
  intro us h C S K0 hl hb hI hk
  obtain ⟨hr, ⟨hJ, hS, hC⟩, hday⟩ := hI
  match us, hl with
  | [u0, u1], _ => exact p_force hr hJ (fun r H hf q0 q1 => hk r H ⟨hf.1, ⟨(y_J_fr hf rfl rfl hJ), (j_say_e hf rfl rfl hS), (j_cost_e hf rfl rfl hC)⟩, t_day_fr hf rfl hday⟩ (n_fk_cB (ex := []) hf rfl) (n_fk_mB hf rfl))
theorem n_a181B {X : aX} : n_toldB X 200 a_m181 155 2 false := by
  intro us h C S K0 hl hb hI hk
  obtain ⟨hr, ⟨hJ, hS, hC⟩, hday⟩ := hI
  match us, hl with
  | [u0, u1], _ => exact p_see hr hJ (fun r H hf q0 q1 => hk r H ⟨hf.1, ⟨q0, (j_say_e hf rfl rfl hS), (j_cost_e hf rfl rfl hC)⟩, t_day_fr hf rfl hday⟩ (n_fk_cB (ex := []) hf rfl) (n_fk_mB hf rfl))
theorem n_a183B {X : aX} : n_toldB X 200 a_m183 155 1 false := by
  intro us h C S K0 hl hb hI hk
  obtain ⟨hr, ⟨hJ, hS, hC⟩, hday⟩ := hI
  match us, hl with
  | [u0], _ => exact p_weight hr hJ (fun r H hf => hk r H ⟨hf.1, ⟨(y_J_fr hf rfl rfl hJ), (j_say_e hf rfl rfl hS), (j_cost_e hf rfl rfl hC)⟩, t_day_fr hf rfl hday⟩ (n_fk_cB (ex := []) hf rfl) (n_fk_mB hf rfl))
theorem n_a187B {X : aX} : n_toldB X 200 a_m187 155 1 false := by
  intro us h C S K0 hl hb hI hk
  obtain ⟨hr, ⟨hJ, hS, hC⟩, hday⟩ := hI
  match us, hl with
  | [u0], _ => exact p_chance hr hJ (fun r H hf q0 => hk r H ⟨hf.1, ⟨q0, (j_say_e hf rfl rfl hS), (j_cost_e hf rfl rfl hC)⟩, t_day_fr hf rfl hday⟩ (n_fk_cB (ex := []) hf rfl) (n_fk_mB hf rfl))
theorem n_a198B {X : aX} : n_toldB X 200 a_m198 155 1 false := by
  intro us h C S K0 hl hb hI hk
  obtain ⟨hr, ⟨hJ, hS, hC⟩, hday⟩ := hI
  match us, hl with
  | [u0], _ => exact p_odds hr hJ (fun r H hf q0 => hk r H ⟨hf.1, ⟨q0, (j_say_e hf rfl rfl hS), (j_cost_e hf rfl rfl hC)⟩, t_day_fr hf rfl hday⟩ (n_fk_cB (ex := []) hf rfl) (n_fk_mB hf rfl))
theorem n_a199B {X : aX} : n_toldB X 200 a_m199 155 0 false := by
  intro us h C S K0 hl hb hI hk
  obtain ⟨hr, ⟨hJ, hS, hC⟩, hday⟩ := hI
  match us, hl with
  | [], _ => exact p_likely hr hJ (fun r H hf q0 => hk r H ⟨hf.1, ⟨q0, (j_say_e hf rfl rfl hS), (j_cost_e hf rfl rfl hC)⟩, t_day_fr hf rfl hday⟩ (n_fk_cB (ex := []) hf rfl) (n_fk_mB hf rfl))
theorem n_a200B {X : aX} : n_toldB X 200 a_m200 155 2 false := by
  intro us h C S K0 hl hb hI hk
  obtain ⟨hr, ⟨hJ, hS, hC⟩, hday⟩ := hI
  match us, hl with
  | [u0, u1], _ => exact p_moves hr hJ (fun r H hf q0 => hk r H ⟨hf.1, ⟨q0, (j_say_e hf rfl rfl hS), (j_cost_e hf rfl rfl hC)⟩, t_day_fr hf rfl hday⟩ (n_fk_cB (ex := []) hf rfl) (n_fk_mB hf rfl))
theorem n_a202B {X : aX} : n_toldB X 200 a_m202 155 1 false := by
  intro us h C S K0 hl hb hI hk
  obtain ⟨hr, ⟨hJ, hS, hC⟩, hday⟩ := hI
  match us, hl with
  | [u0], _ => exact p_most hr hJ (fun r H hf q0 => hk r H ⟨hf.1, ⟨q0, (j_say_e hf rfl rfl hS), (j_cost_e hf rfl rfl hC)⟩, t_day_fr hf rfl hday⟩ (n_fk_cB (ex := []) hf rfl) (n_fk_mB hf rfl))
theorem n_a204B {X : aX} : n_toldB X 200 a_m204 155 2 false := by
  intro us h C S K0 hl hb hI hk
  obtain ⟨hr, ⟨hJ, hS, hC⟩, hday⟩ := hI
  match us, hl with
  | [u0, u1], _ => exact p_worth hr hJ (fun r H hf q0 => hk r H ⟨hf.1, ⟨q0, (j_say_e hf rfl rfl hS), (j_cost_e hf rfl rfl hC)⟩, t_day_fr hf rfl hday⟩ (n_fk_cB (ex := []) hf rfl) (n_fk_mB hf rfl))
theorem n_a207B {X : aX} : n_toldB X 200 a_m207 155 1 false := by
  intro us h C S K0 hl hb hI hk
  obtain ⟨hr, ⟨hJ, hS, hC⟩, hday⟩ := hI
  match us, hl with
  | [u0], _ => exact p_need hr hJ hC (fun r H hf q0 => hk r H ⟨hf.1, ⟨q0, (j_say_e hf rfl rfl hS), (j_cost_e hf rfl rfl hC)⟩, t_day_fr hf rfl hday⟩ (n_fk_cB (ex := []) hf rfl) (n_fk_mB hf rfl))
theorem n_a208B {X : aX} : n_toldB X 200 a_m208 155 3 false := by
  intro us h C S K0 hl hb hI hk
  obtain ⟨hr, ⟨hJ, hS, hC⟩, hday⟩ := hI
  match us, hl with
  | [u0, u1, u2], _ => exact p_apart hr hJ (fun r H hf q0 => hk r H ⟨hf.1, ⟨q0, (j_say_e hf rfl rfl hS), (j_cost_e hf rfl rfl hC)⟩, t_day_fr hf rfl hday⟩ (n_fk_cB (ex := []) hf rfl) (n_fk_mB hf rfl))
theorem n_a213B {X : aX} : n_toldB X 200 a_m213 155 3 false := by
  intro us h C S K0 hl hb hI hk
  obtain ⟨hr, ⟨hJ, hS, hC⟩, hday⟩ := hI
  match us, hl with
  | [u0, u1, u2], _ => exact p_even hr hJ (fun r H hf q0 => hk r H ⟨hf.1, ⟨q0, (j_say_e hf rfl rfl hS), (j_cost_e hf rfl rfl hC)⟩, t_day_fr hf rfl hday⟩ (n_fk_cB (ex := []) hf rfl) (n_fk_mB hf rfl))
theorem n_a214B {X : aX} : n_toldB X 200 a_m214 155 1 false := by
  intro us h C S K0 hl hb hI hk
  obtain ⟨hr, ⟨hJ, hS, hC⟩, hday⟩ := hI
  match us, hl with
  | [u0], _ => exact p_joined hr hJ (fun r H hf q0 => hk r H ⟨hf.1, ⟨q0, (j_say_e hf rfl rfl hS), (j_cost_e hf rfl rfl hC)⟩, t_day_fr hf rfl hday⟩ (n_fk_cB (ex := []) hf rfl) (n_fk_mB hf rfl))
theorem n_a217B {X : aX} : n_toldB X 200 a_m217 155 1 false := by
  intro us h C S K0 hl hb hI hk
  obtain ⟨hr, ⟨hJ, hS, hC⟩, hday⟩ := hI
  match us, hl with
  | [u0], _ => exact p_bounds hr hJ (fun r H hf q0 => hk r H ⟨hf.1, ⟨q0, (j_say_e hf rfl rfl hS), (j_cost_e hf rfl rfl hC)⟩, t_day_fr hf rfl hday⟩ (n_fk_cB (ex := []) hf rfl) (n_fk_mB hf rfl))
theorem n_a233B {X : aX} : n_toldB X 200 a_m233 155 1 false := by
  intro us h C S K0 hl hb hI hk
  obtain ⟨hr, ⟨hJ, hS, hC⟩, hday⟩ := hI
  match us, hl with
  | [u0], _ => exact p_so hr hJ hS (fun r H hf q0 q1 => hk r H ⟨hf.1, ⟨q0, q1, (j_cost_e hf rfl rfl hC)⟩, t_day_fr hf rfl hday⟩ (n_fk_cB (ex := []) hf rfl) (n_fk_mB hf rfl))
theorem n_a246B {X : aX} : n_toldB X 200 a_m246 155 2 false := by
  intro us h C S K0 hl hb hI hk
  obtain ⟨hr, ⟨hJ, hS, hC⟩, hday⟩ := hI
  match us, hl with
  | [u0, u1], _ => exact p_term hr hJ hS (fun r H hf q0 q1 => hk r H ⟨hf.1, ⟨q0, q1, (j_cost_e hf rfl rfl hC)⟩, t_day_fr hf rfl hday⟩ (n_fk_cB (ex := []) hf rfl) (n_fk_mB hf rfl))
theorem n_a247B {X : aX} : n_toldB X 200 a_m247 155 2 false := by
  intro us h C S K0 hl hb hI hk
  obtain ⟨hr, ⟨hJ, hS, hC⟩, hday⟩ := hI
  match us, hl with
  | [u0, u1], _ => exact p_slip hr hJ hS (fun r H hf q0 q1 => hk r H ⟨hf.1, ⟨q0, q1, (j_cost_e hf rfl rfl hC)⟩, t_day_fr hf rfl hday⟩ (n_fk_cB (ex := []) hf rfl) (n_fk_mB hf rfl))
theorem n_a248B {X : aX} : n_toldB X 200 a_m248 155 1 false := by
  intro us h C S K0 hl hb hI hk
  obtain ⟨hr, ⟨hJ, hS, hC⟩, hday⟩ := hI
  match us, hl with
  | [u0], _ => exact p_which hr hJ hS (fun r H hf q0 q1 => hk r H ⟨hf.1, ⟨q0, q1, (j_cost_e hf rfl rfl hC)⟩, t_day_fr hf rfl hday⟩ (n_fk_cB (ex := []) hf rfl) (n_fk_mB hf rfl))
theorem n_a249B {X : aX} : n_toldB X 200 a_m249 155 4 false := by
  intro us h C S K0 hl hb hI hk
  obtain ⟨hr, ⟨hJ, hS, hC⟩, hday⟩ := hI
  match us, hl with
  | [u0, u1, u2, u3], _ => exact p_span hr hJ (fun r H hf q0 => hk r H ⟨hf.1, ⟨q0, (j_say_e hf rfl rfl hS), (j_cost_e hf rfl rfl hC)⟩, t_day_fr hf rfl hday⟩ (n_fk_cB (ex := []) hf rfl) (n_fk_mB hf rfl))
theorem n_a250B {X : aX} : n_toldB X 200 a_m250 155 2 false := by
  intro us h C S K0 hl hb hI hk
  obtain ⟨hr, ⟨hJ, hS, hC⟩, hday⟩ := hI
  match us, hl with
  | [u0, u1], _ => exact p_reach hr hJ (fun r H hf q0 => hk r H ⟨hf.1, ⟨q0, (j_say_e hf rfl rfl hS), (j_cost_e hf rfl rfl hC)⟩, t_day_fr hf rfl hday⟩ (n_fk_cB (ex := []) hf rfl) (n_fk_mB hf rfl))
theorem n_a254B {X : aX} : n_toldB X 200 a_m254 155 1 false := by
  intro us h C S K0 hl hb hI hk
  obtain ⟨hr, ⟨hJ, hS, hC⟩, hday⟩ := hI
  match us, hl with
  | [u0], _ => exact p_leans hr hJ (fun r H hf q0 => hk r H ⟨hf.1, ⟨q0, (j_say_e hf rfl rfl hS), (j_cost_e hf rfl rfl hC)⟩, t_day_fr hf rfl hday⟩ (n_fk_cB (ex := []) hf rfl) (n_fk_mB hf rfl))
theorem n_a256B {X : aX} : n_toldB X 200 a_m256 155 2 false := by
  intro us h C S K0 hl hb hI hk
  obtain ⟨hr, ⟨hJ, hS, hC⟩, hday⟩ := hI
  match us, hl with
  | [u0, u1], _ => exact p_hear hr hJ (fun r H hf q0 => hk r H ⟨hf.1, ⟨q0, (j_say_e hf rfl rfl hS), (j_cost_e hf rfl rfl hC)⟩, t_day_fr hf rfl hday⟩ (n_fk_cB (ex := []) hf rfl) (n_fk_mB hf rfl))
theorem n_a262B {X : aX} : n_toldB X 200 a_m262 155 2 false := by
  intro us h C S K0 hl hb hI hk
  obtain ⟨hr, ⟨hJ, hS, hC⟩, hday⟩ := hI
  match us, hl with
  | [u0, u1], _ => exact p_errs hr hJ (fun r H hf q0 => hk r H ⟨hf.1, ⟨q0, (j_say_e hf rfl rfl hS), (j_cost_e hf rfl rfl hC)⟩, t_day_fr hf rfl hday⟩ (n_fk_cB (ex := []) hf rfl) (n_fk_mB hf rfl))
theorem n_a263B {X : aX} : n_toldB X 200 a_m263 155 2 false := by
  intro us h C S K0 hl hb hI hk
  obtain ⟨hr, ⟨hJ, hS, hC⟩, hday⟩ := hI
  match us, hl with
  | [u0, u1], _ => exact p_order hr hJ (fun r H hf q0 => hk r H ⟨hf.1, ⟨q0, (j_say_e hf rfl rfl hS), (j_cost_e hf rfl rfl hC)⟩, t_day_fr hf rfl hday⟩ (n_fk_cB (ex := []) hf rfl) (n_fk_mB hf rfl))
theorem n_a265B {X : aX} : n_toldB X 200 a_m265 155 4 false := by
  intro us h C S K0 hl hb hI hk
  obtain ⟨hr, ⟨hJ, hS, hC⟩, hday⟩ := hI
  match us, hl with
  | [u0, u1, u2, u3], _ => exact p_list hr (fun r H hf => hk r H ⟨hf.1, ⟨(y_J_fr hf rfl rfl hJ), (j_say_e hf rfl rfl hS), (j_cost_e hf rfl rfl hC)⟩, t_day_fr hf rfl hday⟩ (n_fk_cB (ex := []) hf rfl) (n_fk_mB hf rfl))
theorem n_a267B {X : aX} : n_toldB X 200 a_m267 155 2 false := by
  intro us h C S K0 hl hb hI hk
  obtain ⟨hr, ⟨hJ, hS, hC⟩, hday⟩ := hI
  match us, hl with
  | [u0, u1], _ => exact p_many hr (fun H hf => hk _ H ⟨hf.1, ⟨(y_J_fr hf rfl rfl hJ), (j_say_e hf rfl rfl hS), (j_cost_e hf rfl rfl hC)⟩, t_day_fr hf rfl hday⟩ (n_fk_cB (ex := []) hf rfl) (n_fk_mB hf rfl))
theorem n_a268B {X : aX} : n_toldB X 200 a_m268 155 3 false := by
  intro us h C S K0 hl hb hI hk
  obtain ⟨hr, ⟨hJ, hS, hC⟩, hday⟩ := hI
  match us, hl with
  | [u0, u1, u2], _ => exact p_test hr hJ (fun r H hf q0 => hk r H ⟨hf.1, ⟨q0, (j_say_e hf rfl rfl hS), (j_cost_e hf rfl rfl hC)⟩, t_day_fr hf rfl hday⟩ (n_fk_cB (ex := []) hf rfl) (n_fk_mB hf rfl))
theorem n_a270B {X : aX} : n_toldB X 200 a_m270 155 5 false := by
  intro us h C S K0 hl hb hI hk
  obtain ⟨hr, ⟨hJ, hS, hC⟩, hday⟩ := hI
  match us, hl with
  | [u0, u1, u2, u3, u4], _ => exact p_land hr hJ (fun r H hf q0 => hk r H ⟨hf.1, ⟨q0, (j_say_e hf rfl rfl hS), (j_cost_e hf rfl rfl hC)⟩, t_day_fr hf rfl hday⟩ (n_fk_cB (ex := []) hf rfl) (n_fk_mB hf rfl))
theorem n_a271B {X : aX} : n_toldB X 200 a_m271 155 2 false := by
  intro us h C S K0 hl hb hI hk
  obtain ⟨hr, ⟨hJ, hS, hC⟩, hday⟩ := hI
  match us, hl with
  | [u0, u1], _ => exact p_mark hr hJ (fun r H hf q0 => hk r H ⟨hf.1, ⟨q0, (j_say_e hf rfl rfl hS), (j_cost_e hf rfl rfl hC)⟩, t_day_fr hf rfl hday⟩ (n_fk_cB (ex := []) hf rfl) (n_fk_mB hf rfl))
theorem n_a272B {X : aX} : n_toldB X 200 a_m272 155 2 false := by
  intro us h C S K0 hl hb hI hk
  obtain ⟨hr, ⟨hJ, hS, hC⟩, hday⟩ := hI
  match us, hl with
  | [u0, u1], _ => exact p_rare hr hJ (fun r H hf => hk r H ⟨hf.1, ⟨(y_J_fr hf rfl rfl hJ), (j_say_e hf rfl rfl hS), (j_cost_e hf rfl rfl hC)⟩, t_day_fr hf rfl hday⟩ (n_fk_cB (ex := []) hf rfl) (n_fk_mB hf rfl))
theorem n_a274B {X : aX} : n_toldB X 200 a_m274 155 1 false := by
  intro us h C S K0 hl hb hI hk
  obtain ⟨hr, ⟨hJ, hS, hC⟩, hday⟩ := hI
  match us, hl with
  | [u0], _ => exact p_shifts hr (fun r H hf => hk r H ⟨hf.1, ⟨(y_J_fr hf rfl rfl hJ), (j_say_e hf rfl rfl hS), (j_cost_e hf rfl rfl hC)⟩, t_day_fr hf rfl hday⟩ (n_fk_cB (ex := []) hf rfl) (n_fk_mB hf rfl))
theorem n_a278B {X : aX} : n_toldB X 200 a_m278 155 1 false := by
  intro us h C S K0 hl hb hI hk
  obtain ⟨hr, ⟨hJ, hS, hC⟩, hday⟩ := hI
  match us, hl with
  | [u0], _ => exact p_enough hr (fun r H hf => hk r H ⟨hf.1, ⟨(y_J_fr hf rfl rfl hJ), (j_say_e hf rfl rfl hS), (j_cost_e hf rfl rfl hC)⟩, t_day_fr hf rfl hday⟩ (n_fk_cB (ex := []) hf rfl) (n_fk_mB hf rfl))
theorem n_a281B {X : aX} : n_toldB X 200 a_m281 155 1 false := by
  intro us h C S K0 hl hb hI hk
  obtain ⟨hr, ⟨hJ, hS, hC⟩, hday⟩ := hI
  match us, hl with
  | [u0], _ => exact p_count hr hJ (fun r H hf => hk r H ⟨hf.1, ⟨(y_J_fr hf rfl rfl hJ), (j_say_e hf rfl rfl hS), (j_cost_e hf rfl rfl hC)⟩, t_day_fr hf rfl hday⟩ (n_fk_cB (ex := []) hf rfl) (n_fk_mB hf rfl))
theorem n_a283B {X : aX} : n_toldB X 200 a_m283 155 2 false := by
  intro us h C S K0 hl hb hI hk
  obtain ⟨hr, ⟨hJ, hS, hC⟩, hday⟩ := hI
  match us, hl with
  | [u0, u1], _ => exact p_of hr hJ (fun r H hf => hk r H ⟨hf.1, ⟨(y_J_fr hf rfl rfl hJ), (j_say_e hf rfl rfl hS), (j_cost_e hf rfl rfl hC)⟩, t_day_fr hf rfl hday⟩ (n_fk_cB (ex := []) hf rfl) (n_fk_mB hf rfl))
theorem n_a287B {X : aX} : n_toldLB X 200 a_m287 155 1 false := by
  intro us h C S K0 hl hb hI hk
  obtain ⟨hr, ⟨hJ, hS, hC⟩, hday⟩ := hI
  match us, hl with
  | [u0], _ => exact p_row hr (fun r H hf => hk r H ⟨hf.1, ⟨(y_J_fr hf rfl rfl hJ), (j_say_e hf rfl rfl hS), (j_cost_e hf rfl rfl hC)⟩, t_day_fr hf rfl hday⟩ (n_fk_cB (ex := []) hf rfl) (n_fk_mB hf rfl))
theorem n_I_outB {h H : aH} (e : y_fr h H [] [195]) (q : n_IB h) : n_IB H := n_same_IB (n_fk_cB (ex := []) e rfl) (n_fk_mB e rfl) (t_I_out e q.1) q
theorem n_I_appB {H l : aH} (q : n_IB H) : n_IB (H ++ l) := by
  have hr := q.1.1
  have hlen : 195 < H.length := by
    obtain ⟨e, h1, -⟩ := hr.1 195 _ rfl
    exact (List.getElem?_eq_some_iff.mp h1).1
  have hg : ∀ o, o < 196 → (H ++ l)[o]? = H[o]? := fun o ho => List.getElem?_append_left (by omega)
  have hf : ∀ k, k < 196 * 128 → w_f (H ++ l) k = w_f H k := by
    intro k hk
    unfold w_f
    rw [hg _ (by omega)]
  have ha : ∀ o, o < 196 → w_a (H ++ l) o = w_a H o := by
    intro o ho
    unfold w_a
    rw [hg _ ho]
  refine n_same_IB ⟨fun k hk => hf k ?_, fun o ho => ha o ?_⟩ ⟨fun p hp => hf p.2 ?_, fun o ho => ha o ?_, hf 19600 (by decide)⟩ (t_I_app q.1) q
  · have : ∀ k ∈ nCB, k < 196 * 128 := by decide
    exact this k hk
  · have : ∀ o ∈ nCAB, o < 196 := by decide
    exact this o ho
  · have : ∀ p ∈ nMB, p.2 < 196 * 128 := by decide
    exact this p hp
  · have : ∀ o ∈ nMAB, o < 196 := by decide
    exact this o ho
theorem n_S169B {X : aX} : n_S X n_IB 169 2 := by
  refine ⟨a_m169, rfl, rfl, rfl, fun us h C S K0 hl hI hk => ?_⟩
  match us, hl with
  | [a, b], _ =>
    have T8 : ∀ {G : aH} {r : Int32}, y_fr h G [] [] → aOK s_P X 201 a_m169 8 [some (.ref 2), some (.int a), some (.int b), some (.ref 197), none] [.int r, .int (Int32.ofInt 0), .ref 197] G C S K0 := by
      intro G r e
      refine w_go z_hl [] [] 30 e.1 ?_
      exact ⟨⟨by decide, by decide⟩, y_l64 _, fun l hl len bb => fun H hH => hk _ H C S (n_I_outB (y_st (y_mo e rfl rfl) hH (by repeat (first | exact w_nil | refine w_cons (Or.inl (y_m rfl)) ?_ | refine w_cons (Or.inr (by assumption)) ?_)) (by repeat (first | exact w_nil | refine w_cons (Or.inl (y_m rfl)) ?_ | refine w_cons (Or.inr (by assumption)) ?_))) hI) (by omega) (by omega)⟩
    show aOK s_P X 201 a_m169 0 [some (.ref 2), some (.int a), some (.int b), some (.ref 197), none] [] h C S K0
    refine aOK_op rfl rfl ?_
    refine aOK_op rfl rfl ?_
    refine aOK_op rfl rfl ?_
    refine aOK_op rfl rfl ?_
    refine aOK_op rfl rfl ?_
    have hinv : a_inv s_P (.invokevirtual 7) (18, 170, 11, 1305159) [.int b, .int a, .ref 2, .int (Int32.ofInt 0), .ref 197] h = some (a_m170, [.ref 2, .int a, .int b], [.int (Int32.ofInt 0), .ref 197]) := by
      have hrc := l_recv hI.1.1 (r0 := 2) (ci := 11) rfl
      show (if a_recv h (.ref 2) 11 = true ∧ _ ∧ _ then some _ else none) = _
      rw [if_pos ⟨hrc, Nat.le_of_ble_eq_true rfl, Nat.le_of_ble_eq_true rfl⟩]
      rfl
    refine aOK_call rfl (by cases X <;> rfl) rfl hinv ?_
    show aOK s_P X (198 + 2) a_m170 0 [some (.ref 2), some (.int a), some (.int b)] [] h C S _
    refine c_of hI.1.1 (fun r H e => Or.inr ⟨fun n q => (by cases q), ?_⟩) (fun H e => Or.inl ⟨⟨0, rfl⟩, rfl, hk _ _ _ _ (n_I_appB (n_I_outB (y_mo e rfl rfl) hI)) (by omega) (by omega)⟩)
    exact T8 e
theorem n_S171B {X : aX} : n_S X n_IB 171 1 := by
  refine ⟨a_m171, rfl, rfl, rfl, fun us h C S K0 hl hI hk => ?_⟩
  match us, hl with
  | [a], _ =>
    have T7 : ∀ {G : aH} {r : Int64}, y_fr h G [] [] → aOK s_P X 201 a_m171 7 [some (.ref 2), some (.int a), some (.ref 197), none] [.long r, .int (Int32.ofInt 0), .ref 197] G C S K0 := by
      intro G r e
      refine w_go z_hl [] [] 30 e.1 ?_
      exact ⟨⟨by decide, by decide⟩, y_l64 _, fun l hl len bb => fun H hH => hk _ H C S (n_I_outB (y_st (y_mo e rfl rfl) hH (by repeat (first | exact w_nil | refine w_cons (Or.inl (y_m rfl)) ?_ | refine w_cons (Or.inr (by assumption)) ?_)) (by repeat (first | exact w_nil | refine w_cons (Or.inl (y_m rfl)) ?_ | refine w_cons (Or.inr (by assumption)) ?_))) hI) (by omega) (by omega)⟩
    show aOK s_P X 201 a_m171 0 [some (.ref 2), some (.int a), some (.ref 197), none] [] h C S K0
    refine aOK_op rfl rfl ?_
    refine aOK_op rfl rfl ?_
    refine aOK_op rfl rfl ?_
    refine aOK_op rfl rfl ?_
    have hinv : a_inv s_P (.invokevirtual 15) (18, 172, 11, 1105233) [.int a, .ref 2, .int (Int32.ofInt 0), .ref 197] h = some (a_m172, [.ref 2, .int a], [.int (Int32.ofInt 0), .ref 197]) := by
      have hrc := l_recv hI.1.1 (r0 := 2) (ci := 11) rfl
      show (if a_recv h (.ref 2) 11 = true ∧ _ ∧ _ then some _ else none) = _
      rw [if_pos ⟨hrc, Nat.le_of_ble_eq_true rfl, Nat.le_of_ble_eq_true rfl⟩]
      rfl
    refine aOK_call rfl (by cases X <;> rfl) rfl hinv ?_
    show aOK s_P X 200 a_m172 0 [some (.ref 2), some (.int a)] [] h C S _
    refine c_row hI.1.1 (fun r H e => Or.inr ⟨fun n q => (by cases q), ?_⟩) (fun H e => Or.inl ⟨⟨0, rfl⟩, rfl, hk _ _ _ _ (n_I_appB (n_I_outB (y_mo e rfl rfl) hI)) (by omega) (by omega)⟩)
    exact T7 e
def n_stB (j : Nat) (us : List Int32) (v : Nat → Int32) : (Nat → Int32) × Int32 := if j = 57 then n_s57B us v else if j = 12 then n_s12B us v else if j = 21 then n_s21B us v else if j = 24 then n_s21B us v else if j = 74 then n_s74B us v else if j = 76 then n_s76B us v else if j = 77 then n_s77B us v else if j = 127 then n_s127B us v else if j = 157 then n_s157B us v else if j = 159 then n_s159B us v else if j = 163 then n_s163B us v else n_s165B us v
def n_MdB (j : Nat) (us : List Int32) (g : Int32) (H : aH) : Prop := t_I H ∧ ∃ v, n_cVB H (n_stB j us v).1 ∧ n_mVB H v ∧ (j ≠ 77 → g = (n_stB j us v).2)
section NL
variable {X : aX} {j n ty kd pr : Nat} {b : Bool} {M : aM}
theorem n_of1B {r0 : Nat} (h : n_toldB X 200 M r0 n b) (hM : s_P[j]? = some M) (ha : M.2.2.2.2.1 = n) (hl : Nat.ble (n + 1) M.2.2.1 = true) : n_G X n_IB n_MdB (j, r0, n, b, 1, 0, 0) :=
  ⟨M, hM, ha, hl, fun us h0 C S K0 h1 h2 h3 => h us h0 C S K0 h1 h2 h3.1.1 (fun x H hI c m => h3.2 _ H (n_same_IB c m hI h3.1) (Or.inr ⟨(show (1 : Nat) ≠ 2 by decide), x, rfl⟩))⟩
theorem n_of2B {r0 : Nat} (h : n_toldLB X 200 M r0 n b) (hM : s_P[j]? = some M) (ha : M.2.2.2.2.1 = n) (hl : Nat.ble (n + 1) M.2.2.1 = true) : n_G X n_IB n_MdB (j, r0, n, b, 2, 0, 0) :=
  ⟨M, hM, ha, hl, fun us h0 C S K0 h1 h2 h3 => h us h0 C S K0 h1 h2 h3.1.1 (fun x H hI c m => h3.2 _ H (n_same_IB c m hI h3.1) (Or.inl ⟨rfl, x, rfl⟩))⟩
theorem n_ofcB (h : n_pcB X M n b (n_stB j)) (hM : s_P[j]? = some M) (ha : M.2.2.2.2.1 = n) (hl : Nat.ble (n + 1) M.2.2.1 = true) : n_G X n_IB n_MdB (j, 2, n, b, ty, 1, 0) :=
  ⟨M, hM, ha, hl, fun us h0 C S K0 h1 h2 h3 => by
    obtain ⟨⟨hI, v, c, m⟩, hk⟩ := h3
    exact h us h0 v C S K0 h1 h2 hI c m (fun H i1 c1 m1 => hk _ H ⟨i1, v, c1, m1, fun _ => rfl⟩)⟩
theorem n_ofrB {j' : Nat} (hj : j ≠ 77) (h : n_prB X M n b (n_stB j)) (hM : s_P[j']? = some M) (ha : M.2.2.2.2.1 = n) (hl : Nat.ble (n + 1) M.2.2.1 = true) : n_G X n_IB n_MdB (j', 155, n, b, ty, 2, j) :=
  ⟨M, hM, ha, hl, fun us h0 C S K0 h1 h2 h3 => by
    obtain ⟨g, ⟨hI, v, c, m, hg⟩, hk⟩ := h3
    exact h us h0 _ v C S K0 h1 h2 hI c m (fun H i1 c1 m1 => hk _ H ⟨i1, _, c1, m1⟩ (fun _ => (hg hj).symm))⟩
theorem n_ofcSB (h : n_pcSB X M n b n_s77B) (hM : s_P[77]? = some M) (ha : M.2.2.2.2.1 = n) (hl : Nat.ble (n + 1) M.2.2.1 = true) : n_G X n_IB n_MdB (77, 2, n, b, 1, 1, 0) :=
  ⟨M, hM, ha, hl, fun us h0 C S K0 h1 h2 h3 => by
    obtain ⟨⟨hI, v, c, m⟩, hk⟩ := h3
    exact h us h0 v C S K0 h1 h2 hI c m (fun x H i1 c1 m1 => hk x H ⟨i1, v, c1, m1, fun q => absurd rfl q⟩)⟩
theorem n_ofrSB {j' : Nat} (h : n_prSB X M n b n_s77B) (hM : s_P[j']? = some M) (ha : M.2.2.2.2.1 = n) (hl : Nat.ble (n + 1) M.2.2.1 = true) : n_G X n_IB n_MdB (j', 155, n, b, 1, 2, 77) :=
  ⟨M, hM, ha, hl, fun us h0 C S K0 h1 h2 h3 => by
    obtain ⟨g, ⟨hI, v, c, m, -⟩, hk⟩ := h3
    exact h us h0 _ v C S K0 h1 h2 hI c m (fun x H i1 c1 m1 => hk x H ⟨i1, _, c1, m1⟩ (fun q => absurd (show (1 : Nat) = 3 from q) (by decide)))⟩
end NL
end PT33ie
section PT33if
/-! ===== v12: two systems at once: a run that ends so and so ends so (laid by wip/tools/mk12a.py) ===== -/
theorem aOK_and {P : List aM} {X : aX} {d : Nat} {M : aM} {pc : Nat} {ls : aL} {st : List Value} {h : aH} {C S : Nat} {K1 K2 : Option Value → aH → Nat → Nat → Prop} (q1 : aOK P X d M pc ls st h C S K1) (q2 : aOK P X d M pc ls st h C S K2) : aOK P X d M pc ls st h C S (fun v H C' S' => K1 v H C' S' ∧ K2 v H C' S') := by
  obtain ⟨f1, v1, h1, c1, s1, e1, k1⟩ := q1
  obtain ⟨f2, v2, h2, c2, s2, e2, k2⟩ := q2
  have m1 := aexec_mono (Nat.le_max_left f1 f2) e1
  have m2 := aexec_mono (Nat.le_max_right f1 f2) e2
  rw [m1] at m2
  injection m2 with m2
  injection m2 with a1 m2
  injection m2 with a2 m2
  injection m2 with a3 a4
  subst a1
  subst a2
  subst a3
  subst a4
  exact ⟨max f1 f2, v1, h1, c1, s1, m1, k1, k2⟩
section NPD
variable {X : aX} {I1 I2 : aH → Prop} {M1 M2 M3 : Nat → List Int32 → Int32 → aH → Prop} {j r0 n ty pr : Nat} {b : Bool}
theorem n_G_and0 (g1 : n_G X I1 M1 (j, r0, n, b, ty, 0, 0)) (g2 : n_G X I2 M2 (j, r0, n, b, ty, 0, 0)) : n_G X (fun h => I1 h ∧ I2 h) M3 (j, r0, n, b, ty, 0, 0) := by
  obtain ⟨M, a1, a2, a3, a4⟩ := g1
  obtain ⟨M', b1, b2, b3, b4⟩ := g2
  have eM : M = M' := Option.some.inj (a1.symm.trans b1)
  subst eM
  refine ⟨M, a1, a2, a3, fun us h C S K0 hl hb hk => ?_⟩
  have q1 := a4 us h C S (fun w H C' S' => C' = C ∧ S' = S ∧ ∃ x : Value, w = some x ∧ I1 H ∧ (ty = 2 ∧ (∃ y : Int64, x = .long y) ∨ ty ≠ 2 ∧ ∃ y : Int32, x = .int y)) hl hb (And.intro hk.1.1 (fun w H hI hs => ⟨rfl, rfl, w, rfl, hI, hs⟩))
  have q2 := b4 us h C S (fun w H C' S' => C' = C ∧ S' = S ∧ ∃ x : Value, w = some x ∧ I2 H ∧ (ty = 2 ∧ (∃ y : Int64, x = .long y) ∨ ty ≠ 2 ∧ ∃ y : Int32, x = .int y)) hl hb (And.intro hk.1.2 (fun w H hI hs => ⟨rfl, rfl, w, rfl, hI, hs⟩))
  refine aOK_imp (fun w H C' S' k => ?_) (aOK_and q1 q2)
  obtain ⟨⟨e1, e2, x, e3, i1, s1⟩, ⟨-, -, x', e4, i2, -⟩⟩ := k
  rw [e1, e2, e3]
  exact hk.2 x H ⟨i1, i2⟩ s1
theorem n_G_and1 (g1 : n_G X I1 M1 (j, r0, n, b, ty, 1, 0)) (g2 : n_G X I2 M2 (j, r0, n, b, ty, 1, 0)) (hM : ∀ us x H, M1 j us x H → M2 j us x H → M3 j us x H) : n_G X (fun h => I1 h ∧ I2 h) M3 (j, r0, n, b, ty, 1, 0) := by
  obtain ⟨M, a1, a2, a3, a4⟩ := g1
  obtain ⟨M', b1, b2, b3, b4⟩ := g2
  have eM : M = M' := Option.some.inj (a1.symm.trans b1)
  subst eM
  refine ⟨M, a1, a2, a3, fun us h C S K0 hl hb hk => ?_⟩
  have q1 := a4 us h C S (fun w H C' S' => C' = C ∧ S' = S ∧ ∃ x : Int32, w = some (.int x) ∧ M1 j us x H) hl hb (And.intro hk.1.1 (fun x H m => ⟨rfl, rfl, x, rfl, m⟩))
  have q2 := b4 us h C S (fun w H C' S' => C' = C ∧ S' = S ∧ ∃ x : Int32, w = some (.int x) ∧ M2 j us x H) hl hb (And.intro hk.1.2 (fun x H m => ⟨rfl, rfl, x, rfl, m⟩))
  refine aOK_imp (fun w H C' S' k => ?_) (aOK_and q1 q2)
  obtain ⟨⟨e1, e2, x, e3, i1⟩, ⟨-, -, x', e4, i2⟩⟩ := k
  rw [e3] at e4
  injection e4 with e4
  injection e4 with e4
  subst e4
  rw [e1, e2, e3]
  exact hk.2 x H (hM us x H i1 i2)
theorem n_G_and2 (g1 : n_G X I1 M1 (j, r0, n, b, ty, 2, pr)) (g2 : n_G X I2 M2 (j, r0, n, b, ty, 2, pr)) (hM : ∀ us x H, M3 pr us x H → M1 pr us x H ∧ M2 pr us x H) : n_G X (fun h => I1 h ∧ I2 h) M3 (j, r0, n, b, ty, 2, pr) := by
  obtain ⟨M, a1, a2, a3, a4⟩ := g1
  obtain ⟨M', b1, b2, b3, b4⟩ := g2
  have eM : M = M' := Option.some.inj (a1.symm.trans b1)
  subst eM
  refine ⟨M, a1, a2, a3, fun us h C S K0 hl hb hk => ?_⟩
  have hk : ∃ g, M3 pr us g h ∧ ∀ (x : Int32) (H : aH), (I1 H ∧ I2 H) → (ty = 3 → x = g) → K0 (some (.int x)) H C S := hk
  obtain ⟨g, m, hk⟩ := hk
  obtain ⟨m1, m2⟩ := hM us g h m
  have q1 := a4 us h C S (fun w H C' S' => C' = C ∧ S' = S ∧ ∃ x : Int32, w = some (.int x) ∧ I1 H ∧ (ty = 3 → x = g)) hl hb (Exists.intro g (And.intro m1 (fun x H i hx => ⟨rfl, rfl, x, rfl, i, hx⟩)))
  have q2 := b4 us h C S (fun w H C' S' => C' = C ∧ S' = S ∧ ∃ x : Int32, w = some (.int x) ∧ I2 H ∧ (ty = 3 → x = g)) hl hb (Exists.intro g (And.intro m2 (fun x H i hx => ⟨rfl, rfl, x, rfl, i, hx⟩)))
  refine aOK_imp (fun w H C' S' k => ?_) (aOK_and q1 q2)
  obtain ⟨⟨e1, e2, x, e3, i1, s1⟩, ⟨-, -, x', e4, i2, -⟩⟩ := k
  rw [e1, e2, e3]
  exact hk x H ⟨i1, i2⟩ s1
/-- one that is alone stands for the first of a pair, and for the second -/
theorem n_G_l1 (g : n_G X I1 M1 (j, r0, n, b, 1, 0, 0)) (hM : ∀ us x H, I1 H → M3 j us x H) : n_G X I1 M3 (j, r0, n, b, 1, 1, 0) := by
  obtain ⟨M, a1, a2, a3, a4⟩ := g
  refine ⟨M, a1, a2, a3, fun us h C S K0 hl hb hk => a4 us h C S K0 hl hb (And.intro hk.1 (fun w H hI hs => ?_))⟩
  rcases hs with ⟨z, -⟩ | ⟨-, x, e⟩
  · exact absurd (show (1 : Nat) = 2 from z) (by decide)
  · rw [e]
    exact hk.2 x H (hM us x H hI)
theorem n_G_l2 (g : n_G X I1 M1 (j, r0, n, b, 1, 0, 0)) (hM : ∀ us x H, M3 pr us x H → I1 H) : n_G X I1 M3 (j, r0, n, b, 1, 2, pr) := by
  obtain ⟨M, a1, a2, a3, a4⟩ := g
  refine ⟨M, a1, a2, a3, fun us h C S K0 hl hb hk => ?_⟩
  have hk : ∃ g, M3 pr us g h ∧ ∀ (x : Int32) (H : aH), I1 H → ((1 : Nat) = 3 → x = g) → K0 (some (.int x)) H C S := hk
  obtain ⟨g, m, hk⟩ := hk
  refine a4 us h C S K0 hl hb (And.intro (hM us g h m) (fun w H hI hs => ?_))
  rcases hs with ⟨z, -⟩ | ⟨-, x, e⟩
  · exact absurd (show (1 : Nat) = 2 from z) (by decide)
  · rw [e]
    exact hk x H hI (fun z => absurd z (by decide))
theorem n_S_and {m : Nat} (g1 : n_S X I1 j m) (g2 : n_S X I2 j m) : n_S X (fun h => I1 h ∧ I2 h) j m := by
  obtain ⟨M, a1, a2, a3, a4⟩ := g1
  obtain ⟨M', b1, b2, b3, b4⟩ := g2
  have eM : M = M' := Option.some.inj (a1.symm.trans b1)
  subst eM
  refine ⟨M, a1, a2, a3, fun us h C S K0 hl hI hk => ?_⟩
  have q1 := a4 us h C S (fun w H C' S' => C' ≤ C + 1 ∧ S' ≤ S + 6 ∧ ∃ x : Int32, w = some (.int x) ∧ I1 H) hl hI.1 (fun x H C' S' i h1 h2 => ⟨h1, h2, x, rfl, i⟩)
  have q2 := b4 us h C S (fun w H C' S' => C' ≤ C + 1 ∧ S' ≤ S + 6 ∧ ∃ x : Int32, w = some (.int x) ∧ I2 H) hl hI.2 (fun x H C' S' i h1 h2 => ⟨h1, h2, x, rfl, i⟩)
  refine aOK_imp (fun w H C' S' k => ?_) (aOK_and q1 q2)
  obtain ⟨⟨e1, e2, x, e3, i1⟩, ⟨-, -, x', e4, i2⟩⟩ := k
  rw [e3]
  exact hk x H C' S' ⟨i1, i2⟩ e1 e2
end NPD
/-- what stands between the two calls of a pair, of both systems: what a pair's first leaves, or what is held -/
def n_M12 (p : Nat → Bool) (I : aH → Prop) (Md : Nat → List Int32 → Int32 → aH → Prop) (j : Nat) (us : List Int32) (g : Int32) (H : aH) : Prop := if p j = true then Md j us g H else I H
section NPE
variable {X : aX} {I1 I2 : aH → Prop} {M1 M2 : Nat → List Int32 → Int32 → aH → Prop} {p1 p2 : Nat → Bool} {Mc : List Int32 → Int32 → aH → Prop} {j r0 n pr jc : Nat} {b : Bool}
def n_MP (p1 p2 : Nat → Bool) (I1 I2 : aH → Prop) (M1 M2 : Nat → List Int32 → Int32 → aH → Prop) (jc : Nat) (Mc : List Int32 → Int32 → aH → Prop) (j : Nat) (us : List Int32) (g : Int32) (H : aH) : Prop := if j = jc then Mc us g H else n_M12 p1 I1 M1 j us g H ∧ n_M12 p2 I2 M2 j us g H
theorem n_M12_1 (g : n_G X I1 M1 (j, r0, n, b, 1, 1, 0) ∧ p1 j = true ∨ n_G X I1 M1 (j, r0, n, b, 1, 0, 0) ∧ p1 j = false) : n_G X I1 (n_M12 p1 I1 M1) (j, r0, n, b, 1, 1, 0) := by
  rcases g with ⟨g, z⟩ | ⟨g, z⟩
  · obtain ⟨M, a1, a2, a3, a4⟩ := g
    exact ⟨M, a1, a2, a3, fun us h C S K0 hl hb hk => a4 us h C S K0 hl hb (And.intro hk.1 (fun x H m => hk.2 x H (by
      unfold n_M12
      rw [if_pos z]
      exact m)))⟩
  · exact n_G_l1 g (fun us x H i => by
      unfold n_M12
      rw [if_neg (by rw [z]; decide)]
      exact i)
theorem n_M12_2 (g : n_G X I1 M1 (j, r0, n, b, 1, 2, pr) ∧ p1 pr = true ∨ n_G X I1 M1 (j, r0, n, b, 1, 0, 0) ∧ p1 pr = false) : n_G X I1 (n_M12 p1 I1 M1) (j, r0, n, b, 1, 2, pr) := by
  rcases g with ⟨g, z⟩ | ⟨g, z⟩
  · obtain ⟨M, a1, a2, a3, a4⟩ := g
    refine ⟨M, a1, a2, a3, fun us h C S K0 hl hb hk => ?_⟩
    have hk : ∃ g, n_M12 p1 I1 M1 pr us g h ∧ ∀ (x : Int32) (H : aH), I1 H → ((1 : Nat) = 3 → x = g) → K0 (some (.int x)) H C S := hk
    obtain ⟨g, m, hk⟩ := hk
    unfold n_M12 at m
    rw [if_pos z] at m
    exact a4 us h C S K0 hl hb (Exists.intro g (And.intro m hk))
  · exact n_G_l2 g (fun us x H i => by
      unfold n_M12 at i
      rw [if_neg (by rw [z]; decide)] at i
      exact i)
theorem n_P1 (hj : Nat.beq j jc = false) (g1 : n_G X I1 M1 (j, r0, n, b, 1, 1, 0) ∧ p1 j = true ∨ n_G X I1 M1 (j, r0, n, b, 1, 0, 0) ∧ p1 j = false) (g2 : n_G X I2 M2 (j, r0, n, b, 1, 1, 0) ∧ p2 j = true ∨ n_G X I2 M2 (j, r0, n, b, 1, 0, 0) ∧ p2 j = false) : n_G X (fun h => I1 h ∧ I2 h) (n_MP p1 p2 I1 I2 M1 M2 jc Mc) (j, r0, n, b, 1, 1, 0) := n_G_and1 (n_M12_1 g1) (n_M12_1 g2) (fun us x H m1 m2 => by
  unfold n_MP
  rw [if_neg (Nat.ne_of_beq_eq_false hj)]
  exact ⟨m1, m2⟩)
theorem n_P2 (hj : Nat.beq pr jc = false) (g1 : n_G X I1 M1 (j, r0, n, b, 1, 2, pr) ∧ p1 pr = true ∨ n_G X I1 M1 (j, r0, n, b, 1, 0, 0) ∧ p1 pr = false) (g2 : n_G X I2 M2 (j, r0, n, b, 1, 2, pr) ∧ p2 pr = true ∨ n_G X I2 M2 (j, r0, n, b, 1, 0, 0) ∧ p2 pr = false) : n_G X (fun h => I1 h ∧ I2 h) (n_MP p1 p2 I1 I2 M1 M2 jc Mc) (j, r0, n, b, 1, 2, pr) := n_G_and2 (n_M12_2 g1) (n_M12_2 g2) (fun us x H m => by
  unfold n_MP at m
  rw [if_neg (Nat.ne_of_beq_eq_false hj)] at m
  exact m)
end NPE
end PT33if
section PT33ig
/-! ===== v45: of() in the law: both systems, and the law's own way through it ===== -/
def n_pA (j : Nat) : Bool := ([12, 17, 21, 24, 74, 76, 77, 127, 157, 163, 165] : List Nat).elem j
def n_pB (j : Nat) : Bool := ([12, 57, 74, 76, 77, 127, 157, 163, 165] : List Nat).elem j
abbrev n_IP : aH → Prop := fun h => n_I h ∧ n_IB h
def n_MdC (_ : List Int32) (_ : Int32) (H : aH) : Prop := t_I H ∧ True
abbrev n_MdP : Nat → List Int32 → Int32 → aH → Prop := n_MP n_pA n_pB n_I n_IB n_Md n_MdB 9999 n_MdC
theorem n_MdP_r {j : Nat} {us : List Int32} {g : Int32} {H : aH} (q : n_MdP j us g H) : w_hr z_D H := by
  have q : (if j = 9999 then n_MdC us g H else n_M12 n_pA n_I n_Md j us g H ∧ n_M12 n_pB n_IB n_MdB j us g H) := q
  by_cases z : j = 9999
  · rw [if_pos z] at q
    exact q.1.1
  · rw [if_neg z] at q
    have q := q.1
    unfold n_M12 at q
    by_cases y : n_pA j = true
    · rw [if_pos y] at q
      exact q.1.1
    · rw [if_neg y] at q
      exact q.1.1
/-- both systems, with what they hold -/
def n_2V (h : aH) (v w : Nat → Int32) : Prop := t_I h ∧ (n_cV h v ∧ n_mV h v) ∧ n_cVB h w ∧ n_mVB h w
theorem n_2V_I {h : aH} {v w : Nat → Int32} (q : n_2V h v w) : n_IP h := ⟨⟨q.1, v, q.2.1⟩, q.1, w, q.2.2⟩
theorem n_2V_out {h H : aH} {v w : Nat → Int32} (e : y_fr h H [] [195]) (q : n_2V h v w) : n_2V H v w := ⟨t_I_out e q.1, ⟨n_cS_V (n_fk_c (ex := []) e rfl) q.2.1.1, n_mS_V (n_fk_m e rfl) q.2.1.2⟩, n_cS_VB (n_fk_cB (ex := []) e rfl) q.2.2.1, n_mS_VB (n_fk_mB e rfl) q.2.2.2⟩
theorem n_2V_ref {h H : aH} {v w : Nat → Int32} (e : y_fr h H [19584] []) (q : n_2V h v w) : n_2V H v w := ⟨⟨e.1, ⟨y_J_fr e rfl rfl q.1.2.1.1, j_say_e e rfl rfl q.1.2.1.2.1, j_cost_e e rfl rfl q.1.2.1.2.2⟩, t_day_fr e rfl q.1.2.2⟩, ⟨n_cS_V (n_fk_c (ex := []) e rfl) q.2.1.1, n_mS_V (n_fk_m e rfl) q.2.1.2⟩, n_cS_VB (n_fk_cB (ex := []) e rfl) q.2.2.1, n_mS_VB (n_fk_mB e rfl) q.2.2.2⟩
theorem n_2V_app {H l : aH} {v w : Nat → Int32} (q : n_2V H v w) : n_2V (H ++ l) v w := by
  have hr := q.1.1
  have hlen : 195 < H.length := by
    obtain ⟨e, h1, -⟩ := hr.1 195 _ rfl
    exact (List.getElem?_eq_some_iff.mp h1).1
  have hg : ∀ o, o < 196 → (H ++ l)[o]? = H[o]? := fun o ho => List.getElem?_append_left (by omega)
  have hf : ∀ k, k < 196 * 128 → w_f (H ++ l) k = w_f H k := by
    intro k hk
    unfold w_f
    rw [hg _ (by omega)]
  have ha : ∀ o, o < 196 → w_a (H ++ l) o = w_a H o := by
    intro o ho
    unfold w_a
    rw [hg _ ho]
  have c1 : ∀ k ∈ nC, k < 196 * 128 := by decide
  have c2 : ∀ o ∈ nCA, o < 196 := by decide
  have c3 : ∀ p ∈ nM, p.2 < 196 * 128 := by decide
  have c4 : ∀ o ∈ nMA, o < 196 := by decide
  have d1 : ∀ k ∈ nCB, k < 196 * 128 := by decide
  have d2 : ∀ o ∈ nCAB, o < 196 := by decide
  have d3 : ∀ p ∈ nMB, p.2 < 196 * 128 := by decide
  have d4 : ∀ o ∈ nMAB, o < 196 := by decide
  exact ⟨t_I_app q.1, ⟨n_cS_V ⟨fun k hk => hf k (c1 k hk), fun o ho => ha o (c2 o ho)⟩ q.2.1.1, n_mS_V ⟨fun p hp => hf p.2 (c3 p hp), fun o ho => ha o (c4 o ho), hf 19600 (by decide)⟩ q.2.1.2⟩, n_cS_VB ⟨fun k hk => hf k (d1 k hk), fun o ho => ha o (d2 o ho)⟩ q.2.2.1, n_mS_VB ⟨fun p hp => hf p.2 (d3 p hp), fun o ho => ha o (d4 o ho), hf 19600 (by decide)⟩ q.2.2.2⟩
theorem w_a_inv {h : aH} {o : Nat} {a : Nat × aA} (q : w_a h o = some a) : h[o]? = some (.inl a) := by
  unfold w_a at q
  split at q
  · rename_i x e
    injection q with q
    rw [e, q]
  · cases q
section N4L
variable {X : aX} {C S : Nat} {K0 : Option Value → aH → Nat → Nat → Prop}
/-- the law's own of() -/
theorem c_S43 {h : aH} {v w : Nat → Int32} (q : n_2V h v w) {a b : Int32} (yes : n_ofV v a b → ∀ H, y_fr h H [] [195] → w_a H 195 = some (1, .inr (.inl [(n_ofA v (n_l7B w) a b).toInt64])) → K0 (some (.int (Int32.ofInt 0))) H C S) (no : ¬ n_ofV v a b → ∀ H, y_fr h H [] [] → K0 (some (.int 1)) (H ++ [.inr (a_exc, [])]) (C + 1) (S + 6)) : aOK s_P X 201 a_m169 0 [some (.ref 2), some (.int a), some (.int b), some (.ref 197), none] [] h C S K0 := by
  obtain ⟨hI, ⟨hc, hm⟩, hcB, hmB⟩ := id q
  have a7 : w_a h 7 = some (0, .inl (n_l7B w)) := hcB.2.1
  have T8 : ∀ {G : aH} {r : Int32}, r = n_ofA v (n_l7B w) a b → n_ofV v a b → y_fr h G [] [] → aOK s_P X 201 a_m169 8 [some (.ref 2), some (.int a), some (.int b), some (.ref 197), none] [.int r, .int (Int32.ofInt 0), .ref 197] G C S K0 := by
    intro G r hx hv e
    refine w_go z_hl [] [] 30 e.1 ?_
    refine ⟨⟨by decide, by decide⟩, y_l64 _, fun l hl len bb => fun H hH => yes hv H (y_st (y_mo e rfl rfl) hH (by repeat (first | exact w_nil | refine w_cons (Or.inl (y_m rfl)) ?_ | refine w_cons (Or.inr (by assumption)) ?_)) (by repeat (first | exact w_nil | refine w_cons (Or.inl (y_m rfl)) ?_ | refine w_cons (Or.inr (by assumption)) ?_))) ?_⟩
    have u := hH.2.2.1 195 _ rfl
    match l, len with
    | [x], _ =>
      rw [← hx]
      exact u
  refine aOK_op rfl rfl ?_
  refine aOK_op rfl rfl ?_
  refine aOK_op rfl rfl ?_
  refine aOK_op rfl rfl ?_
  refine aOK_op rfl rfl ?_
  have hinv : a_inv s_P (.invokevirtual 7) (18, 170, 11, 1305159) [.int b, .int a, .ref 2, .int (Int32.ofInt 0), .ref 197] h = some (a_m170, [.ref 2, .int a, .int b], [.int (Int32.ofInt 0), .ref 197]) := by
    have hrc := l_recv hI.1 (r0 := 2) (ci := 11) rfl
    show (if a_recv h (.ref 2) 11 = true ∧ _ ∧ _ then some _ else none) = _
    rw [if_pos ⟨hrc, Nat.le_of_ble_eq_true rfl, Nat.le_of_ble_eq_true rfl⟩]
    rfl
  refine aOK_call rfl (by cases X <;> rfl) rfl hinv ?_
  show aOK s_P X (198 + 2) a_m170 0 [some (.ref 2), some (.int a), some (.int b)] [] h C S _
  refine c_ofX hI.1 hc (n_toW hI.1 hI.2.1.1 hc hm) (n_ord_of hI.1 hI.2.1.1 hm) a7 (fun hv H e => Or.inr ⟨fun n q => (by cases q), ?_⟩) (fun hv H e => Or.inl ⟨⟨0, rfl⟩, rfl, no hv H e⟩)
  exact T8 rfl hv e
end N4L
end PT33ig
section PT33j
/-! ===== v12: the law of p45: its loop (laid by wip/tools/lay12.py) ===== -/
def n_tb : nT := [(12, 2, 2, false, 1, 1, 0), (17, 2, 3, false, 1, 1, 0), (21, 2, 2, false, 1, 1, 0), (24, 2, 2, false, 1, 1, 0), (28, 2, 1, false, 1, 0, 0), (33, 2, 1, false, 1, 0, 0), (46, 2, 1, false, 1, 0, 0), (47, 2, 0, false, 1, 0, 0), (49, 2, 2, false, 1, 0, 0), (52, 2, 1, false, 1, 0, 0), (54, 2, 2, false, 1, 0, 0), (57, 2, 2, false, 1, 1, 0), (58, 2, 1, false, 1, 0, 0), (61, 2, 3, false, 1, 0, 0), (66, 2, 3, false, 1, 0, 0), (68, 2, 1, false, 1, 0, 0), (71, 2, 1, false, 1, 0, 0), (74, 2, 1, false, 1, 1, 0), (76, 2, 1, false, 1, 1, 0), (77, 2, 0, false, 1, 1, 0), (92, 2, 1, false, 1, 0, 0), (112, 2, 2, false, 1, 0, 0), (113, 2, 2, false, 1, 0, 0), (114, 2, 1, false, 1, 0, 0), (115, 2, 4, false, 1, 0, 0), (119, 2, 2, false, 1, 0, 0), (125, 2, 1, false, 1, 0, 0), (127, 2, 2, false, 1, 1, 0), (128, 2, 2, false, 1, 0, 0), (137, 2, 2, false, 1, 0, 0), (139, 2, 2, false, 1, 0, 0), (143, 2, 4, false, 1, 0, 0), (145, 2, 2, false, 1, 0, 0), (146, 2, 3, false, 1, 0, 0), (149, 2, 5, false, 1, 0, 0), (153, 2, 2, false, 1, 0, 0), (156, 2, 2, false, 1, 0, 0), (157, 2, 3, true, 1, 1, 0), (159, 2, 1, false, 1, 0, 0), (162, 2, 1, false, 1, 0, 0), (163, 2, 1, false, 1, 1, 0), (165, 2, 1, false, 1, 1, 0), (168, 2, 1, false, 1, 0, 0), (173, 155, 2, false, 1, 2, 12), (177, 155, 3, false, 1, 2, 17), (180, 155, 2, false, 1, 2, 21), (181, 155, 2, false, 1, 2, 24), (183, 155, 1, false, 1, 0, 0), (187, 155, 1, false, 1, 0, 0), (198, 155, 1, false, 1, 0, 0), (199, 155, 0, false, 1, 0, 0), (200, 155, 2, false, 1, 0, 0), (202, 155, 1, false, 1, 0, 0), (204, 155, 2, false, 1, 0, 0), (206, 155, 2, false, 1, 2, 57), (207, 155, 1, false, 1, 0, 0), (208, 155, 3, false, 1, 0, 0), (213, 155, 3, false, 1, 0, 0), (214, 155, 1, false, 1, 0, 0), (217, 155, 1, false, 1, 0, 0), (219, 155, 1, false, 1, 2, 74), (220, 155, 1, false, 1, 2, 76), (221, 155, 0, false, 1, 2, 77), (233, 155, 1, false, 1, 0, 0), (246, 155, 2, false, 1, 0, 0), (247, 155, 2, false, 1, 0, 0), (248, 155, 1, false, 1, 0, 0), (249, 155, 4, false, 1, 0, 0), (250, 155, 2, false, 1, 0, 0), (254, 155, 1, false, 1, 0, 0), (255, 155, 2, false, 1, 2, 127), (256, 155, 2, false, 1, 0, 0), (262, 155, 2, false, 1, 0, 0), (263, 155, 2, false, 1, 0, 0), (265, 155, 4, false, 1, 0, 0), (267, 155, 2, false, 1, 0, 0), (268, 155, 3, false, 1, 0, 0), (270, 155, 5, false, 1, 0, 0), (271, 155, 2, false, 1, 0, 0), (272, 155, 2, false, 1, 0, 0), (273, 155, 3, true, 1, 2, 157), (274, 155, 1, false, 1, 0, 0), (278, 155, 1, false, 1, 0, 0), (279, 155, 1, false, 1, 2, 163), (280, 155, 1, false, 1, 2, 165), (281, 155, 1, false, 1, 0, 0), (283, 155, 2, false, 1, 0, 0), (287, 155, 1, false, 2, 0, 0)]
section NJ
variable {X : aX}
def n_tbx0 : nT := [(12, 2, 2, false, 1, 1, 0), (17, 2, 3, false, 1, 1, 0), (21, 2, 2, false, 1, 1, 0), (24, 2, 2, false, 1, 1, 0), (28, 2, 1, false, 1, 0, 0), (33, 2, 1, false, 1, 0, 0), (46, 2, 1, false, 1, 0, 0), (47, 2, 0, false, 1, 0, 0), (49, 2, 2, false, 1, 0, 0), (52, 2, 1, false, 1, 0, 0), (54, 2, 2, false, 1, 0, 0), (57, 2, 2, false, 1, 1, 0), (58, 2, 1, false, 1, 0, 0), (61, 2, 3, false, 1, 0, 0), (66, 2, 3, false, 1, 0, 0), (68, 2, 1, false, 1, 0, 0), (71, 2, 1, false, 1, 0, 0), (74, 2, 1, false, 1, 1, 0), (76, 2, 1, false, 1, 1, 0), (77, 2, 0, false, 1, 1, 0), (92, 2, 1, false, 1, 0, 0), (112, 2, 2, false, 1, 0, 0)]
theorem n_tbx0_G : ∀ e ∈ n_tbx0, n_G X n_IP n_MdP e := List.forall_mem_cons.mpr ⟨(n_P1 rfl (Or.inl ⟨(n_ofc (n_c12) rfl rfl rfl), rfl⟩) (Or.inl ⟨(n_ofcB (n_c12B) rfl rfl rfl), rfl⟩)), List.forall_mem_cons.mpr ⟨(n_P1 rfl (Or.inl ⟨(n_ofc (n_c17) rfl rfl rfl), rfl⟩) (Or.inr ⟨(n_of1B n_a17B rfl rfl rfl), rfl⟩)), List.forall_mem_cons.mpr ⟨(n_P1 rfl (Or.inl ⟨(n_ofc (n_c21) rfl rfl rfl), rfl⟩) (Or.inr ⟨(n_of1B n_a21B rfl rfl rfl), rfl⟩)), List.forall_mem_cons.mpr ⟨(n_P1 rfl (Or.inl ⟨(n_ofc (n_c24) rfl rfl rfl), rfl⟩) (Or.inr ⟨(n_of1B n_a24B rfl rfl rfl), rfl⟩)), List.forall_mem_cons.mpr ⟨(n_G_and0 (n_of1I n_a28 rfl rfl rfl) (n_of1B n_a28B rfl rfl rfl)), List.forall_mem_cons.mpr ⟨(n_G_and0 (n_of1I n_a33 rfl rfl rfl) (n_of1B n_a33B rfl rfl rfl)), List.forall_mem_cons.mpr ⟨(n_G_and0 (n_of1I n_a46 rfl rfl rfl) (n_of1B n_a46B rfl rfl rfl)), List.forall_mem_cons.mpr ⟨(n_G_and0 (n_of1I n_a47 rfl rfl rfl) (n_of1B n_a47B rfl rfl rfl)), List.forall_mem_cons.mpr ⟨(n_G_and0 (n_of1I n_a49 rfl rfl rfl) (n_of1B n_a49B rfl rfl rfl)), List.forall_mem_cons.mpr ⟨(n_G_and0 (n_of1I n_a52 rfl rfl rfl) (n_of1B n_a52B rfl rfl rfl)), List.forall_mem_cons.mpr ⟨(n_G_and0 (n_of1I n_a54 rfl rfl rfl) (n_of1B n_a54B rfl rfl rfl)), List.forall_mem_cons.mpr ⟨(n_P1 rfl (Or.inr ⟨(n_of1 n_a57 rfl rfl rfl), rfl⟩) (Or.inl ⟨(n_ofcB (n_c57B) rfl rfl rfl), rfl⟩)), List.forall_mem_cons.mpr ⟨(n_G_and0 (n_of1I n_a58 rfl rfl rfl) (n_of1B n_a58B rfl rfl rfl)), List.forall_mem_cons.mpr ⟨(n_G_and0 (n_of1 n_a61 rfl rfl rfl) (n_of1B n_a61B rfl rfl rfl)), List.forall_mem_cons.mpr ⟨(n_G_and0 (n_of1I n_a66 rfl rfl rfl) (n_of1B n_a66B rfl rfl rfl)), List.forall_mem_cons.mpr ⟨(n_G_and0 (n_of1I n_a68 rfl rfl rfl) (n_of1B n_a68B rfl rfl rfl)), List.forall_mem_cons.mpr ⟨(n_G_and0 (n_of1I n_a71 rfl rfl rfl) (n_of1B n_a71B rfl rfl rfl)), List.forall_mem_cons.mpr ⟨(n_P1 rfl (Or.inl ⟨(n_ofc (n_c74) rfl rfl rfl), rfl⟩) (Or.inl ⟨(n_ofcB (n_c74B) rfl rfl rfl), rfl⟩)), List.forall_mem_cons.mpr ⟨(n_P1 rfl (Or.inl ⟨(n_ofc (n_c76) rfl rfl rfl), rfl⟩) (Or.inl ⟨(n_ofcB (n_c76B) rfl rfl rfl), rfl⟩)), List.forall_mem_cons.mpr ⟨(n_P1 rfl (Or.inl ⟨(n_ofcS n_c77 rfl rfl rfl), rfl⟩) (Or.inl ⟨(n_ofcSB n_c77B rfl rfl rfl), rfl⟩)), List.forall_mem_cons.mpr ⟨(n_G_and0 (n_of1I n_a92 rfl rfl rfl) (n_of1B n_a92B rfl rfl rfl)), List.forall_mem_cons.mpr ⟨(n_G_and0 (n_of1I n_a112 rfl rfl rfl) (n_of1B n_a112B rfl rfl rfl)), fun _ h => absurd h List.not_mem_nil⟩⟩⟩⟩⟩⟩⟩⟩⟩⟩⟩⟩⟩⟩⟩⟩⟩⟩⟩⟩⟩⟩
def n_tbx1 : nT := [(113, 2, 2, false, 1, 0, 0), (114, 2, 1, false, 1, 0, 0), (115, 2, 4, false, 1, 0, 0), (119, 2, 2, false, 1, 0, 0), (125, 2, 1, false, 1, 0, 0), (127, 2, 2, false, 1, 1, 0), (128, 2, 2, false, 1, 0, 0), (137, 2, 2, false, 1, 0, 0), (139, 2, 2, false, 1, 0, 0), (143, 2, 4, false, 1, 0, 0), (145, 2, 2, false, 1, 0, 0), (146, 2, 3, false, 1, 0, 0), (149, 2, 5, false, 1, 0, 0), (153, 2, 2, false, 1, 0, 0), (156, 2, 2, false, 1, 0, 0), (157, 2, 3, true, 1, 1, 0), (159, 2, 1, false, 1, 0, 0), (162, 2, 1, false, 1, 0, 0), (163, 2, 1, false, 1, 1, 0), (165, 2, 1, false, 1, 1, 0), (168, 2, 1, false, 1, 0, 0), (173, 155, 2, false, 1, 2, 12)]
theorem n_tbx1_G : ∀ e ∈ n_tbx1, n_G X n_IP n_MdP e := List.forall_mem_cons.mpr ⟨(n_G_and0 (n_of1I n_a113 rfl rfl rfl) (n_of1B n_a113B rfl rfl rfl)), List.forall_mem_cons.mpr ⟨(n_G_and0 (n_of1I n_a114 rfl rfl rfl) (n_of1B n_a114B rfl rfl rfl)), List.forall_mem_cons.mpr ⟨(n_G_and0 (n_of1 n_a115 rfl rfl rfl) (n_of1B n_a115B rfl rfl rfl)), List.forall_mem_cons.mpr ⟨(n_G_and0 (n_of1I n_a119 rfl rfl rfl) (n_of1B n_a119B rfl rfl rfl)), List.forall_mem_cons.mpr ⟨(n_G_and0 (n_of1I n_a125 rfl rfl rfl) (n_of1B n_a125B rfl rfl rfl)), List.forall_mem_cons.mpr ⟨(n_P1 rfl (Or.inl ⟨(n_ofc (n_c127) rfl rfl rfl), rfl⟩) (Or.inl ⟨(n_ofcB (n_c127B) rfl rfl rfl), rfl⟩)), List.forall_mem_cons.mpr ⟨(n_G_and0 (n_of1I n_a128 rfl rfl rfl) (n_of1B n_a128B rfl rfl rfl)), List.forall_mem_cons.mpr ⟨(n_G_and0 (n_of1I n_a137 rfl rfl rfl) (n_of1B n_a137B rfl rfl rfl)), List.forall_mem_cons.mpr ⟨(n_G_and0 (n_of1I n_a139 rfl rfl rfl) (n_of1B n_a139B rfl rfl rfl)), List.forall_mem_cons.mpr ⟨(n_G_and0 (n_of1 n_a143 rfl rfl rfl) (n_of1B n_a143B rfl rfl rfl)), List.forall_mem_cons.mpr ⟨(n_G_and0 (n_of1 n_a145 rfl rfl rfl) (n_of1B n_a145B rfl rfl rfl)), List.forall_mem_cons.mpr ⟨(n_G_and0 (n_of1I n_a146 rfl rfl rfl) (n_of1B n_a146B rfl rfl rfl)), List.forall_mem_cons.mpr ⟨(n_G_and0 (n_of1 n_a149 rfl rfl rfl) (n_of1B n_a149B rfl rfl rfl)), List.forall_mem_cons.mpr ⟨(n_G_and0 (n_of1 n_a153 rfl rfl rfl) (n_of1B n_a153B rfl rfl rfl)), List.forall_mem_cons.mpr ⟨(n_G_and0 (n_of1 n_a156 rfl rfl rfl) (n_of1B n_a156B rfl rfl rfl)), List.forall_mem_cons.mpr ⟨(n_P1 rfl (Or.inl ⟨(n_ofc (n_c157) rfl rfl rfl), rfl⟩) (Or.inl ⟨(n_ofcB (n_c157B) rfl rfl rfl), rfl⟩)), List.forall_mem_cons.mpr ⟨(n_G_and0 (n_of1 n_a159 rfl rfl rfl) (n_of1B n_a159B rfl rfl rfl)), List.forall_mem_cons.mpr ⟨(n_G_and0 (n_of1 n_a162 rfl rfl rfl) (n_of1B n_a162B rfl rfl rfl)), List.forall_mem_cons.mpr ⟨(n_P1 rfl (Or.inl ⟨(n_ofc (n_c163) rfl rfl rfl), rfl⟩) (Or.inl ⟨(n_ofcB (n_c163B) rfl rfl rfl), rfl⟩)), List.forall_mem_cons.mpr ⟨(n_P1 rfl (Or.inl ⟨(n_ofc (n_c165) rfl rfl rfl), rfl⟩) (Or.inl ⟨(n_ofcB (n_c165B) rfl rfl rfl), rfl⟩)), List.forall_mem_cons.mpr ⟨(n_G_and0 (n_of1 n_a168 rfl rfl rfl) (n_of1B n_a168B rfl rfl rfl)), List.forall_mem_cons.mpr ⟨(n_P2 rfl (Or.inl ⟨(n_ofr (by decide) (n_r173) rfl rfl rfl), rfl⟩) (Or.inl ⟨(n_ofrB (by decide) (n_r173B) rfl rfl rfl), rfl⟩)), fun _ h => absurd h List.not_mem_nil⟩⟩⟩⟩⟩⟩⟩⟩⟩⟩⟩⟩⟩⟩⟩⟩⟩⟩⟩⟩⟩⟩
def n_tbx2 : nT := [(177, 155, 3, false, 1, 2, 17), (180, 155, 2, false, 1, 2, 21), (181, 155, 2, false, 1, 2, 24), (183, 155, 1, false, 1, 0, 0), (187, 155, 1, false, 1, 0, 0), (198, 155, 1, false, 1, 0, 0), (199, 155, 0, false, 1, 0, 0), (200, 155, 2, false, 1, 0, 0), (202, 155, 1, false, 1, 0, 0), (204, 155, 2, false, 1, 0, 0), (206, 155, 2, false, 1, 2, 57), (207, 155, 1, false, 1, 0, 0), (208, 155, 3, false, 1, 0, 0), (213, 155, 3, false, 1, 0, 0), (214, 155, 1, false, 1, 0, 0), (217, 155, 1, false, 1, 0, 0), (219, 155, 1, false, 1, 2, 74), (220, 155, 1, false, 1, 2, 76), (221, 155, 0, false, 1, 2, 77), (233, 155, 1, false, 1, 0, 0), (246, 155, 2, false, 1, 0, 0), (247, 155, 2, false, 1, 0, 0)]
theorem n_tbx2_G : ∀ e ∈ n_tbx2, n_G X n_IP n_MdP e := List.forall_mem_cons.mpr ⟨(n_P2 rfl (Or.inl ⟨(n_ofr (by decide) (n_r177) rfl rfl rfl), rfl⟩) (Or.inr ⟨(n_of1B n_a177B rfl rfl rfl), rfl⟩)), List.forall_mem_cons.mpr ⟨(n_P2 rfl (Or.inl ⟨(n_ofr (by decide) (n_r180) rfl rfl rfl), rfl⟩) (Or.inr ⟨(n_of1B n_a180B rfl rfl rfl), rfl⟩)), List.forall_mem_cons.mpr ⟨(n_P2 rfl (Or.inl ⟨(n_ofr (by decide) (n_r181) rfl rfl rfl), rfl⟩) (Or.inr ⟨(n_of1B n_a181B rfl rfl rfl), rfl⟩)), List.forall_mem_cons.mpr ⟨(n_G_and0 (n_of1 n_a183 rfl rfl rfl) (n_of1B n_a183B rfl rfl rfl)), List.forall_mem_cons.mpr ⟨(n_G_and0 (n_of1 n_a187 rfl rfl rfl) (n_of1B n_a187B rfl rfl rfl)), List.forall_mem_cons.mpr ⟨(n_G_and0 (n_of1 n_a198 rfl rfl rfl) (n_of1B n_a198B rfl rfl rfl)), List.forall_mem_cons.mpr ⟨(n_G_and0 (n_of1 n_a199 rfl rfl rfl) (n_of1B n_a199B rfl rfl rfl)), List.forall_mem_cons.mpr ⟨(n_G_and0 (n_of1 n_a200 rfl rfl rfl) (n_of1B n_a200B rfl rfl rfl)), List.forall_mem_cons.mpr ⟨(n_G_and0 (n_of1 n_a202 rfl rfl rfl) (n_of1B n_a202B rfl rfl rfl)), List.forall_mem_cons.mpr ⟨(n_G_and0 (n_of1 n_a204 rfl rfl rfl) (n_of1B n_a204B rfl rfl rfl)), List.forall_mem_cons.mpr ⟨(n_P2 rfl (Or.inr ⟨(n_of1 n_a206 rfl rfl rfl), rfl⟩) (Or.inl ⟨(n_ofrB (by decide) (n_r206B) rfl rfl rfl), rfl⟩)), List.forall_mem_cons.mpr ⟨(n_G_and0 (n_of1 n_a207 rfl rfl rfl) (n_of1B n_a207B rfl rfl rfl)), List.forall_mem_cons.mpr ⟨(n_G_and0 (n_of1 n_a208 rfl rfl rfl) (n_of1B n_a208B rfl rfl rfl)), List.forall_mem_cons.mpr ⟨(n_G_and0 (n_of1 n_a213 rfl rfl rfl) (n_of1B n_a213B rfl rfl rfl)), List.forall_mem_cons.mpr ⟨(n_G_and0 (n_of1 n_a214 rfl rfl rfl) (n_of1B n_a214B rfl rfl rfl)), List.forall_mem_cons.mpr ⟨(n_G_and0 (n_of1 n_a217 rfl rfl rfl) (n_of1B n_a217B rfl rfl rfl)), List.forall_mem_cons.mpr ⟨(n_P2 rfl (Or.inl ⟨(n_ofr (by decide) (n_r219) rfl rfl rfl), rfl⟩) (Or.inl ⟨(n_ofrB (by decide) (n_r219B) rfl rfl rfl), rfl⟩)), List.forall_mem_cons.mpr ⟨(n_P2 rfl (Or.inl ⟨(n_ofr (by decide) (n_r220) rfl rfl rfl), rfl⟩) (Or.inl ⟨(n_ofrB (by decide) (n_r220B) rfl rfl rfl), rfl⟩)), List.forall_mem_cons.mpr ⟨(n_P2 rfl (Or.inl ⟨(n_ofrS n_r221 rfl rfl rfl), rfl⟩) (Or.inl ⟨(n_ofrSB n_r221B rfl rfl rfl), rfl⟩)), List.forall_mem_cons.mpr ⟨(n_G_and0 (n_of1 n_a233 rfl rfl rfl) (n_of1B n_a233B rfl rfl rfl)), List.forall_mem_cons.mpr ⟨(n_G_and0 (n_of1 n_a246 rfl rfl rfl) (n_of1B n_a246B rfl rfl rfl)), List.forall_mem_cons.mpr ⟨(n_G_and0 (n_of1 n_a247 rfl rfl rfl) (n_of1B n_a247B rfl rfl rfl)), fun _ h => absurd h List.not_mem_nil⟩⟩⟩⟩⟩⟩⟩⟩⟩⟩⟩⟩⟩⟩⟩⟩⟩⟩⟩⟩⟩⟩
def n_tbx3 : nT := [(248, 155, 1, false, 1, 0, 0), (249, 155, 4, false, 1, 0, 0), (250, 155, 2, false, 1, 0, 0), (254, 155, 1, false, 1, 0, 0), (255, 155, 2, false, 1, 2, 127), (256, 155, 2, false, 1, 0, 0), (262, 155, 2, false, 1, 0, 0), (263, 155, 2, false, 1, 0, 0), (265, 155, 4, false, 1, 0, 0), (267, 155, 2, false, 1, 0, 0), (268, 155, 3, false, 1, 0, 0), (270, 155, 5, false, 1, 0, 0), (271, 155, 2, false, 1, 0, 0), (272, 155, 2, false, 1, 0, 0), (273, 155, 3, true, 1, 2, 157), (274, 155, 1, false, 1, 0, 0), (278, 155, 1, false, 1, 0, 0), (279, 155, 1, false, 1, 2, 163), (280, 155, 1, false, 1, 2, 165), (281, 155, 1, false, 1, 0, 0), (283, 155, 2, false, 1, 0, 0), (287, 155, 1, false, 2, 0, 0)]
theorem n_tbx3_G : ∀ e ∈ n_tbx3, n_G X n_IP n_MdP e := List.forall_mem_cons.mpr ⟨(n_G_and0 (n_of1 n_a248 rfl rfl rfl) (n_of1B n_a248B rfl rfl rfl)), List.forall_mem_cons.mpr ⟨(n_G_and0 (n_of1 n_a249 rfl rfl rfl) (n_of1B n_a249B rfl rfl rfl)), List.forall_mem_cons.mpr ⟨(n_G_and0 (n_of1 n_a250 rfl rfl rfl) (n_of1B n_a250B rfl rfl rfl)), List.forall_mem_cons.mpr ⟨(n_G_and0 (n_of1 n_a254 rfl rfl rfl) (n_of1B n_a254B rfl rfl rfl)), List.forall_mem_cons.mpr ⟨(n_P2 rfl (Or.inl ⟨(n_ofr (by decide) (n_r255) rfl rfl rfl), rfl⟩) (Or.inl ⟨(n_ofrB (by decide) (n_r255B) rfl rfl rfl), rfl⟩)), List.forall_mem_cons.mpr ⟨(n_G_and0 (n_of1 n_a256 rfl rfl rfl) (n_of1B n_a256B rfl rfl rfl)), List.forall_mem_cons.mpr ⟨(n_G_and0 (n_of1 n_a262 rfl rfl rfl) (n_of1B n_a262B rfl rfl rfl)), List.forall_mem_cons.mpr ⟨(n_G_and0 (n_of1 n_a263 rfl rfl rfl) (n_of1B n_a263B rfl rfl rfl)), List.forall_mem_cons.mpr ⟨(n_G_and0 (n_of1 n_a265 rfl rfl rfl) (n_of1B n_a265B rfl rfl rfl)), List.forall_mem_cons.mpr ⟨(n_G_and0 (n_of1 n_a267 rfl rfl rfl) (n_of1B n_a267B rfl rfl rfl)), List.forall_mem_cons.mpr ⟨(n_G_and0 (n_of1 n_a268 rfl rfl rfl) (n_of1B n_a268B rfl rfl rfl)), List.forall_mem_cons.mpr ⟨(n_G_and0 (n_of1 n_a270 rfl rfl rfl) (n_of1B n_a270B rfl rfl rfl)), List.forall_mem_cons.mpr ⟨(n_G_and0 (n_of1 n_a271 rfl rfl rfl) (n_of1B n_a271B rfl rfl rfl)), List.forall_mem_cons.mpr ⟨(n_G_and0 (n_of1 n_a272 rfl rfl rfl) (n_of1B n_a272B rfl rfl rfl)), List.forall_mem_cons.mpr ⟨(n_P2 rfl (Or.inl ⟨(n_ofr (by decide) (n_r273) rfl rfl rfl), rfl⟩) (Or.inl ⟨(n_ofrB (by decide) (n_r273B) rfl rfl rfl), rfl⟩)), List.forall_mem_cons.mpr ⟨(n_G_and0 (n_of1 n_a274 rfl rfl rfl) (n_of1B n_a274B rfl rfl rfl)), List.forall_mem_cons.mpr ⟨(n_G_and0 (n_of1 n_a278 rfl rfl rfl) (n_of1B n_a278B rfl rfl rfl)), List.forall_mem_cons.mpr ⟨(n_P2 rfl (Or.inl ⟨(n_ofr (by decide) (n_r279) rfl rfl rfl), rfl⟩) (Or.inl ⟨(n_ofrB (by decide) (n_r279B) rfl rfl rfl), rfl⟩)), List.forall_mem_cons.mpr ⟨(n_P2 rfl (Or.inl ⟨(n_ofr (by decide) (n_r280) rfl rfl rfl), rfl⟩) (Or.inl ⟨(n_ofrB (by decide) (n_r280B) rfl rfl rfl), rfl⟩)), List.forall_mem_cons.mpr ⟨(n_G_and0 (n_of1 n_a281 rfl rfl rfl) (n_of1B n_a281B rfl rfl rfl)), List.forall_mem_cons.mpr ⟨(n_G_and0 (n_of1 n_a283 rfl rfl rfl) (n_of1B n_a283B rfl rfl rfl)), List.forall_mem_cons.mpr ⟨(n_G_and0 (n_of2 n_a287 rfl rfl rfl) (n_of2B n_a287B rfl rfl rfl)), fun _ h => absurd h List.not_mem_nil⟩⟩⟩⟩⟩⟩⟩⟩⟩⟩⟩⟩⟩⟩⟩⟩⟩⟩⟩⟩⟩⟩
theorem n_tb_e : n_tb = n_tbx0 ++ (n_tbx1 ++ (n_tbx2 ++ (n_tbx3))) := rfl
theorem n_tb_T : ∀ e ∈ n_tb, n_G X n_IP n_MdP e := by
  intro e h
  rw [n_tb_e] at h
  exact (List.mem_append.mp h).elim (fun h => n_tbx0_G e h) (fun h => (List.mem_append.mp h).elim (fun h => n_tbx1_G e h) (fun h => (List.mem_append.mp h).elim (fun h => n_tbx2_G e h) (fun h => n_tbx3_G e h)))
def l_offs : List Int := [196, 233, 282, 319, 356, 381, 406, 431, 444, 481, 506, 543, 580, 605, 654, 703, 728, 753, 778, 803, 816, 841, 878, 915, 940, 1001, 1038, 1063, 1100, 1137, 1174, 1211, 1272, 1309, 1358, 1431, 1468, 1505, 1602, 1627, 1652, 1677, 1702, 1727, 1795]
set_option maxRecDepth 100000 in
theorem l_chk : l_offs.all (fun o => decide (0 ≤ o) && (decide (o = 1727) || n_run n_tb 400 1 [] none (l_to (40 + o).toNat a_cL) [])) = true := by decide +kernel
theorem l_sufL : l_suf a_cL := ⟨[], rfl⟩
theorem l_at {t : Nat} {e : Nat × aI} {r : List (Nat × aI)} (h : l_to t a_cL = e :: r) : a_mL.2.2.2.2.2.lookup e.1 = some e.2 := (l_look (h ▸ l_suf_to l_sufL)).1
set_option maxRecDepth 100000 in
theorem l_1863 : l_to 1863 a_cL = (1863, .iinc 4 6, 3, 0, 0, 0, 0) :: l_to 1866 a_cL := rfl
set_option maxRecDepth 100000 in
theorem l_1866 : l_to 1866 a_cL = (1866, .goto (-1843), 3, 0, 23, 0, 0) :: l_to 1869 a_cL := rfl
set_option maxRecDepth 100000 in
theorem l_1869 : l_to 1869 a_cL = (1869, .iconst 1, 1, 0, 0, 0, 0) :: l_to 1870 a_cL := rfl
set_option maxRecDepth 100000 in
theorem l_1870 : l_to 1870 a_cL = [(1870, .ireturn, 1, 0, 0, 0, 0)] := rfl
theorem l_k1863 : a_mL.2.2.2.2.2.lookup 1863 = some (.iinc 4 6, 3, 0, 0, 0, 0) := by
  have h := l_at (e := (1863, .iinc 4 6, 3, 0, 0, 0, 0)) l_1863
  exact h
theorem l_k1866 : a_mL.2.2.2.2.2.lookup 1866 = some (.goto (-1843), 3, 0, 23, 0, 0) := by
  have h := l_at (e := (1866, .goto (-1843), 3, 0, 23, 0, 0)) l_1866
  exact h
theorem l_k1869 : a_mL.2.2.2.2.2.lookup 1869 = some (.iconst 1, 1, 0, 0, 0, 0) := by
  have h := l_at (e := (1869, .iconst 1, 1, 0, 0, 0, 0)) l_1869
  exact h
theorem l_k1870 : a_mL.2.2.2.2.2.lookup 1870 = some (.ireturn, 1, 0, 0, 0, 0) := by
  have h := l_at (e := (1870, .ireturn, 1, 0, 0, 0, 0)) l_1870
  exact h
end NJ
/-! ===== v45: the law's way through of(): lookups, and the walk (laid by wip/tools/mk45.py) ===== -/
theorem l_cmp0 {x : Int64} : lg_cmp x x = 0 := by
  unfold lg_cmp
  rw [if_neg (fun w => Int64.lt_irrefl w), if_pos rfl]
set_option maxRecDepth 100000 in
theorem l_t1767 : l_to 1767 a_cL = (1767, .aload_n 1, 1, 0, 0, 0, 0) :: l_to 1768 a_cL := rfl
theorem l_k1767 : a_mL.2.2.2.2.2.lookup 1767 = some (.aload_n 1, 1, 0, 0, 0, 0) := by
  have h := l_at (e := (1767, .aload_n 1, 1, 0, 0, 0, 0)) l_t1767
  exact h
set_option maxRecDepth 100000 in
theorem l_t1768 : l_to 1768 a_cL = (1768, .aload_n 0, 1, 0, 0, 0, 0) :: l_to 1769 a_cL := rfl
theorem l_k1768 : a_mL.2.2.2.2.2.lookup 1768 = some (.aload_n 0, 1, 0, 0, 0, 0) := by
  have h := l_at (e := (1768, .aload_n 0, 1, 0, 0, 0, 0)) l_t1768
  exact h
set_option maxRecDepth 100000 in
theorem l_t1769 : l_to 1769 a_cL = (1769, .iload 4, 2, 0, 0, 0, 0) :: l_to 1771 a_cL := rfl
theorem l_k1769 : a_mL.2.2.2.2.2.lookup 1769 = some (.iload 4, 2, 0, 0, 0, 0) := by
  have h := l_at (e := (1769, .iload 4, 2, 0, 0, 0, 0)) l_t1769
  exact h
set_option maxRecDepth 100000 in
theorem l_t1771 : l_to 1771 a_cL = (1771, .iconst 1, 1, 0, 0, 0, 0) :: l_to 1772 a_cL := rfl
theorem l_k1771 : a_mL.2.2.2.2.2.lookup 1771 = some (.iconst 1, 1, 0, 0, 0, 0) := by
  have h := l_at (e := (1771, .iconst 1, 1, 0, 0, 0, 0)) l_t1771
  exact h
set_option maxRecDepth 100000 in
theorem l_t1772 : l_to 1772 a_cL = (1772, .iadd, 1, 0, 0, 0, 0) :: l_to 1773 a_cL := rfl
theorem l_k1772 : a_mL.2.2.2.2.2.lookup 1772 = some (.iadd, 1, 0, 0, 0, 0) := by
  have h := l_at (e := (1772, .iadd, 1, 0, 0, 0, 0)) l_t1772
  exact h
set_option maxRecDepth 100000 in
theorem l_t1773 : l_to 1773 a_cL = (1773, .iaload, 1, 0, 0, 0, 0) :: l_to 1774 a_cL := rfl
theorem l_k1773 : a_mL.2.2.2.2.2.lookup 1773 = some (.iaload, 1, 0, 0, 0, 0) := by
  have h := l_at (e := (1773, .iaload, 1, 0, 0, 0, 0)) l_t1773
  exact h
set_option maxRecDepth 100000 in
theorem l_t1774 : l_to 1774 a_cL = (1774, .aload_n 0, 1, 0, 0, 0, 0) :: l_to 1775 a_cL := rfl
theorem l_k1774 : a_mL.2.2.2.2.2.lookup 1774 = some (.aload_n 0, 1, 0, 0, 0, 0) := by
  have h := l_at (e := (1774, .aload_n 0, 1, 0, 0, 0, 0)) l_t1774
  exact h
set_option maxRecDepth 100000 in
theorem l_t1775 : l_to 1775 a_cL = (1775, .iload 4, 2, 0, 0, 0, 0) :: l_to 1777 a_cL := rfl
theorem l_k1775 : a_mL.2.2.2.2.2.lookup 1775 = some (.iload 4, 2, 0, 0, 0, 0) := by
  have h := l_at (e := (1775, .iload 4, 2, 0, 0, 0, 0)) l_t1775
  exact h
set_option maxRecDepth 100000 in
theorem l_t1777 : l_to 1777 a_cL = (1777, .iconst 2, 1, 0, 0, 0, 0) :: l_to 1778 a_cL := rfl
theorem l_k1777 : a_mL.2.2.2.2.2.lookup 1777 = some (.iconst 2, 1, 0, 0, 0, 0) := by
  have h := l_at (e := (1777, .iconst 2, 1, 0, 0, 0, 0)) l_t1777
  exact h
set_option maxRecDepth 100000 in
theorem l_t1778 : l_to 1778 a_cL = (1778, .iadd, 1, 0, 0, 0, 0) :: l_to 1779 a_cL := rfl
theorem l_k1778 : a_mL.2.2.2.2.2.lookup 1778 = some (.iadd, 1, 0, 0, 0, 0) := by
  have h := l_at (e := (1778, .iadd, 1, 0, 0, 0, 0)) l_t1778
  exact h
set_option maxRecDepth 100000 in
theorem l_t1779 : l_to 1779 a_cL = (1779, .iaload, 1, 0, 0, 0, 0) :: l_to 1780 a_cL := rfl
theorem l_k1779 : a_mL.2.2.2.2.2.lookup 1779 = some (.iaload, 1, 0, 0, 0, 0) := by
  have h := l_at (e := (1779, .iaload, 1, 0, 0, 0, 0)) l_t1779
  exact h
set_option maxRecDepth 100000 in
theorem l_t1780 : l_to 1780 a_cL = (1780, .aload_n 3, 1, 0, 0, 0, 0) :: l_to 1781 a_cL := rfl
theorem l_k1780 : a_mL.2.2.2.2.2.lookup 1780 = some (.aload_n 3, 1, 0, 0, 0, 0) := by
  have h := l_at (e := (1780, .aload_n 3, 1, 0, 0, 0, 0)) l_t1780
  exact h
set_option maxRecDepth 100000 in
theorem l_t1781 : l_to 1781 a_cL = (1781, .invokestatic 203, 3, 20, 169, 0, 5155) :: l_to 1784 a_cL := rfl
theorem l_k1781 : a_mL.2.2.2.2.2.lookup 1781 = some (.invokestatic 203, 3, 20, 169, 0, 5155) := by
  have h := l_at (e := (1781, .invokestatic 203, 3, 20, 169, 0, 5155)) l_t1781
  exact h
set_option maxRecDepth 100000 in
theorem l_t1784 : l_to 1784 a_cL = (1784, .istore 5, 2, 0, 0, 0, 0) :: l_to 1786 a_cL := rfl
theorem l_k1784 : a_mL.2.2.2.2.2.lookup 1784 = some (.istore 5, 2, 0, 0, 0, 0) := by
  have h := l_at (e := (1784, .istore 5, 2, 0, 0, 0, 0)) l_t1784
  exact h
set_option maxRecDepth 100000 in
theorem l_t1786 : l_to 1786 a_cL = (1786, .aload_n 2, 1, 0, 0, 0, 0) :: l_to 1787 a_cL := rfl
theorem l_k1786 : a_mL.2.2.2.2.2.lookup 1786 = some (.aload_n 2, 1, 0, 0, 0, 0) := by
  have h := l_at (e := (1786, .aload_n 2, 1, 0, 0, 0, 0)) l_t1786
  exact h
set_option maxRecDepth 100000 in
theorem l_t1787 : l_to 1787 a_cL = (1787, .aload_n 0, 1, 0, 0, 0, 0) :: l_to 1788 a_cL := rfl
theorem l_k1787 : a_mL.2.2.2.2.2.lookup 1787 = some (.aload_n 0, 1, 0, 0, 0, 0) := by
  have h := l_at (e := (1787, .aload_n 0, 1, 0, 0, 0, 0)) l_t1787
  exact h
set_option maxRecDepth 100000 in
theorem l_t1788 : l_to 1788 a_cL = (1788, .iload 4, 2, 0, 0, 0, 0) :: l_to 1790 a_cL := rfl
theorem l_k1788 : a_mL.2.2.2.2.2.lookup 1788 = some (.iload 4, 2, 0, 0, 0, 0) := by
  have h := l_at (e := (1788, .iload 4, 2, 0, 0, 0, 0)) l_t1788
  exact h
set_option maxRecDepth 100000 in
theorem l_t1790 : l_to 1790 a_cL = (1790, .iconst 1, 1, 0, 0, 0, 0) :: l_to 1791 a_cL := rfl
theorem l_k1790 : a_mL.2.2.2.2.2.lookup 1790 = some (.iconst 1, 1, 0, 0, 0, 0) := by
  have h := l_at (e := (1790, .iconst 1, 1, 0, 0, 0, 0)) l_t1790
  exact h
set_option maxRecDepth 100000 in
theorem l_t1791 : l_to 1791 a_cL = (1791, .iadd, 1, 0, 0, 0, 0) :: l_to 1792 a_cL := rfl
theorem l_k1791 : a_mL.2.2.2.2.2.lookup 1791 = some (.iadd, 1, 0, 0, 0, 0) := by
  have h := l_at (e := (1791, .iadd, 1, 0, 0, 0, 0)) l_t1791
  exact h
set_option maxRecDepth 100000 in
theorem l_t1792 : l_to 1792 a_cL = (1792, .iaload, 1, 0, 0, 0, 0) :: l_to 1793 a_cL := rfl
theorem l_k1792 : a_mL.2.2.2.2.2.lookup 1792 = some (.iaload, 1, 0, 0, 0, 0) := by
  have h := l_at (e := (1792, .iaload, 1, 0, 0, 0, 0)) l_t1792
  exact h
set_option maxRecDepth 100000 in
theorem l_t1793 : l_to 1793 a_cL = (1793, .aload_n 0, 1, 0, 0, 0, 0) :: l_to 1794 a_cL := rfl
theorem l_k1793 : a_mL.2.2.2.2.2.lookup 1793 = some (.aload_n 0, 1, 0, 0, 0, 0) := by
  have h := l_at (e := (1793, .aload_n 0, 1, 0, 0, 0, 0)) l_t1793
  exact h
set_option maxRecDepth 100000 in
theorem l_t1794 : l_to 1794 a_cL = (1794, .iload 4, 2, 0, 0, 0, 0) :: l_to 1796 a_cL := rfl
theorem l_k1794 : a_mL.2.2.2.2.2.lookup 1794 = some (.iload 4, 2, 0, 0, 0, 0) := by
  have h := l_at (e := (1794, .iload 4, 2, 0, 0, 0, 0)) l_t1794
  exact h
set_option maxRecDepth 100000 in
theorem l_t1796 : l_to 1796 a_cL = (1796, .iconst 2, 1, 0, 0, 0, 0) :: l_to 1797 a_cL := rfl
theorem l_k1796 : a_mL.2.2.2.2.2.lookup 1796 = some (.iconst 2, 1, 0, 0, 0, 0) := by
  have h := l_at (e := (1796, .iconst 2, 1, 0, 0, 0, 0)) l_t1796
  exact h
set_option maxRecDepth 100000 in
theorem l_t1797 : l_to 1797 a_cL = (1797, .iadd, 1, 0, 0, 0, 0) :: l_to 1798 a_cL := rfl
theorem l_k1797 : a_mL.2.2.2.2.2.lookup 1797 = some (.iadd, 1, 0, 0, 0, 0) := by
  have h := l_at (e := (1797, .iadd, 1, 0, 0, 0, 0)) l_t1797
  exact h
set_option maxRecDepth 100000 in
theorem l_t1798 : l_to 1798 a_cL = (1798, .iaload, 1, 0, 0, 0, 0) :: l_to 1799 a_cL := rfl
theorem l_k1798 : a_mL.2.2.2.2.2.lookup 1798 = some (.iaload, 1, 0, 0, 0, 0) := by
  have h := l_at (e := (1798, .iaload, 1, 0, 0, 0, 0)) l_t1798
  exact h
set_option maxRecDepth 100000 in
theorem l_t1799 : l_to 1799 a_cL = (1799, .invokevirtual 208, 3, 4, 283, 12, 7221) :: l_to 1802 a_cL := rfl
theorem l_k1799 : a_mL.2.2.2.2.2.lookup 1799 = some (.invokevirtual 208, 3, 4, 283, 12, 7221) := by
  have h := l_at (e := (1799, .invokevirtual 208, 3, 4, 283, 12, 7221)) l_t1799
  exact h
set_option maxRecDepth 100000 in
theorem l_t1802 : l_to 1802 a_cL = (1802, .istore 6, 2, 0, 0, 0, 0) :: l_to 1804 a_cL := rfl
theorem l_k1802 : a_mL.2.2.2.2.2.lookup 1802 = some (.istore 6, 2, 0, 0, 0, 0) := by
  have h := l_at (e := (1802, .istore 6, 2, 0, 0, 0, 0)) l_t1802
  exact h
set_option maxRecDepth 100000 in
theorem l_t1804 : l_to 1804 a_cL = (1804, .aload_n 2, 1, 0, 0, 0, 0) :: l_to 1805 a_cL := rfl
theorem l_k1804 : a_mL.2.2.2.2.2.lookup 1804 = some (.aload_n 2, 1, 0, 0, 0, 0) := by
  have h := l_at (e := (1804, .aload_n 2, 1, 0, 0, 0, 0)) l_t1804
  exact h
set_option maxRecDepth 100000 in
theorem l_t1805 : l_to 1805 a_cL = (1805, .invokevirtual 209, 3, 4, 288, 12, 5238) :: l_to 1808 a_cL := rfl
theorem l_k1805 : a_mL.2.2.2.2.2.lookup 1805 = some (.invokevirtual 209, 3, 4, 288, 12, 5238) := by
  have h := l_at (e := (1805, .invokevirtual 209, 3, 4, 288, 12, 5238)) l_t1805
  exact h
set_option maxRecDepth 100000 in
theorem l_t1808 : l_to 1808 a_cL = (1808, .iload 5, 2, 0, 0, 0, 0) :: l_to 1810 a_cL := rfl
theorem l_k1808 : a_mL.2.2.2.2.2.lookup 1808 = some (.iload 5, 2, 0, 0, 0, 0) := by
  have h := l_at (e := (1808, .iload 5, 2, 0, 0, 0, 0)) l_t1808
  exact h
set_option maxRecDepth 100000 in
theorem l_t1810 : l_to 1810 a_cL = (1810, .if_icmp .eq 5, 3, 0, 1815, 0, 0) :: l_to 1813 a_cL := rfl
theorem l_k1810 : a_mL.2.2.2.2.2.lookup 1810 = some (.if_icmp .eq 5, 3, 0, 1815, 0, 0) := by
  have h := l_at (e := (1810, .if_icmp .eq 5, 3, 0, 1815, 0, 0)) l_t1810
  exact h
set_option maxRecDepth 100000 in
theorem l_t1815 : l_to 1815 a_cL = (1815, .iload 5, 2, 0, 0, 0, 0) :: l_to 1817 a_cL := rfl
theorem l_k1815 : a_mL.2.2.2.2.2.lookup 1815 = some (.iload 5, 2, 0, 0, 0, 0) := by
  have h := l_at (e := (1815, .iload 5, 2, 0, 0, 0, 0)) l_t1815
  exact h
set_option maxRecDepth 100000 in
theorem l_t1817 : l_to 1817 a_cL = (1817, .ifCond .ne 15, 3, 0, 1832, 0, 0) :: l_to 1820 a_cL := rfl
theorem l_k1817 : a_mL.2.2.2.2.2.lookup 1817 = some (.ifCond .ne 15, 3, 0, 1832, 0, 0) := by
  have h := l_at (e := (1817, .ifCond .ne 15, 3, 0, 1832, 0, 0)) l_t1817
  exact h
set_option maxRecDepth 100000 in
theorem l_t1820 : l_to 1820 a_cL = (1820, .aload_n 3, 1, 0, 0, 0, 0) :: l_to 1821 a_cL := rfl
theorem l_k1820 : a_mL.2.2.2.2.2.lookup 1820 = some (.aload_n 3, 1, 0, 0, 0, 0) := by
  have h := l_at (e := (1820, .aload_n 3, 1, 0, 0, 0, 0)) l_t1820
  exact h
set_option maxRecDepth 100000 in
theorem l_t1821 : l_to 1821 a_cL = (1821, .iconst 0, 1, 0, 0, 0, 0) :: l_to 1822 a_cL := rfl
theorem l_k1821 : a_mL.2.2.2.2.2.lookup 1821 = some (.iconst 0, 1, 0, 0, 0, 0) := by
  have h := l_at (e := (1821, .iconst 0, 1, 0, 0, 0, 0)) l_t1821
  exact h
set_option maxRecDepth 100000 in
theorem l_t1822 : l_to 1822 a_cL = (1822, .laload, 1, 0, 0, 0, 0) :: l_to 1823 a_cL := rfl
theorem l_k1822 : a_mL.2.2.2.2.2.lookup 1822 = some (.laload, 1, 0, 0, 0, 0) := by
  have h := l_at (e := (1822, .laload, 1, 0, 0, 0, 0)) l_t1822
  exact h
set_option maxRecDepth 100000 in
theorem l_t1823 : l_to 1823 a_cL = (1823, .iload 6, 2, 0, 0, 0, 0) :: l_to 1825 a_cL := rfl
theorem l_k1823 : a_mL.2.2.2.2.2.lookup 1823 = some (.iload 6, 2, 0, 0, 0, 0) := by
  have h := l_at (e := (1823, .iload 6, 2, 0, 0, 0, 0)) l_t1823
  exact h
set_option maxRecDepth 100000 in
theorem l_t1825 : l_to 1825 a_cL = (1825, .i2l, 1, 0, 0, 0, 0) :: l_to 1826 a_cL := rfl
theorem l_k1825 : a_mL.2.2.2.2.2.lookup 1825 = some (.i2l, 1, 0, 0, 0, 0) := by
  have h := l_at (e := (1825, .i2l, 1, 0, 0, 0, 0)) l_t1825
  exact h
set_option maxRecDepth 100000 in
theorem l_t1826 : l_to 1826 a_cL = (1826, .lcmp, 1, 0, 0, 0, 0) :: l_to 1827 a_cL := rfl
theorem l_k1826 : a_mL.2.2.2.2.2.lookup 1826 = some (.lcmp, 1, 0, 0, 0, 0) := by
  have h := l_at (e := (1826, .lcmp, 1, 0, 0, 0, 0)) l_t1826
  exact h
set_option maxRecDepth 100000 in
theorem l_t1827 : l_to 1827 a_cL = (1827, .ifCond .eq 5, 3, 0, 1832, 0, 0) :: l_to 1830 a_cL := rfl
theorem l_k1827 : a_mL.2.2.2.2.2.lookup 1827 = some (.ifCond .eq 5, 3, 0, 1832, 0, 0) := by
  have h := l_at (e := (1827, .ifCond .eq 5, 3, 0, 1832, 0, 0)) l_t1827
  exact h
set_option maxRecDepth 100000 in
theorem l_t1832 : l_to 1832 a_cL = (1832, .goto 31, 3, 0, 1863, 0, 0) :: l_to 1835 a_cL := rfl
theorem l_k1832 : a_mL.2.2.2.2.2.lookup 1832 = some (.goto 31, 3, 0, 1863, 0, 0) := by
  have h := l_at (e := (1832, .goto 31, 3, 0, 1863, 0, 0)) l_t1832
  exact h
section L43
variable {L : Nat} {xs : Nat → Int32} {i : Nat} {iI : Int32} {CB SB : Nat} {K : Option Value → aH → Nat → Nat → Prop}
/-- behind both calls -/
theorem l_op43c {a b k r : Int32} {c : Option Value} {H : aH} {C S : Nat} {v w : Nat → Int32} (q : n_2V H v w) (hend : aOK s_P (some (L, xs)) 202 a_mL 1863 (l_ls iI (some (.int k)) (some (.int r)) c) [] H C S K) (hq : (k = Int32.ofInt 0 ∧ w_a H 195 = some (1, .inr (.inl [r.toInt64]))) ∨ k = 1) : aOK s_P (some (L, xs)) 202 a_mL 1815 (l_ls iI (some (.int k)) (some (.int r)) c) [] H C S K := by
  have T1832 : aOK s_P (some (L, xs)) 202 a_mL 1832 (l_ls iI (some (.int k)) (some (.int r)) c) [] H C S K := aOK_op l_k1832 (show _ = some (1863, l_ls iI (some (.int k)) (some (.int r)) c, [], H, 0, 0) from rfl) hend
  refine aOK_op l_k1815 (show _ = some (1817, l_ls iI (some (.int k)) (some (.int r)) c, [.int k], H, 0, 0) from rfl) ?_
  refine aOK_op l_k1817 (show _ = some (if a_cnd .ne k 0 then 1832 else 1820, l_ls iI (some (.int k)) (some (.int r)) c, [], H, 0, 0) from rfl) ?_
  rcases hq with ⟨rfl, hw⟩ | rfl
  · rw [if_neg (show ¬ a_cnd .ne (Int32.ofInt 0) 0 = true by decide)]
    refine aOK_op l_k1820 (show _ = some (1821, l_ls iI (some (.int (Int32.ofInt 0))) (some (.int r)) c, [.ref 197], H, 0, 0) from rfl) ?_
    refine aOK_op l_k1821 (show _ = some (1822, l_ls iI (some (.int (Int32.ofInt 0))) (some (.int r)) c, [.int (Int32.ofInt 0), .ref 197], H, 0, 0) from rfl) ?_
    have hl : a_hp .laload (0, 0, 0, 0) [.int (Int32.ofInt 0), .ref (195 + 2)] H = some ([.long r.toInt64], H, 0, 0) := by
      show a_lald [.int (Int32.ofInt 0), .ref (195 + 2)] H = _
      unfold a_lald
      dsimp only
      rw [w_a_inv hw]
      rfl
    refine aOK_op l_k1822 (y_ophp rfl rfl rfl hl) ?_
    refine aOK_op l_k1823 (show _ = some (1825, l_ls iI (some (.int (Int32.ofInt 0))) (some (.int r)) c, [.int r, .long r.toInt64], H, 0, 0) from rfl) ?_
    refine aOK_op l_k1825 (show _ = some (1826, l_ls iI (some (.int (Int32.ofInt 0))) (some (.int r)) c, [.long r.toInt64, .long r.toInt64], H, 0, 0) from rfl) ?_
    obtain ⟨z, hz, ho⟩ : ∃ z : Int32, z = 0 ∧ a_op (some (L, xs)) .lcmp 1 (0, 0, 0, 0) 1826 (l_ls iI (some (.int (Int32.ofInt 0))) (some (.int r)) c) [.long r.toInt64, .long r.toInt64] H = some (1827, l_ls iI (some (.int (Int32.ofInt 0))) (some (.int r)) c, [.int z], H, 0, 0) := ⟨_, l_cmp0, rfl⟩
    subst hz
    refine aOK_op l_k1826 ho ?_
    refine aOK_op l_k1827 (show _ = some (if a_cnd .eq (0 : Int32) 0 then 1832 else 1830, l_ls iI (some (.int (Int32.ofInt 0))) (some (.int r)) c, [], H, 0, 0) from rfl) ?_
    rw [if_pos (show a_cnd .eq (0 : Int32) 0 = true by decide)]
    exact T1832
  · rw [if_pos (show a_cnd .ne (1 : Int32) 0 = true by decide)]
    exact T1832
/-- the reference's call, and whether it threw -/
theorem l_op43b (hi5 : i + 5 < L) (hL : L ≤ 3072) (hi : iI.toInt = i) {k : Int32} {b c : Option Value} {H : aH} {C S : Nat} {v w : Nat → Int32} (q : n_2V H v w) (hq : (n_ofV v (xs (i + 1)) (xs (i + 2)) ∧ k = Int32.ofInt 0 ∧ w_a H 195 = some (1, .inr (.inl [(n_ofA v (n_l7B w) (xs (i + 1)) (xs (i + 2))).toInt64]))) ∨ (¬ n_ofV v (xs (i + 1)) (xs (i + 2)) ∧ k = 1)) (hend : ∀ (b c : Option Value) (G : aH), n_2V G v w → aOK s_P (some (L, xs)) 202 a_mL 1863 (l_ls iI (some (.int k)) b c) [] G C S K) : aOK s_P (some (L, xs)) 202 a_mL 1786 (l_ls iI (some (.int k)) b c) [] H C S K := by
  obtain ⟨hI, ⟨hc, hm⟩, hcB, hmB⟩ := id q
  have a1 : w_a H 161 = some (0, .inl (n_l7B w)) := hmB.2.1.2.2.1
  -- thrown() is as it should be
  have T1808 : ∀ {G : aH} {r t : Int32}, n_2V G v w → ((k = Int32.ofInt 0 ∧ w_a G 195 = some (1, .inr (.inl [r.toInt64]))) ∨ k = 1) → t = k → aOK s_P (some (L, xs)) 202 a_mL 1808 (l_ls iI (some (.int k)) (some (.int r)) c) [.int t] G C S K := by
    intro G r t q2 h2 ht
    subst ht
    refine aOK_op l_k1808 (show _ = some (1810, l_ls iI (some (.int t)) (some (.int r)) c, [.int t, .int t], G, 0, 0) from rfl) ?_
    refine aOK_op l_k1810 (show _ = some (if a_cnd .eq t t then 1815 else 1813, l_ls iI (some (.int t)) (some (.int r)) c, [], G, 0, 0) from rfl) ?_
    rw [if_pos (show a_cnd .eq t t = true from decide_eq_true rfl)]
    exact l_op43c (a := 0) (b := 0) q2 (hend _ c G q2) h2
  have T1802 : ∀ {G : aH} {r t : Int32}, n_2V G v w → w_f G 19584 = some (.int t) → ((k = Int32.ofInt 0 ∧ w_a G 195 = some (1, .inr (.inl [r.toInt64]))) ∨ k = 1) → t = k → aOK s_P (some (L, xs)) 202 a_mL 1802 (l_ls iI (some (.int k)) b c) [.int r] G C S K := by
    intro G r t q2 g2 h2 ht
    refine aOK_op l_k1802 (show _ = some (1804, l_ls iI (some (.int k)) (some (.int r)) c, [], G, 0, 0) from rfl) ?_
    refine aOK_op l_k1804 (show _ = some (1805, l_ls iI (some (.int k)) (some (.int r)) c, [.ref 155], G, 0, 0) from rfl) ?_
    have hinv : a_inv s_P (.invokevirtual 209) (4, 288, 12, 5238) [.ref 155] G = some (a_m288, [.ref 155], []) := by
      have hrc := l_recv q2.1.1 (r0 := 155) (ci := 12) rfl
      show (if a_recv G (.ref 155) 12 = true ∧ _ ∧ _ then some _ else none) = _
      rw [if_pos ⟨hrc, Nat.le_of_ble_eq_true rfl, Nat.le_of_ble_eq_true rfl⟩]
      rfl
    refine aOK_call l_k1805 rfl rfl hinv ?_
    show aOK s_P (some (L, xs)) 201 a_m288 0 [some (.ref 155)] [] G C S _
    refine w_go z_hl [] [] 20 q2.1.1 ?_
    intro x hx _ _
    obtain rfl := y_fi g2 hx
    intro G2 h2'
    have e : y_fr G G2 [] [] := y_st (y_rf q2.1.1) h2' (by repeat (first | exact w_nil | refine w_cons (Or.inl (y_m rfl)) ?_ | refine w_cons (Or.inr (by assumption)) ?_)) (by repeat (first | exact w_nil | refine w_cons (Or.inl (y_m rfl)) ?_ | refine w_cons (Or.inr (by assumption)) ?_))
    refine Or.inr ⟨fun n z => (by cases z), ?_⟩
    have q3 := n_2V_out (y_mo e rfl rfl) q2
    refine T1808 q3 ?_ ht
    rcases h2 with ⟨z1, z2⟩ | z1
    · exact Or.inl ⟨z1, (y_ae e rfl).trans z2⟩
    · exact Or.inr z1
  refine aOK_op l_k1786 (show _ = some (1787, l_ls iI (some (.int k)) b c, [.ref 155], H, 0, 0) from rfl) ?_
  refine aOK_op l_k1787 (show _ = some (1788, l_ls iI (some (.int k)) b c, .ref 0 :: [.ref 155], H, 0, 0) from rfl) ?_
  refine aOK_op l_k1788 (show _ = some (1790, l_ls iI (some (.int k)) b c, .int iI :: .ref 0 :: [.ref 155], H, 0, 0) from rfl) ?_
  refine aOK_op l_k1790 (show _ = some (1791, l_ls iI (some (.int k)) b c, .int (Int32.ofInt 1) :: .int iI :: .ref 0 :: [.ref 155], H, 0, 0) from rfl) ?_
  refine aOK_op l_k1791 (show _ = some (1792, l_ls iI (some (.int k)) b c, .int (iI + Int32.ofInt 1) :: .ref 0 :: [.ref 155], H, 0, 0) from rfl) ?_
  refine aOK_op l_k1792 (l_scr (n := i + 1) (y_addS _ hi (show (Int32.ofInt 1).toInt = ((1 : Nat) : Int) by decide) rfl (by omega)) (by omega)) ?_
  refine aOK_op l_k1793 (show _ = some (1794, l_ls iI (some (.int k)) b c, .ref 0 :: [.int (xs (i + 1)), .ref 155], H, 0, 0) from rfl) ?_
  refine aOK_op l_k1794 (show _ = some (1796, l_ls iI (some (.int k)) b c, .int iI :: .ref 0 :: [.int (xs (i + 1)), .ref 155], H, 0, 0) from rfl) ?_
  refine aOK_op l_k1796 (show _ = some (1797, l_ls iI (some (.int k)) b c, .int (Int32.ofInt 2) :: .int iI :: .ref 0 :: [.int (xs (i + 1)), .ref 155], H, 0, 0) from rfl) ?_
  refine aOK_op l_k1797 (show _ = some (1798, l_ls iI (some (.int k)) b c, .int (iI + Int32.ofInt 2) :: .ref 0 :: [.int (xs (i + 1)), .ref 155], H, 0, 0) from rfl) ?_
  refine aOK_op l_k1798 (l_scr (n := i + 2) (y_addS _ hi (show (Int32.ofInt 2).toInt = ((2 : Nat) : Int) by decide) rfl (by omega)) (by omega)) ?_
  have hinv : a_inv s_P (.invokevirtual 208) (4, 283, 12, 7221) [.int (xs (i + 2)), .int (xs (i + 1)), .ref 155] H = some (a_m283, [.ref 155, .int (xs (i + 1)), .int (xs (i + 2))], []) := by
    have hrc := l_recv hI.1 (r0 := 155) (ci := 12) rfl
    show (if a_recv H (.ref 155) 12 = true ∧ _ ∧ _ then some _ else none) = _
    rw [if_pos ⟨hrc, Nat.le_of_ble_eq_true rfl, Nat.le_of_ble_eq_true rfl⟩]
    rfl
  refine aOK_call l_k1799 rfl rfl hinv ?_
  show aOK s_P (some (L, xs)) (199 + 2) a_m283 0 [some (.ref 155), some (.int (xs (i + 1))), some (.int (xs (i + 2)))] [] H C S _
  refine f_ofX (d := 199) hI.1 hI.2.1.1 hm (n_ord_of hI.1 hI.2.1.1 hm) a1 (fun hv G e z => Or.inr ⟨fun n z => (by cases z), ?_⟩) (fun hv x G e z => Or.inr ⟨fun n z => (by cases z), ?_⟩)
  · refine T1802 (n_2V_ref e q) z ?_ ?_
    · rcases hq with ⟨-, h1, h2⟩ | ⟨h1, -⟩
      · exact Or.inl ⟨h1, (y_ae e rfl).trans h2⟩
      · exact absurd hv h1
    · rcases hq with ⟨-, h1, h2⟩ | ⟨h1, -⟩
      · exact h1.symm
      · exact absurd hv h1
  · refine T1802 (n_2V_ref e q) z ?_ ?_
    · rcases hq with ⟨h1, -⟩ | ⟨-, h1⟩
      · exact absurd h1 hv
      · exact Or.inr h1
    · rcases hq with ⟨h1, -⟩ | ⟨-, h1⟩
      · exact absurd h1 hv
      · rw [h1]
        decide
theorem l_op43 (hi5 : i + 5 < L) (hL : L ≤ 3072) (hi : iI.toInt = i) (a b c : Option Value) {H : aH} {C S : Nat} (hI : n_IP H) (hend : ∀ (a b c : Option Value) (G : aH) (C' S' : Nat), n_IP G → C' ≤ C + 1 → S' ≤ S + 6 → aOK s_P (some (L, xs)) 202 a_mL 1863 (l_ls iI a b c) [] G C' S' K) : aOK s_P (some (L, xs)) 202 a_mL 1767 (l_ls iI a b c) [] H C S K := by
  obtain ⟨⟨tI, v, hc, hm⟩, -, w, hcB, hmB⟩ := hI
  have q : n_2V H v w := ⟨tI, ⟨hc, hm⟩, hcB, hmB⟩
  refine aOK_op l_k1767 (show _ = some (1768, l_ls iI a b c, [.ref 2], H, 0, 0) from rfl) ?_
  refine aOK_op l_k1768 (show _ = some (1769, l_ls iI a b c, .ref 0 :: [.ref 2], H, 0, 0) from rfl) ?_
  refine aOK_op l_k1769 (show _ = some (1771, l_ls iI a b c, .int iI :: .ref 0 :: [.ref 2], H, 0, 0) from rfl) ?_
  refine aOK_op l_k1771 (show _ = some (1772, l_ls iI a b c, .int (Int32.ofInt 1) :: .int iI :: .ref 0 :: [.ref 2], H, 0, 0) from rfl) ?_
  refine aOK_op l_k1772 (show _ = some (1773, l_ls iI a b c, .int (iI + Int32.ofInt 1) :: .ref 0 :: [.ref 2], H, 0, 0) from rfl) ?_
  refine aOK_op l_k1773 (l_scr (n := i + 1) (y_addS _ hi (show (Int32.ofInt 1).toInt = ((1 : Nat) : Int) by decide) rfl (by omega)) (by omega)) ?_
  refine aOK_op l_k1774 (show _ = some (1775, l_ls iI a b c, .ref 0 :: [.int (xs (i + 1)), .ref 2], H, 0, 0) from rfl) ?_
  refine aOK_op l_k1775 (show _ = some (1777, l_ls iI a b c, .int iI :: .ref 0 :: [.int (xs (i + 1)), .ref 2], H, 0, 0) from rfl) ?_
  refine aOK_op l_k1777 (show _ = some (1778, l_ls iI a b c, .int (Int32.ofInt 2) :: .int iI :: .ref 0 :: [.int (xs (i + 1)), .ref 2], H, 0, 0) from rfl) ?_
  refine aOK_op l_k1778 (show _ = some (1779, l_ls iI a b c, .int (iI + Int32.ofInt 2) :: .ref 0 :: [.int (xs (i + 1)), .ref 2], H, 0, 0) from rfl) ?_
  refine aOK_op l_k1779 (l_scr (n := i + 2) (y_addS _ hi (show (Int32.ofInt 2).toInt = ((2 : Nat) : Int) by decide) rfl (by omega)) (by omega)) ?_
  refine aOK_op l_k1780 (show _ = some (1781, l_ls iI a b c, [.ref 197, .int (xs (i + 2)), .int (xs (i + 1)), .ref 2], H, 0, 0) from rfl) ?_
  have hinv : a_inv s_P (.invokestatic 203) (20, 169, 0, 5155) [.ref 197, .int (xs (i + 2)), .int (xs (i + 1)), .ref 2] H = some (a_m169, [.ref 2, .int (xs (i + 1)), .int (xs (i + 2)), .ref 197], []) := rfl
  refine aOK_call l_k1781 rfl rfl hinv ?_
  show aOK s_P (some (L, xs)) 201 a_m169 0 [some (.ref 2), some (.int (xs (i + 1))), some (.int (xs (i + 2))), some (.ref 197), none] [] H C S _
  refine c_S43 q (fun hv G e u => Or.inr ⟨fun n z => (by cases z), ?_⟩) (fun hv G e => Or.inr ⟨fun n z => (by cases z), ?_⟩)
  · show aOK s_P (some (L, xs)) 202 a_mL 1784 (l_ls iI a b c) [.int (Int32.ofInt 0)] G C S K
    refine aOK_op l_k1784 (show _ = some (1786, l_ls iI (some (.int (Int32.ofInt 0))) b c, [], G, 0, 0) from rfl) ?_
    exact l_op43b hi5 hL hi (n_2V_out e q) (Or.inl ⟨hv, rfl, u⟩) (fun b c G2 q2 => hend _ b c G2 C S (n_2V_I q2) (by omega) (by omega))
  · show aOK s_P (some (L, xs)) 202 a_mL 1784 (l_ls iI a b c) [.int 1] (G ++ [.inr (a_exc, [])]) (C + 1) (S + 6) K
    refine aOK_op l_k1784 (show _ = some (1786, l_ls iI (some (.int 1)) b c, [], G ++ [.inr (a_exc, [])], 0, 0) from rfl) ?_
    exact l_op43b hi5 hL hi (n_2V_app (n_2V_out (y_mo e rfl rfl) q)) (Or.inr ⟨hv, rfl⟩) (fun b c G2 q2 => hend _ b c G2 (C + 1) (S + 6) (n_2V_I q2) (by omega) (by omega))
end L43
section LP
variable {xs : Nat → Int32} {L : Nat} {CB SB : Nat}
def l_fin (CB SB : Nat) (v : Option Value) (_ : aH) (C S : Nat) : Prop := v = some (.int 1) ∧ C ≤ CB ∧ S ≤ SB
theorem l_and63 (x : Int32) : 0 ≤ (x &&& 63).toInt ∧ (x &&& 63).toInt ≤ 63 := by
  have h : (x &&& 63).toBitVec.toNat ≤ 63 := by
    show (x.toBitVec &&& (63 : Int32).toBitVec).toNat ≤ 63
    rw [BitVec.toNat_and]
    exact Nat.and_le_right
  have e : (x &&& 63).toInt = (x &&& 63).toBitVec.toInt := rfl
  rw [e, BitVec.toInt_eq_toNat_cond, if_pos (by omega)]
  omega
theorem l_Lsub (hL : L ≤ 3072) : (Int32.ofNat L - (Int8.ofInt 6).toInt32).toInt = (L : Int) - 6 := by
  have e1 : (Int32.ofNat L).toInt = L := Int32.toInt_ofNat_of_lt (by omega)
  rw [Int32.toInt_sub, e1, show ((Int8.ofInt 6).toInt32).toInt = 6 by decide, Int.bmod_eq_of_le (by omega) (by omega)]
theorem l_out (a b c : Option Value) {iI : Int32} {H : aH} {C S : Nat} (hC : C ≤ CB) (hS : S ≤ SB) : aOK s_P (some (L, xs)) 202 a_mL 1869 (l_ls iI a b c) [] H C S (l_fin CB SB) := by
  refine aOK_op l_k1869 (show _ = some (1870, l_ls iI a b c, [.int 1], H, 0, 0) from rfl) ?_
  exact aOK_ret l_k1870 rfl (show _ = some (some (.int 1)) from rfl) (fun n q => by cases q) ⟨rfl, hC, hS⟩
theorem l_loop (hL : L ≤ 3072) : ∀ (n i : Nat) (iI : Int32), iI.toInt = i → i ≤ L + 6 → L < i + 6 * (n + 1) → ∀ (a b c : Option Value) (H : aH) (C S : Nat), n_IP H → C + n ≤ CB → S + 6 * n ≤ SB → aOK s_P (some (L, xs)) 202 a_mL 23 (l_ls iI a b c) [] H C S (l_fin CB SB) := by
  intro n
  have top : ∀ (i : Nat) (iI : Int32) (a b c : Option Value) (H : aH) (C S : Nat), iI.toInt = i → (L < i + 6 → aOK s_P (some (L, xs)) 202 a_mL 1869 (l_ls iI a b c) [] H C S (l_fin CB SB)) → (i + 6 ≤ L → aOK s_P (some (L, xs)) 202 a_mL 33 (l_ls iI a b c) [] H C S (l_fin CB SB)) → aOK s_P (some (L, xs)) 202 a_mL 23 (l_ls iI a b c) [] H C S (l_fin CB SB) := by
    intro i iI a b c H C S hi h1 h2
    refine aOK_op rfl (show _ = some (25, l_ls iI a b c, [.int iI], H, 0, 0) from rfl) ?_
    refine aOK_op rfl (show _ = some (26, l_ls iI a b c, [.ref 0, .int iI], H, 0, 0) from rfl) ?_
    refine aOK_op rfl (show _ = some (27, l_ls iI a b c, [.int (Int32.ofNat L), .int iI], H, 0, 0) from rfl) ?_
    refine aOK_op rfl (show _ = some (29, l_ls iI a b c, [.int (Int8.ofInt 6).toInt32, .int (Int32.ofNat L), .int iI], H, 0, 0) from rfl) ?_
    refine aOK_op rfl (show _ = some (30, l_ls iI a b c, [.int (Int32.ofNat L - (Int8.ofInt 6).toInt32), .int iI], H, 0, 0) from rfl) ?_
    refine aOK_op rfl (show _ = some (if a_cnd .gt iI (Int32.ofNat L - (Int8.ofInt 6).toInt32) then 1869 else 33, l_ls iI a b c, [], H, 0, 0) from rfl) ?_
    cases q : a_cnd .gt iI (Int32.ofNat L - (Int8.ofInt 6).toInt32) with
    | true =>
      have g : (Int32.ofNat L - (Int8.ofInt 6).toInt32).toInt < iI.toInt := (y_ci .gt _ _).mp q
      rw [l_Lsub hL, hi] at g
      exact h1 (by omega)
    | false =>
      have g : ¬ ((Int32.ofNat L - (Int8.ofInt 6).toInt32).toInt < iI.toInt) := y_cif q
      rw [l_Lsub hL, hi] at g
      exact h2 (by omega)
  induction n with
  | zero =>
    intro i iI hi hb hn a b c H C S hI hC hS
    exact top i iI a b c H C S hi (fun _ => l_out a b c (by omega) (by omega)) (fun q => by omega)
  | succ n ih =>
    intro i iI hi hb hn a b c H C S hI hC hS
    refine top i iI a b c H C S hi (fun _ => l_out a b c (by omega) (by omega)) (fun h6 => ?_)
    have hend : ∀ (a b c : Option Value) (H : aH) (C' S' : Nat), n_IP H → C' ≤ C + 1 → S' ≤ S + 6 → aOK s_P (some (L, xs)) 202 a_mL 1863 (l_ls iI a b c) [] H C' S' (l_fin CB SB) := by
      intro a b c H C' S' hI' hC' hS'
      refine aOK_op l_k1863 (show _ = some (1866, l_ls (iI + Int32.ofInt 6) a b c, [], H, 0, 0) from rfl) ?_
      refine aOK_op l_k1866 (show _ = some (23, l_ls (iI + Int32.ofInt 6) a b c, [], H, 0, 0) from rfl) ?_
      exact ih (i + 6) _ (y_addS _ hi (show (Int32.ofInt 6).toInt = (6 : Nat) by decide) rfl (by omega)) (by omega) (by omega) a b c H C' S' hI' (by omega) (by omega)
    refine aOK_op rfl (show _ = some (34, l_ls iI a b c, [.ref 0], H, 0, 0) from rfl) ?_
    refine aOK_op rfl (show _ = some (36, l_ls iI a b c, [.int iI, .ref 0], H, 0, 0) from rfl) ?_
    refine aOK_op rfl (l_scr (n := i) hi (by omega)) ?_
    refine aOK_op rfl (show _ = some (39, l_ls iI a b c, [.int (Int8.ofInt 63).toInt32, .int (xs i)], H, 0, 0) from rfl) ?_
    refine aOK_op rfl (show _ = some (40, l_ls iI a b c, [.int (xs i &&& (Int8.ofInt 63).toInt32)], H, 0, 0) from rfl) ?_
    have h63 : 0 ≤ (xs i &&& (Int8.ofInt 63).toInt32).toInt := by
      have : (Int8.ofInt 63).toInt32 = 63 := by decide
      rw [this]
      exact (l_and63 (xs i)).1
    generalize (xs i &&& (Int8.ofInt 63).toInt32) = x at h63
    by_cases q : x.toInt < 0 ∨ 44 < x.toInt
    · exact y_tsw_d (t := 1863) rfl q (by decide) (hend a b c H C S hI (by omega) (by omega))
    · have hx : ∃ v : Nat, x.toInt = v ∧ v < 45 := ⟨x.toInt.toNat, by omega, by omega⟩
      obtain ⟨v, hv, v45⟩ := hx
      have ho : ∃ o, l_offs[v]? = some o := ⟨_, List.getElem?_eq_getElem (show v < l_offs.length from v45)⟩
      obtain ⟨o, ho⟩ := ho
      have hc := List.all_eq_true.mp l_chk o (List.mem_of_getElem? ho)
      rw [Bool.and_eq_true, decide_eq_true_eq, Bool.or_eq_true, decide_eq_true_eq] at hc
      refine y_tsw_i (t := (40 + o).toNat) (o := o) rfl q ?_ ?_ ?_
      · rw [hv]
        show l_offs.toArray[((v : Int) - 0).toNat]? = some o
        rw [show ((v : Int) - 0).toNat = v by omega, List.getElem?_toArray]
        exact ho
      · show (if 0 ≤ ((40 : Nat) : Int) + o then some (((40 : Nat) : Int) + o).toNat else none) = _
        rw [if_pos (by omega)]
        rfl
      · rcases hc.2 with h43 | hcr
        · rw [h43]
          exact l_op43 (by omega) hL hi a b c hI hend
        · exact n_run_ok (CB := C + 1) (SB := S + 6) (Md := n_MdP) (by omega) hL hi (fun H q => q.1.1.1) (fun _ _ _ H q => n_MdP_r q) n_tb_T (n_S_and n_S169 n_S169B) (n_S_and n_S171 n_S171B) hend 400 1 [] none _ [] hcr (l_suf_to l_sufL) (fun j z q => (by cases q)) _ (fun e r hr => l_to_hd hr) 0 [] trivial a b c H C S hI (by omega) (by omega)
end LP
end PT33j
