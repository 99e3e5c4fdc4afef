/-! ===== v5: node, force, see as functions (laid by wip/tools/mk33n.py) ===== -/
abbrev n_nd (leans deep nd dp : Int32) : Prop := nd.toInt ≤ 9 ∧ 0 ≤ leans.toInt ∧ leans.toInt < (y_ways nd : Int) ∧ (y_bc leans).toInt ≤ 3 ∧ 1 ≤ deep.toInt ∧ deep.toInt ≤ 10000000 ∧ dp.toInt * deep.toInt ≤ 100000000
abbrev n_fsV (a b x : Int32) : Prop := 0 ≤ a.toInt ∧ a.toInt < x.toInt ∧ -1 ≤ b.toInt ∧ b.toInt ≤ 1
def n_fs (a b x : Int32) : Int32 := if n_fsV a b x then Int32.ofInt 1 else Int32.ofInt 0
section NQ
variable {X : aX} {C S d : Nat} {K0 : Option Value → aH → Nat → Nat → Prop}
theorem q_isNode2 {h : aH} (hr : w_hr z_D h) {v nd : Int32} (hn : w_f h 19591 = some (.int nd)) (yes : ∀ H (vv : Nat), y_fr h H [] [] → v.toInt = vv → (vv : Int) < nd.toInt → v.toNatClampNeg = vv → K0 (some (.int (y_01 true))) H C S) (no : ∀ H, y_fr h H [] [] → ¬ (0 ≤ v.toInt ∧ v.toInt < nd.toInt) → K0 (some (.int (y_01 false))) H C S) : aOK s_P X (d + 1) a_m178 0 [some (.ref 155), some (.int v)] [] h C S K0 := by
  refine y_isNode hr hn (fun H hH => ?_)
  by_cases q : 0 ≤ v.toInt ∧ v.toInt < nd.toInt
  · rw [decide_eq_true q]
    have := v.toInt_lt
    refine yes H v.toInt.toNat hH (by omega) (by omega) rfl
  · rw [decide_eq_false q]
    exact no H hH q
theorem f_node {h : aH} (hr : w_hr z_D h) (hJ : y_J h) (hC : j_cost h) {leans deep X0 D0 : Int32} (g1 : w_f h 19591 = some (.int X0)) (g2 : w_f h 19600 = some (.long D0.toInt64)) (hk : ∀ (r : Int32) (H : aH), y_fr h H [19584, 19591, 19600] [156, 157, 159, 160, 161] → y_J H → j_cost H → (n_nd leans deep X0 D0 → r = X0 ∧ w_f H 19591 = some (.int (X0 + Int32.ofInt 1)) ∧ w_f H 19600 = some (.long (D0.toInt64 * deep.toInt64))) → (¬ n_nd leans deep X0 D0 → r = Int32.ofInt (-1) ∧ y_fr h H [19584] []) → K0 (some (.int r)) H C S) : aOK s_P X (d + 2) a_m173 0 [some (.ref 155), some (.int leans), some (.int deep), none] [] h C S K0 := by
  have hJ' := hJ
  obtain ⟨⟨nd, le, de, ta, n1, n2, n3, n4, c1, c2, c3, c4, c5⟩, ⟨nd', dp, de', d1, d2, d3, d4⟩, -⟩ := hJ'
  have e0 := d1.symm.trans n1
  cases e0
  have e0 : de = de' := by
    have := n3.symm.trans d3
    cases this
    rfl
  subst e0
  have hX : nd = X0 := y_fi n1 g1
  subst hX
  have hD0 : dp = D0.toInt64 := by
    have := d2.symm.trans g2
    injection this with this
    injection this
  obtain ⟨b1, b2⟩ := y_ndb hr n1
  obtain ⟨n, hn⟩ : ∃ n : Nat, nd.toInt = n := ⟨nd.toInt.toNat, by omega⟩
  have hnn : nd.toInt.toNat = n := by omega
  have hnc := (y_ofNat hn (by omega)).2
  refine w_go z_hl [] [174, 15, 176] 30 hr ?_
  refine ⟨rfl, y_zini (by decide) (by decide), ?_⟩
  intro H1 h1
  have e1 : y_fr h H1 [19584] [] := y_fr_rel h1 (w_cons (Or.inl (y_m rfl)) w_nil) w_nil
  have out : ∀ {G H : aH}, ¬ n_nd leans deep nd D0 → y_fr h G [19584] [] → w_rel z_D G [] [] H → K0 (some (.int (Int32.ofInt (-1)))) H C S := fun nv g1 g3 => by
    have g4 := y_fr_tr g1 (y_fr_rel g3 w_nil w_nil) (fun _ q => q) (fun _ q => q)
    exact hk _ _ (y_fr_mono g4 (fun x q => by rw [List.mem_singleton.mp q]; exact y_m rfl) (fun _ q => by cases q)) (y_J_fr g4 rfl rfl hJ) (j_cost_e g4 rfl rfl hC) (fun v => absurd v nv) (fun _ => ⟨rfl, g4⟩)
  refine y_isSet (v := leans) e1.1 ((y_fe e1 rfl).trans n1) b1 b2 (fun H2 h2 => ?_)
  refine ⟨fun n e => (by cases e), ?_⟩
  have e2 : y_fr h H2 [19584] [] := y_fr_tr e1 (y_fr_mono h2 (fun _ q => by cases q) (fun _ q => q)) (fun _ q => q) (fun _ q => q)
  cases hset : decide (0 ≤ leans.toInt ∧ leans.toInt < y_ways nd) with
  | false =>
    refine w_go z_hl [] [174, 15, 176] 30 h2.1 ?_
    refine ⟨fun q => ⟨fun q2 => ?_, fun q2 => absurd q2 (by decide)⟩, fun q => absurd q (by decide)⟩
    intro H3 h3
    exact out (fun v => of_decide_eq_false hset ⟨v.2.1, v.2.2.1⟩) e2 h3
  | true =>
    have hsv := of_decide_eq_true hset
    obtain ⟨-, l1, l2⟩ := y_all b1 b2
    obtain ⟨lb, hlb⟩ : ∃ lb : Nat, leans.toInt = lb := ⟨leans.toInt.toNat, by omega⟩
    refine w_go z_hl [] [174, 15, 176] 30 h2.1 ?_
    refine ⟨fun q => absurd q (by decide), fun q => ?_⟩
    intro H3 h3
    have e3 : y_fr h H3 [19584] [] := y_fr_tr e2 (y_fr_rel h3 w_nil w_nil) (fun _ q => q) (fun _ q => q)
    refine y_bitCount (x := leans) e3.1 (fun H4 h4 => ?_)
    refine ⟨fun n e => (by cases e), ?_⟩
    have e4 : y_fr h H4 [19584] [] := y_fr_tr e3 (y_fr_rel h4 w_nil w_nil) (fun _ q => q) (fun _ q => q)
    have hbc := y_bcN hlb (by omega)
    refine w_go z_hl [] [174, 15, 176] 30 e4.1 ?_
    refine ⟨fun q => ⟨fun q2 => ?_, fun q2 => absurd q2 (by decide)⟩, fun q => ?_⟩
    · intro H5 h5
      have z3 : (Int32.ofInt 3).toInt < (y_bc leans).toInt := (y_ci .gt _ _).mp q
      rw [show (Int32.ofInt 3).toInt = 3 by decide] at z3
      exact out (fun v => by have := v.2.2.2.1; omega) e4 h5
    · have h3b : ¬ ((Int32.ofInt 3).toInt < (y_bc leans).toInt) := y_cif q
      rw [show (Int32.ofInt 3).toInt = 3 by decide, hbc] at h3b
      intro H5 h5
      have e5 : y_fr h H5 [19584] [] := y_fr_tr e4 (y_fr_rel h5 w_nil w_nil) (fun _ q => q) (fun _ q => q)
      refine y_in h5.1 (fun H6 h6 => ?_)
      refine ⟨fun n e => (by cases e), ?_⟩
      have e6 : y_fr h H6 [19584] [] := y_fr_tr e5 (y_fr_rel h6 w_nil w_nil) (fun _ q => q) (fun _ q => q)
      cases hdp : decide ((Int64.ofNat 1).toInt ≤ deep.toInt64.toInt ∧ deep.toInt64.toInt ≤ (Int64.ofInt 10000000).toInt) with
      | false =>
        have go : aOK s_P X (d + 2) a_m173 30 [some (.ref 155), some (.int leans), some (.int deep), none] [.int (y_01 false)] H6 C S K0 := by
          refine w_go z_hl [] [174, 15, 176] 30 e6.1 ?_
          refine ⟨fun q => ⟨fun q2 => ?_, fun q2 => absurd q2 (by decide)⟩, fun q => absurd q (by decide)⟩
          intro H7 h7
          exact out (fun v => of_decide_eq_false hdp (by rw [y_i2l, y_i64 (by decide) (by decide), show (Int64.ofNat 1).toInt = 1 from rfl]; exact ⟨v.2.2.2.2.1, v.2.2.2.2.2.1⟩)) e6 h7
        rw [← hdp] at go
        exact go
      | true =>
        have hdv := of_decide_eq_true hdp
        rw [y_i2l, y_i64 (by decide) (by decide), show (Int64.ofNat 1).toInt = 1 from rfl] at hdv
        have n1' : w_f H6 19591 = some (.int nd) := (y_fe e6 rfl).trans n1
        have go : aOK s_P X (d + 2) a_m173 30 [some (.ref 155), some (.int leans), some (.int deep), none] [.int (y_01 true)] H6 C S K0 := by
          refine w_go z_hl [68] [174, 15, 176] 30 e6.1 ?_
          refine ⟨fun q => absurd q (by decide), fun q => ?_⟩
          intro x hx _ _
          have ex : x = nd := by
            have := hx.symm.trans n1'
            cases this
            rfl
          subst ex
          have fr7 : ∀ {H : aH} {hf : wF}, w_rel z_D H6 hf [] H → (∀ q ∈ hf, q.1 ∈ ([] : List Nat) ∨ w_f H6 q.1 = some q.2) → y_fr h H [19584] [] := fun g1 g2 => y_fr_tr e6 (y_fr_rel g1 g2 w_nil) (fun _ q => by cases q) (fun _ q => q)
          have out2 : ∀ {H : aH} {hf : wF}, ¬ n_nd leans deep x D0 → w_rel z_D H6 hf [] H → (∀ q ∈ hf, q.1 ∈ ([] : List Nat) ∨ w_f H6 q.1 = some q.2) → K0 (some (.int (Int32.ofInt (-1)))) H C S := fun nv g1 g2 => by
            have g4 := fr7 g1 g2
            exact hk _ _ (y_fr_mono g4 (fun x q => by rw [List.mem_singleton.mp q]; exact y_m rfl) (fun _ q => by cases q)) (y_J_fr g4 rfl rfl hJ) (j_cost_e g4 rfl rfl hC) (fun v => absurd v nv) (fun _ => ⟨rfl, g4⟩)
          refine ⟨fun q3 => ⟨fun q4 => fun H7 h7 => out2 (fun v => by have z : ((Int8.ofInt 10).toInt32).toInt ≤ x.toInt := (y_ci .ge _ _).mp q3; rw [show ((Int8.ofInt 10).toInt32).toInt = 10 by decide] at z; have := v.1; omega) h7 (w_cons (Or.inr n1') w_nil), fun q4 => absurd q4 (by decide)⟩, fun q3 => ⟨fun q4 => absurd q4 (by decide), fun q4 => ?_⟩⟩
          have hlt : ¬ (((Int8.ofInt 10).toInt32).toInt ≤ x.toInt) := y_cif q3
          rw [show ((Int8.ofInt 10).toInt32).toInt = 10 by decide] at hlt
          intro y hy by1 by2
          have d2' : w_f H6 19600 = some (.long dp) := (y_fe e6 rfl).trans d2
          have ey : y = dp := by
            have := hy.symm.trans d2'
            cases this
            rfl
          subst ey
          have hmul : (y * deep.toInt64).toInt = y.toInt * deep.toInt := by
            have p1 : 0 ≤ y.toInt * deep.toInt := Int.mul_nonneg (by omega) (by omega)
            have p2 : y.toInt * deep.toInt ≤ 100000000 * 10000000 := Int.mul_le_mul (by omega) (by omega) (by omega) (by decide)
            rw [y_mul (by rw [y_i2l]; omega) (by rw [y_i2l]; omega), y_i2l]
          refine ⟨fun q5 => ?_, fun q5 => fun H7 h7 => out2 (fun v => (y_clf q5 : ¬ ((y * deep.toInt64).toInt ≤ (Int64.ofInt 100000000).toInt)) (by rw [y_i64 (by decide) (by decide), hmul, hD0, y_i2l]; exact v.2.2.2.2.2.2)) h7 (w_cons (Or.inr d2') (w_cons (Or.inr n1') w_nil))⟩
          have hle8 : (y * deep.toInt64).toInt ≤ (Int64.ofInt 100000000).toInt := (y_cl .le _ _).mp q5
          rw [y_i64 (by decide) (by decide), hmul] at hle8
          have pos8 : 1 * 1 ≤ y.toInt * deep.toInt := Int.mul_le_mul by1 (by omega) (by decide) (by omega)
          intro H7 h7
          have e7 := fr7 h7 (w_cons (Or.inr d2') (w_cons (Or.inr n1') w_nil))
          have n7 : w_f H7 19591 = some (.int x) := (y_fe e7 rfl).trans n1
          have d7 : w_f H7 19600 = some (.long y) := (y_fe e7 rfl).trans d2
          refine w_go z_hl [] [] 80 e7.1 ?_
          intro z hz _ _
          have ez : z = x := by
            have := hz.symm.trans n7
            cases this
            rfl
          subst ez
          refine ⟨⟨by omega, by omega⟩, ⟨by omega, by omega⟩, fun a1 ha1 la1 ba1 => ?_⟩
          have q1 : a1 = le := by
            have := ha1.symm.trans ((y_ae e7 rfl).trans n2)
            cases this
            rfl
          subst q1
          refine ⟨⟨by omega, by omega⟩, ⟨by omega, by omega⟩, fun a2 ha2 la2 ba2 => ?_⟩
          have q1 : a2 = de := by
            have := ha2.symm.trans ((y_ae e7 rfl).trans n3)
            cases this
            rfl
          subst q1
          intro z2 hz2 _ _
          have ez : z2 = y := by
            have := hz2.symm.trans d7
            cases this
            rfl
          subst ez
          refine ⟨rfl, y_zin (by show 1 ≤ (z2 * deep.toInt64).toInt; omega) (by show (z2 * deep.toInt64).toInt ≤ 100000000; omega), ?_⟩
          refine ⟨⟨by omega, by omega⟩, by decide, fun a3 ha3 la3 ba3 => ?_⟩
          refine ⟨⟨by omega, by omega⟩, by decide, fun a4 ha4 la4 ba4 => ?_⟩
          refine ⟨⟨by omega, by omega⟩, by decide, fun a5 ha5 la5 ba5 => ?_⟩
          have hinc : (z + Int32.ofInt 1).toInt = z.toInt + 1 := y_inc (by omega)
          refine ⟨rfl, y_zini (by show 0 ≤ (z + Int32.ofInt 1).toInt; omega) (by show (z + Int32.ofInt 1).toInt ≤ 10; omega), ?_⟩
          intro H8 h8
          have f8 : y_fr H7 H8 [19584, 19591, 19600] [156, 157, 159, 160, 161] := y_fr_rel h8 (w_cons (Or.inl (y_m rfl)) (w_cons (Or.inl (y_m rfl)) (w_cons (Or.inl (y_m rfl)) (w_cons (Or.inl (y_m rfl)) w_nil)))) (w_cons (Or.inl (y_m rfl)) (w_cons (Or.inl (y_m rfl)) (w_cons (Or.inl (y_m rfl)) (w_cons (Or.inl (y_m rfl)) (w_cons (Or.inl (y_m rfl)) (w_cons (Or.inl (y_m rfl)) (w_cons (Or.inl (y_m rfl)) (w_cons (Or.inl (y_m rfl)) (w_cons (Or.inl (y_m rfl)) (w_cons (Or.inl (y_m rfl)) w_nil))))))))))
          have e8 : y_fr h H8 [19584, 19591, 19600] [156, 157, 159, 160, 161] := y_fr_tr (y_fr_mono e7 (fun x q => by rw [List.mem_singleton.mp q]; exact y_m rfl) (fun _ q => by cases q)) f8 (fun _ q => q) (fun _ q => q)
          have HC8 : j_cost H8 := by
            obtain ⟨ndc, co, kn', kc, x1, x2, x3, x4, x5, x6⟩ := hC
            have q1 := x1.symm.trans n1
            cases q1
            have q1 : a5 = co := by
              have := ha5.symm.trans ((y_ae e7 rfl).trans x2)
              cases this
              rfl
            subst q1
            have A5 : w_a H8 161 = some (0, .inl (a5.set z.toNatClampNeg (Int32.ofInt 1))) := h8.2.2.1 161 _ rfl
            refine ⟨_, _, kn', kc, h8.2.1 19591 _ rfl, A5, (y_ae e8 rfl).trans x3, (y_ae e8 rfl).trans x4, fun v hv => ?_, x6⟩
            have hv2 : (v : Int) < (z + Int32.ofInt 1).toInt := hv
            rw [hnc, y_Nset (by omega)]
            split
            · decide
            · exact x5 v (by omega)
          refine hk _ H8 e8 ?_ HC8 (fun _ => ⟨Int32.add_sub_cancel _ _, h8.2.1 19591 _ rfl, by rw [← hD0]; exact h8.2.1 19600 _ rfl⟩) (fun nv => absurd ⟨by omega, hsv.1, hsv.2, by rw [hbc]; omega, hdv.1, hdv.2, by have := hle8; rw [hD0, y_i2l] at this; exact this⟩ nv)
          obtain ⟨-, -, ⟨de2, to, kt, sn, sl, sh, o1, o2, o3, o4, o5, o6, o7, o8, o9⟩, ⟨nd2, wl, w1, w2, w3, w4, w5⟩, ⟨nd3, sm, so, sa, s1, s2, s3, s4, s5⟩, ⟨nd4, kn, km, ko, ks, k1, k2, k3, k4, k5, k6⟩, hland⟩ := hJ
          have q1 : a2 = de2 := by
            have := n3.symm.trans o1
            cases this
            rfl
          subst q1
          have q1 := w1.symm.trans n1
          cases q1
          have q1 := s1.symm.trans n1
          cases q1
          have q1 := k1.symm.trans n1
          cases q1
          have q1 : a4 = sa := by
            have := ha4.symm.trans ((y_ae e7 rfl).trans s4)
            cases this
            rfl
          subst q1
          have N8 : w_f H8 19591 = some (.int (z + Int32.ofInt 1)) := h8.2.1 19591 _ rfl
          have A1 : w_a H8 156 = some (0, .inl (a1.set z.toNatClampNeg leans)) := h8.2.2.1 156 _ rfl
          have A2 : w_a H8 157 = some (0, .inl (a2.set z.toNatClampNeg deep)) := h8.2.2.1 157 _ rfl
          have A4 : w_a H8 160 = some (0, .inl (a4.set z.toNatClampNeg (Int32.ofInt (-1)))) := h8.2.2.1 160 _ rfl
          have D8 : w_f H8 19600 = some (.long (z2 * deep.toInt64)) := h8.2.1 19600 _ rfl
          rw [hnc] at A1 A2 A4
          have tn : (z + Int32.ofInt 1).toInt.toNat = n + 1 := by omega
          have dset : ∀ i, y_N (a2.set n deep) i = if i = n then deep.toInt else y_N a2 i := fun i => y_Nset (by omega)
          have dn0 : y_N a2 n = 0 := c5 n (by omega)
          have dmono : ∀ i, y_N a2 i ≤ y_N (a2.set n deep) i := fun i => by
            rw [dset]
            split
            · rename_i e; rw [e, dn0]; omega
            · exact Int.le_refl _
          have epr : y_pr (y_N (a2.set n deep)) (n + 1) = z2.toInt * deep.toInt := by
            show y_pr (y_N (a2.set n deep)) n * y_N (a2.set n deep) n = _
            rw [y_pr_c (g := y_N a2) (fun v hv => by rw [dset, if_neg (by omega)]), dset, if_pos rfl, d4, hnn]
          have ways : y_ways z ≤ y_ways (z + Int32.ofInt 1) := by
            unfold y_ways
            exact Nat.pow_le_pow_right (by decide) (by omega)
          refine ⟨⟨_, _, _, ta, N8, A1, A2, (y_ae e8 rfl).trans n4, fun v hv => ?_, fun i hi => Int.le_trans (c2 i hi) (dmono _), fun v hv => ?_, ?_, fun v hv => ?_⟩, ⟨_, _, _, N8, D8, A2, ?_⟩, ⟨_, to, kt, sn, sl, sh, A2, (y_ae e8 rfl).trans o2, (y_ae e8 rfl).trans o3, (y_ae e8 rfl).trans o4, (y_ae e8 rfl).trans o5, (y_ae e8 rfl).trans o6, fun i hi => Int.le_trans (o7 i hi) (dmono _), fun i hi => Int.le_trans (o8 i hi) (dmono _), fun k hk6 => ⟨Int.le_trans (o9 k hk6).1 (dmono _), Int.le_trans (o9 k hk6).2 (dmono _)⟩⟩, ⟨_, wl, N8, (y_ae e8 rfl).trans w2, w3, w4, fun i hi => w5 i (Nat.le_trans ways hi)⟩, ⟨_, sm, so, _, N8, (y_fe e8 rfl).trans s2, (y_ae e8 rfl).trans s3, A4, ?_⟩, ⟨_, kn, km, ko, ks, N8, (y_ae e8 rfl).trans k2, (y_ae e8 rfl).trans k3, (y_ae e8 rfl).trans k4, (y_ae e8 rfl).trans k5, fun i hi => ⟨by have := (k6 i hi).1; omega, (k6 i hi).2⟩⟩, j_land_e (y_fe e8 rfl) (y_ae e8 rfl) hland⟩
          · rw [y_Nnset (by omega)]
            split
            · rename_i e
              subst e
              have hl2 : leans.toInt.toNat = lb := by omega
              rw [hl2]
              refine ⟨by omega, ?_⟩
              have : y_ways z = 2 ^ v := by unfold y_ways; rw [hnn]
              omega
            · exact c1 v hv
          · rw [dset]
            split
            · omega
            · exact c3 v (by omega)
          · rw [tn, epr]
            omega
          · rw [dset, if_neg (by omega)]
            exact c5 v (by omega)
          · rw [tn, epr, hmul]
          · rw [tn]
            rw [hnn] at s5
            obtain ⟨t1, t2, t3, t4⟩ := s5
            have aset : ∀ i, y_N (a4.set n (Int32.ofInt (-1))) i = if i = n then (Int32.ofInt (-1)).toInt else y_N a4 i := fun i => y_Nset (by omega)
            refine ⟨by omega, fun k hk' => ?_, t3, fun v hv hs => ?_⟩
            · obtain ⟨u1, u2, u3⟩ := t2 k hk'
              refine ⟨u1, by omega, ?_⟩
              rw [aset, if_neg (by omega)]
              exact u3
            · rw [aset] at hs
              split at hs
              · rw [show (Int32.ofInt (-1)).toInt = -1 by decide] at hs
                omega
              · exact t4 v (by omega) hs
        rw [← hdp] at go
        exact go
theorem f_force {h : aH} (hr : w_hr z_D h) (hJ : y_J h) {a b X0 : Int32} (g0 : w_f h 19591 = some (.int X0)) (yes : n_fsV a b X0 → ∀ (H : aH), y_fr h H [19584] [159] → K0 (some (.int (Int32.ofInt 1))) H C S) (no : ¬ n_fsV a b X0 → ∀ (H : aH), y_fr h H [19584] [159] → K0 (some (.int (Int32.ofInt 0))) H C S) : aOK s_P X (d + 2) a_m180 0 [some (.ref 155), some (.int a), some (.int b)] [] h C S K0 := by
  obtain ⟨nd, sm, so, sa, s1, s2, s3, s4, s5⟩ := id hJ.2.2.2.2.1
  have hX : nd = X0 := y_fi s1 g0
  subst hX
  obtain ⟨b1, b2⟩ := y_ndb hr s1
  have T22 : ∀ {G : aH} {v : Nat}, y_fr h G [19584] [159] → a.toInt = v → (v : Int) < nd.toInt → -1 ≤ b.toInt → b.toInt ≤ 1 → aOK s_P X (d + 2) a_m180 22 [some (.ref 155), some (.int a), some (.int b)] [.int (y_01 true)] G C S K0 := by
    intro G v e hv v10 c1 c2
    refine w_go z_hl [] [] 30 e.1 ?_
    refine ⟨fun _ => ⟨⟨by omega, by omega⟩, ⟨by omega, by omega⟩, fun l hl len bb => ⟨by decide, fun H hH => yes ⟨by omega, by omega, c1, c2⟩ H (y_st e hH (by repeat (first | exact w_nil | refine w_cons (Or.inl (y_m rfl)) ?_ | refine w_cons (Or.inr (by assumption)) ?_)) (by repeat (first | exact w_nil | refine w_cons (Or.inl (y_m rfl)) ?_ | refine w_cons (Or.inr (by assumption)) ?_)))⟩⟩, fun q => absurd q (by decide)⟩
  have T22n : ∀ {G : aH}, ¬ n_fsV a b nd → y_fr h G [19584] [159] → aOK s_P X (d + 2) a_m180 22 [some (.ref 155), some (.int a), some (.int b)] [.int (y_01 false)] G C S K0 := by
    intro G nv e
    refine w_go z_hl [] [] 30 e.1 ?_
    exact ⟨fun q => absurd q (by decide), fun _ => ⟨by decide, fun H hH => no nv H (y_st e hH (by repeat (first | exact w_nil | refine w_cons (Or.inl (y_m rfl)) ?_ | refine w_cons (Or.inr (by assumption)) ?_)) (by repeat (first | exact w_nil | refine w_cons (Or.inl (y_m rfl)) ?_ | refine w_cons (Or.inr (by assumption)) ?_)))⟩⟩
  have T10 : ∀ {G : aH} {v : Nat}, y_fr h G [19584] [159] → a.toInt = v → (v : Int) < nd.toInt → aOK s_P X (d + 2) a_m180 10 [some (.ref 155), some (.int a), some (.int b)] [.int (y_01 true)] G C S K0 := by
    intro G v e hv v10
    refine w_go z_hl [] [176] 30 e.1 ?_
    refine ⟨fun q => absurd q (by decide), fun _ => fun H hH => ?_⟩
    have e2 := y_st e hH (by repeat (first | exact w_nil | refine w_cons (Or.inl (y_m rfl)) ?_ | refine w_cons (Or.inr (by assumption)) ?_)) (by repeat (first | exact w_nil | refine w_cons (Or.inl (y_m rfl)) ?_ | refine w_cons (Or.inr (by assumption)) ?_))
    refine q_in (v := b.toInt64) (lo := Int64.ofInt (-1)) (hi := Int64.ofNat 1) e2.1 (fun H3 h3 l1 l2 => ⟨fun n e => (by cases e), ?_⟩) (fun H3 h3 l => ⟨fun n e => (by cases e), ?_⟩)
    · rw [y_i2l] at l1 l2
      exact T22 (y_sq e2 h3 rfl rfl) hv v10 l1 l2
    · exact T22n (fun w => l (by rw [y_i2l]; exact w.2.2.1) (by rw [y_i2l]; exact w.2.2.2)) (y_sq e2 h3 rfl rfl)
  have T10n : ∀ {G : aH}, ¬ n_fsV a b nd → y_fr h G [19584] [159] → aOK s_P X (d + 2) a_m180 10 [some (.ref 155), some (.int a), some (.int b)] [.int (y_01 false)] G C S K0 := by
    intro G nv e
    refine w_go z_hl [] [] 30 e.1 ?_
    exact ⟨fun _ => ⟨by decide, fun H hH => no nv H (y_st e hH (by repeat (first | exact w_nil | refine w_cons (Or.inl (y_m rfl)) ?_ | refine w_cons (Or.inr (by assumption)) ?_)) (by repeat (first | exact w_nil | refine w_cons (Or.inl (y_m rfl)) ?_ | refine w_cons (Or.inr (by assumption)) ?_)))⟩, fun q => absurd q (by decide)⟩
  refine w_go z_hl [] [178] 30 hr ?_
  refine ⟨rfl, y_zini (by decide) (by decide), fun H1 h1 => ?_⟩
  have e1 : y_fr h H1 [19584] [159] := y_st (y_mo (y_rf hr) rfl rfl) h1 (by repeat (first | exact w_nil | refine w_cons (Or.inl (y_m rfl)) ?_ | refine w_cons (Or.inr (by assumption)) ?_)) (by repeat (first | exact w_nil | refine w_cons (Or.inl (y_m rfl)) ?_ | refine w_cons (Or.inr (by assumption)) ?_))
  refine q_isNode2 (v := a) e1.1 ((y_fe e1 rfl).trans s1) (fun H2 v h2 hv hv2 _ => ⟨fun n e => (by cases e), ?_⟩) (fun H2 h2 nn => ⟨fun n e => (by cases e), ?_⟩)
  · exact T10 (y_sq e1 h2 rfl rfl) hv hv2
  · exact T10n (fun w => nn ⟨w.1, w.2.1⟩) (y_sq e1 h2 rfl rfl)
theorem f_see {h : aH} (hr : w_hr z_D h) (hJ : y_J h) {node st X0 : Int32} (g0 : w_f h 19591 = some (.int X0)) (hk : ∀ (r : Int32) (H : aH), y_fr h H [19584, 19598] [160, 162] → y_J H → r = n_fs node st X0 → K0 (some (.int r)) H C S) : aOK s_P X (d + 2) a_m181 0 [some (.ref 155), some (.int node), some (.int st)] [] h C S K0 := by
  obtain ⟨q1, q2, q3, q4, q5, q6, q7⟩ := hJ
  obtain ⟨nd, sm, so, sa, s1, s2, s3, s4, s5⟩ := q5
  have hX : nd = X0 := y_fi s1 g0
  subst hX
  obtain ⟨b1, b2⟩ := y_ndb hr s1
  refine w_go z_hl [] [178, 176, 182] 30 hr ?_
  refine ⟨rfl, y_zini (by decide) (by decide), fun H1 h1 => ?_⟩
  have e1 : y_fr h H1 [19584] [] := y_st (y_mo (y_rf hr) rfl rfl) h1 (by repeat (first | exact w_nil | refine w_cons (Or.inl (y_m rfl)) ?_ | refine w_cons (Or.inr (by assumption)) ?_)) (by repeat (first | exact w_nil | refine w_cons (Or.inl (y_m rfl)) ?_ | refine w_cons (Or.inr (by assumption)) ?_))
  have out : ∀ {G : aH}, ¬ n_fsV node st nd → y_fr h G [19584] [] → K0 (some (.int (Int32.ofInt 0))) G C S := fun nv g => hk _ _ (y_mo g rfl rfl) (y_J_fr g rfl rfl ⟨q1, q2, q3, q4, ⟨nd, sm, so, sa, s1, s2, s3, s4, s5⟩, q6, q7⟩) (by unfold n_fs; rw [if_neg nv])
  refine q_isNode2 (v := node) e1.1 ((y_fe e1 rfl).trans s1) (fun H2 vv h2 hv hv2 hvc => ⟨fun n e => (by cases e), ?_⟩) (fun H2 h2 nn => ⟨fun n e => (by cases e), ?_⟩)
  · have e2 := y_sq e1 h2 rfl rfl
    refine w_go z_hl [] [178, 176, 182] 30 h2.1 ?_
    refine ⟨fun q => absurd q (by decide), fun _ => ?_⟩
    intro H3 h3
    have e3 := y_st e2 h3 (by repeat (first | exact w_nil | refine w_cons (Or.inl (y_m rfl)) ?_ | refine w_cons (Or.inr (by assumption)) ?_)) (by repeat (first | exact w_nil | refine w_cons (Or.inl (y_m rfl)) ?_ | refine w_cons (Or.inr (by assumption)) ?_))
    refine q_in e3.1 (fun H4 h4 l1 l2 => ⟨fun n e => (by cases e), ?_⟩) (fun H4 h4 nl => ⟨fun n e => (by cases e), ?_⟩)
    · have l1 : -1 ≤ st.toInt := by rw [y_i2l] at l1; exact l1
      have l2 : st.toInt ≤ 1 := by rw [y_i2l] at l2; exact l2
      have lv : n_fsV node st nd := ⟨by omega, by omega, l1, l2⟩
      have e4 := y_sq e3 h4 rfl rfl
      refine w_go z_hl [] [178, 176, 182] 40 e4.1 ?_
      refine ⟨fun _ => ?_, fun q => absurd q (by decide)⟩
      refine ⟨fun q => ?_, fun q => ?_⟩
      · have hst : 0 ≤ st.toInt := (y_ci .ge _ _).mp q
        refine ⟨⟨by omega, by omega⟩, fun l hl hlen hbb => ?_⟩
        obtain rfl := y_ai ((y_ae e4 rfl).trans s4) hl
        have hsn : (sa.getD node.toNatClampNeg 0).toInt = y_N sa vv := by rw [hvc]; rfl
        refine ⟨fun q => ?_, fun q => ?_⟩
        · have hs0 : 0 ≤ (sa.getD node.toNatClampNeg 0).toInt := (y_ci .ge _ _).mp q
          refine ⟨⟨by omega, by omega⟩, ⟨by omega, by omega⟩, ?_⟩
          refine ⟨by decide, fun H5 h5 => ?_⟩
          have e5 : y_fr h H5 [19584] [160] := y_st (y_mo e4 rfl rfl) h5 (by repeat (first | exact w_nil | refine w_cons (Or.inl (y_m rfl)) ?_ | refine w_cons (Or.inr (by assumption)) ?_)) (by repeat (first | exact w_nil | refine w_cons (Or.inl (y_m rfl)) ?_ | refine w_cons (Or.inr (by assumption)) ?_))
          have A := h5.2.2.1 160 _ rfl
          refine hk _ _ (y_mo e5 rfl rfl) ⟨j_net_e (y_fe e5 rfl) (y_ae e5 rfl) (y_ae e5 rfl) (y_ae e5 rfl) q1, j_dp_e (y_fe e5 rfl) (y_fe e5 rfl) (y_ae e5 rfl) q2, j_old_e (y_ae e5 rfl) (y_ae e5 rfl) (y_ae e5 rfl) (y_ae e5 rfl) (y_ae e5 rfl) (y_ae e5 rfl) q3, j_w_e (y_fe e5 rfl) (y_ae e5 rfl) q4, ⟨nd, sm, so, _, (y_fe e5 rfl).trans s1, (y_fe e5 rfl).trans s2, (y_ae e5 rfl).trans s3, A, y_ord_re (v := vv) (x := st.toInt) s5 (by omega) hst (fun j => ?_)⟩, j_kept_e (y_fe e5 rfl) (y_ae e5 rfl) (y_ae e5 rfl) (y_ae e5 rfl) (y_ae e5 rfl) q6, j_land_e (y_fe e5 rfl) (y_ae e5 rfl) q7⟩ (by unfold n_fs; rw [if_pos lv])
          rw [hvc, y_Nset (by omega)]
        · have hs0 : ¬ (0 ≤ (sa.getD node.toNatClampNeg 0).toInt) := y_cif q
          have hlt := y_ord_lt s5 (show vv < nd.toInt.toNat by omega) (show y_N sa vv < 0 by omega)
          intro x hx c1 c2
          obtain rfl := y_fi ((y_fe e4 rfl).trans s2) hx
          have hinc : (sm + Int32.ofInt 1).toInt = sm.toInt + 1 := y_inc (by omega)
          refine ⟨⟨by omega, by omega⟩, ⟨by omega, by omega⟩, fun l2 hl2 hlen2 hbb2 => ?_⟩
          obtain rfl := y_ai ((y_ae e4 rfl).trans s3) hl2
          refine ⟨rfl, y_zini (by show 0 ≤ (sm + Int32.ofInt 1).toInt; omega) (by show (sm + Int32.ofInt 1).toInt ≤ 10; omega), ?_⟩
          refine ⟨⟨by omega, by omega⟩, ⟨by omega, by omega⟩, ?_⟩
          refine ⟨by decide, fun H5 h5 => ?_⟩
          have e5 : y_fr h H5 [19584, 19598] [160, 162] := y_st (y_mo e4 rfl rfl) h5 (by repeat (first | exact w_nil | refine w_cons (Or.inl (y_m rfl)) ?_ | refine w_cons (Or.inr (by assumption)) ?_)) (by repeat (first | exact w_nil | refine w_cons (Or.inl (y_m rfl)) ?_ | refine w_cons (Or.inr (by assumption)) ?_))
          have A := h5.2.2.1 160 _ rfl
          have B := h5.2.2.1 162 _ rfl
          have F := h5.2.1 19598 _ rfl
          refine hk _ _ (y_mo e5 rfl rfl) ⟨j_net_e (y_fe e5 rfl) (y_ae e5 rfl) (y_ae e5 rfl) (y_ae e5 rfl) q1, j_dp_e (y_fe e5 rfl) (y_fe e5 rfl) (y_ae e5 rfl) q2, j_old_e (y_ae e5 rfl) (y_ae e5 rfl) (y_ae e5 rfl) (y_ae e5 rfl) (y_ae e5 rfl) (y_ae e5 rfl) q3, j_w_e (y_fe e5 rfl) (y_ae e5 rfl) q4, ⟨nd, _, _, _, (y_fe e5 rfl).trans s1, F, B, A, ?_⟩, j_kept_e (y_fe e5 rfl) (y_ae e5 rfl) (y_ae e5 rfl) (y_ae e5 rfl) (y_ae e5 rfl) q6, j_land_e (y_fe e5 rfl) (y_ae e5 rfl) q7⟩ (by unfold n_fs; rw [if_pos lv])
          have em : (sm + Int32.ofInt 1).toInt.toNat = sm.toInt.toNat + 1 := by omega
          rw [em]
          refine y_ord_add (v := vv) (x := st.toInt) s5 (by omega) (by omega) hst (fun j => ?_) (fun j => ?_)
          · rw [y_Nset (show sm.toNatClampNeg < so.length by show sm.toInt.toNat < _; omega), hv]
            rfl
          · rw [hvc, y_Nset (by omega)]
      · intro H5 h5
        have e5 := y_st e4 h5 (by repeat (first | exact w_nil | refine w_cons (Or.inl (y_m rfl)) ?_ | refine w_cons (Or.inr (by assumption)) ?_)) (by repeat (first | exact w_nil | refine w_cons (Or.inl (y_m rfl)) ?_ | refine w_cons (Or.inr (by assumption)) ?_))
        have smb := y_smb hr s2
        refine y_forgets (m := sm.toInt.toNat) e5.1 hv (by omega) (by have := (y_smb hr s2).1; omega) (by have := s5.1; omega) s5.2.2.1 ((y_fe e5 rfl).trans s2) ((y_ae e5 rfl).trans s3) ((y_ae e5 rfl).trans s4) (fun nI' n' so' H6 f1 f2 f3 f4 f5 f6 => ⟨fun n e => (by cases e), ?_⟩)
        have e6 : y_fr h H6 [19584, 19598] [160, 162] := y_sq (y_mo e5 rfl rfl) f1 rfl rfl
        refine w_go z_hl [] [178, 176, 182] 30 e6.1 ?_
        refine ⟨by decide, fun H7 h7 => ?_⟩
        have g7 : y_fr H6 H7 [] [] := y_st (y_rf f1.1) h7 (by repeat (first | exact w_nil | refine w_cons (Or.inl (y_m rfl)) ?_ | refine w_cons (Or.inr (by assumption)) ?_)) (by repeat (first | exact w_nil | refine w_cons (Or.inl (y_m rfl)) ?_ | refine w_cons (Or.inr (by assumption)) ?_))
        have e7 := y_sq e6 g7 rfl rfl
        have hsal : vv < sa.length := by
          obtain ⟨l, z1, z2, z3⟩ := w_arrI hr (o := 160) (t := 0) (n := 10) (lo := -1) (hi := 1) (by decide) rfl
          obtain rfl := y_ai s4 (w_a_at z1)
          omega
        refine hk _ _ e7 ⟨j_net_e (y_fe e7 rfl) (y_ae e7 rfl) (y_ae e7 rfl) (y_ae e7 rfl) q1, j_dp_e (y_fe e7 rfl) (y_fe e7 rfl) (y_ae e7 rfl) q2, j_old_e (y_ae e7 rfl) (y_ae e7 rfl) (y_ae e7 rfl) (y_ae e7 rfl) (y_ae e7 rfl) (y_ae e7 rfl) q3, j_w_e (y_fe e7 rfl) (y_ae e7 rfl) q4, ⟨nd, nI', so', _, (y_fe e7 rfl).trans s1, (y_fe g7 rfl).trans f2, (y_ae g7 rfl).trans f4, (y_ae g7 rfl).trans f5, ?_⟩, j_kept_e (y_fe e7 rfl) (y_ae e7 rfl) (y_ae e7 rfl) (y_ae e7 rfl) (y_ae e7 rfl) q6, j_land_e (y_fe e7 rfl) (y_ae e7 rfl) q7⟩ (by unfold n_fs; rw [if_pos lv])
        rw [show nI'.toInt.toNat = n' by omega]
        refine y_ord_fg s5 f6 (fun j => ?_)
        rw [y_Nset hsal]
        rfl
    · refine w_go z_hl [] [178, 176, 182] 30 h4.1 ?_
      refine ⟨fun q => absurd q (by decide), fun _ => ⟨by decide, fun H5 h5 => ?_⟩⟩
      exact out (fun w => nl (by rw [y_i2l]; exact w.2.2.1) (by rw [y_i2l]; exact w.2.2.2)) (y_st (y_sq e3 h4 rfl rfl) h5 (by repeat (first | exact w_nil | refine w_cons (Or.inl (y_m rfl)) ?_ | refine w_cons (Or.inr (by assumption)) ?_)) (by repeat (first | exact w_nil | refine w_cons (Or.inl (y_m rfl)) ?_ | refine w_cons (Or.inr (by assumption)) ?_)))
  · refine w_go z_hl [] [178, 176, 182] 30 h2.1 ?_
    refine ⟨fun _ => ⟨by decide, fun H3 h3 => ?_⟩, fun q => absurd q (by decide)⟩
    exact out (fun w => nn ⟨w.1, w.2.1⟩) (y_st (y_sq e1 h2 rfl rfl) h3 (by repeat (first | exact w_nil | refine w_cons (Or.inl (y_m rfl)) ?_ | refine w_cons (Or.inr (by assumption)) ?_)) (by repeat (first | exact w_nil | refine w_cons (Or.inl (y_m rfl)) ?_ | refine w_cons (Or.inr (by assumption)) ?_)))
theorem c_hasAll {h : aH} (hr : w_hr z_D h) {v nd : Int32} (hn : w_f h 128 = some (.int nd)) (h0 : 0 ≤ nd.toInt) (h9 : nd.toInt ≤ 10) (yes : ∀ H, y_fr h H [] [] → 0 ≤ v.toInt → v.toInt < (y_ways nd : Int) → K0 (some (.int (y_01 true))) H C S) (no : ∀ H, y_fr h H [] [] → ¬ (0 ≤ v.toInt ∧ v.toInt < (y_ways nd : Int)) → K0 (some (.int (y_01 false))) H C S) : aOK s_P X d a_m14 0 [some (.ref 3), some (.int v)] [] h C S K0 := by
  have sh : (Int32.ofInt 1 <<< (nd &&& 31)).toInt = (y_ways nd : Int) := by
    obtain ⟨ea, l1, l2⟩ := y_all h0 h9
    have e : Int32.ofInt 1 <<< (nd &&& 31) = (Int32.ofInt 1 <<< (nd &&& 31) - Int32.ofInt 1) + Int32.ofInt 1 := (Int32.sub_add_cancel _ _).symm
    rw [e, y_inc (by omega), ea]
    omega
  refine w_go z_hl [] [] 30 hr ?_
  refine ⟨fun q => ⟨by decide, fun H hH => ?_⟩, fun q => ?_⟩
  · have g : v.toInt < (0 : Int32).toInt := (y_ci .lt _ _).mp q
    have g2 : v.toInt < 0 := g
    exact no H (y_st (y_rf hr) hH (by repeat (first | exact w_nil | refine w_cons (Or.inl (y_m rfl)) ?_ | refine w_cons (Or.inr (by assumption)) ?_)) (by repeat (first | exact w_nil | refine w_cons (Or.inl (y_m rfl)) ?_ | refine w_cons (Or.inr (by assumption)) ?_))) (fun w => by omega)
  · have g : ¬ (v.toInt < (0 : Int32).toInt) := y_cif q
    have g2 : ¬ (v.toInt < 0) := g
    intro x hx b1 b2
    obtain rfl := y_fi hn hx
    refine ⟨fun q2 => ⟨by decide, fun H hH => ?_⟩, fun q2 => ⟨by decide, fun H hH => ?_⟩⟩
    · have g3 : (Int32.ofInt 1 <<< (nd &&& 31)).toInt ≤ v.toInt := (y_ci .ge _ _).mp q2
      exact no H (y_st (y_rf hr) hH (by repeat (first | exact w_nil | refine w_cons (Or.inl (y_m rfl)) ?_ | refine w_cons (Or.inr (by assumption)) ?_)) (by repeat (first | exact w_nil | refine w_cons (Or.inl (y_m rfl)) ?_ | refine w_cons (Or.inr (by assumption)) ?_))) (fun w => by omega)
    · have g3 : ¬ ((Int32.ofInt 1 <<< (nd &&& 31)).toInt ≤ v.toInt) := y_cif q2
      exact yes H (y_st (y_rf hr) hH (by repeat (first | exact w_nil | refine w_cons (Or.inl (y_m rfl)) ?_ | refine w_cons (Or.inr (by assumption)) ?_)) (by repeat (first | exact w_nil | refine w_cons (Or.inl (y_m rfl)) ?_ | refine w_cons (Or.inr (by assumption)) ?_))) (by omega) (by omega)
theorem c_canTake {h : aH} (hr : w_hr z_D h) {leans deep nd dp : Int32} (g1 : w_f h 128 = some (.int nd)) (g2 : w_f h 129 = some (.int dp)) (n0 : 0 ≤ nd.toInt) (n10 : nd.toInt ≤ 10) (d1 : 1 ≤ dp.toInt) (d8 : dp.toInt ≤ 100000000) (yes : n_nd leans deep nd dp → ∀ H, y_fr h H [] [] → K0 (some (.int (y_01 true))) H C S) (no : ¬ n_nd leans deep nd dp → ∀ H, y_fr h H [] [] → K0 (some (.int (y_01 false))) H C S) : aOK s_P X (d + 1) a_m13 0 [some (.ref 3), some (.int leans), some (.int deep)] [] h C S K0 := by
  have T21 : ∀ {G : aH}, y_fr h G [] [] → nd.toInt ≤ 9 → 0 ≤ leans.toInt → leans.toInt < (y_ways nd : Int) → aOK s_P X (d + 1) a_m13 21 [some (.ref 3), some (.int leans), some (.int deep)] [.int (y_bc leans)] G C S K0 := by
    intro G e n9 w1 w2
    refine w_go z_hl [] [] 40 e.1 ?_
    refine ⟨fun q => ⟨by decide, fun H hH => ?_⟩, fun q => ⟨fun q2 => ⟨by decide, fun H hH => ?_⟩, fun q2 => ⟨fun q3 => ⟨by decide, fun H hH => ?_⟩, fun q3 => ?_⟩⟩⟩
    · have g : (Int32.ofInt 3).toInt < (y_bc leans).toInt := (y_ci .gt _ _).mp q
      rw [show (Int32.ofInt 3).toInt = 3 by decide] at g
      exact no (fun v => by have := v.2.2.2.1; omega) H (y_st e hH (by repeat (first | exact w_nil | refine w_cons (Or.inl (y_m rfl)) ?_ | refine w_cons (Or.inr (by assumption)) ?_)) (by repeat (first | exact w_nil | refine w_cons (Or.inl (y_m rfl)) ?_ | refine w_cons (Or.inr (by assumption)) ?_)))
    · have g : deep.toInt < (Int32.ofInt 1).toInt := (y_ci .lt _ _).mp q2
      rw [show (Int32.ofInt 1).toInt = 1 by decide] at g
      exact no (fun v => by have := v.2.2.2.2.1; omega) H (y_st e hH (by repeat (first | exact w_nil | refine w_cons (Or.inl (y_m rfl)) ?_ | refine w_cons (Or.inr (by assumption)) ?_)) (by repeat (first | exact w_nil | refine w_cons (Or.inl (y_m rfl)) ?_ | refine w_cons (Or.inr (by assumption)) ?_)))
    · have g : (Int32.ofInt 10000000).toInt < deep.toInt := (y_ci .gt _ _).mp q3
      rw [show (Int32.ofInt 10000000).toInt = 10000000 by decide] at g
      exact no (fun v => by have := v.2.2.2.2.2.1; omega) H (y_st e hH (by repeat (first | exact w_nil | refine w_cons (Or.inl (y_m rfl)) ?_ | refine w_cons (Or.inr (by assumption)) ?_)) (by repeat (first | exact w_nil | refine w_cons (Or.inl (y_m rfl)) ?_ | refine w_cons (Or.inr (by assumption)) ?_)))
    · have z1 : ¬ ((Int32.ofInt 3).toInt < (y_bc leans).toInt) := y_cif q
      have z2 : ¬ (deep.toInt < (Int32.ofInt 1).toInt) := y_cif q2
      have z3 : ¬ ((Int32.ofInt 10000000).toInt < deep.toInt) := y_cif q3
      rw [show (Int32.ofInt 3).toInt = 3 by decide] at z1
      rw [show (Int32.ofInt 1).toInt = 1 by decide] at z2
      rw [show (Int32.ofInt 10000000).toInt = 10000000 by decide] at z3
      intro y hy _ _
      obtain rfl := y_fi ((y_fe e rfl).trans g2) hy
      have hmul : (dp.toInt64 * deep.toInt64).toInt = dp.toInt * deep.toInt := by
        have p1 : 0 ≤ dp.toInt * deep.toInt := Int.mul_nonneg (by omega) (by omega)
        have p2 : dp.toInt * deep.toInt ≤ 100000000 * 10000000 := Int.mul_le_mul (by omega) (by omega) (by omega) (by decide)
        rw [y_mul (by rw [y_i2l, y_i2l]; omega) (by rw [y_i2l, y_i2l]; omega), y_i2l, y_i2l]
      refine ⟨fun q4 => ⟨by decide, fun H hH => ?_⟩, fun q4 => ⟨by decide, fun H hH => ?_⟩⟩
      · have g : (Int64.ofInt 100000000).toInt < (dp.toInt64 * deep.toInt64).toInt := (y_cl .gt _ _).mp q4
        rw [y_i64 (by decide) (by decide), hmul] at g
        exact no (fun v => by have := v.2.2.2.2.2.2; omega) H (y_st e hH (by repeat (first | exact w_nil | refine w_cons (Or.inl (y_m rfl)) ?_ | refine w_cons (Or.inr (by assumption)) ?_)) (by repeat (first | exact w_nil | refine w_cons (Or.inl (y_m rfl)) ?_ | refine w_cons (Or.inr (by assumption)) ?_)))
      · have g : ¬ ((Int64.ofInt 100000000).toInt < (dp.toInt64 * deep.toInt64).toInt) := y_clf q4
        rw [y_i64 (by decide) (by decide), hmul] at g
        exact yes ⟨n9, w1, w2, by omega, by omega, by omega, by omega⟩ H (y_st e hH (by repeat (first | exact w_nil | refine w_cons (Or.inl (y_m rfl)) ?_ | refine w_cons (Or.inr (by assumption)) ?_)) (by repeat (first | exact w_nil | refine w_cons (Or.inl (y_m rfl)) ?_ | refine w_cons (Or.inr (by assumption)) ?_)))
  have T14 : ∀ {G : aH}, y_fr h G [] [] → nd.toInt ≤ 9 → 0 ≤ leans.toInt → leans.toInt < (y_ways nd : Int) → aOK s_P X (d + 1) a_m13 14 [some (.ref 3), some (.int leans), some (.int deep)] [.int (y_01 true)] G C S K0 := by
    intro G e n9 w1 w2
    refine w_go z_hl [] [15] 30 e.1 ?_
    refine ⟨fun q => absurd q (by decide), fun _ => fun H hH => ?_⟩
    have e2 := y_st e hH (by repeat (first | exact w_nil | refine w_cons (Or.inl (y_m rfl)) ?_ | refine w_cons (Or.inr (by assumption)) ?_)) (by repeat (first | exact w_nil | refine w_cons (Or.inl (y_m rfl)) ?_ | refine w_cons (Or.inr (by assumption)) ?_))
    refine y_bitCount (x := leans) e2.1 (fun H4 h4 => ⟨fun n e => (by cases e), ?_⟩)
    exact T21 (y_st e2 h4 (by repeat (first | exact w_nil | refine w_cons (Or.inl (y_m rfl)) ?_ | refine w_cons (Or.inr (by assumption)) ?_)) (by repeat (first | exact w_nil | refine w_cons (Or.inl (y_m rfl)) ?_ | refine w_cons (Or.inr (by assumption)) ?_))) n9 w1 w2
  have T14n : ∀ {G : aH}, y_fr h G [] [] → ¬ (0 ≤ leans.toInt ∧ leans.toInt < (y_ways nd : Int)) → aOK s_P X (d + 1) a_m13 14 [some (.ref 3), some (.int leans), some (.int deep)] [.int (y_01 false)] G C S K0 := by
    intro G e nn
    refine w_go z_hl [] [] 30 e.1 ?_
    exact ⟨fun _ => ⟨by decide, fun H hH => no (fun v => nn ⟨v.2.1, v.2.2.1⟩) H (y_st e hH (by repeat (first | exact w_nil | refine w_cons (Or.inl (y_m rfl)) ?_ | refine w_cons (Or.inr (by assumption)) ?_)) (by repeat (first | exact w_nil | refine w_cons (Or.inl (y_m rfl)) ?_ | refine w_cons (Or.inr (by assumption)) ?_)))⟩, fun q => absurd q (by decide)⟩
  refine w_go z_hl [] [14] 30 hr ?_
  intro x hx _ _
  obtain rfl := y_fi g1 hx
  refine ⟨fun q => ⟨by decide, fun H hH => ?_⟩, fun q => fun H hH => ?_⟩
  · have g : ((Int8.ofInt 10).toInt32).toInt ≤ nd.toInt := (y_ci .ge _ _).mp q
    rw [show ((Int8.ofInt 10).toInt32).toInt = 10 by decide] at g
    exact no (fun v => by have := v.1; omega) H (y_st (y_rf hr) hH (by repeat (first | exact w_nil | refine w_cons (Or.inl (y_m rfl)) ?_ | refine w_cons (Or.inr (by assumption)) ?_)) (by repeat (first | exact w_nil | refine w_cons (Or.inl (y_m rfl)) ?_ | refine w_cons (Or.inr (by assumption)) ?_)))
  · have g : ¬ (((Int8.ofInt 10).toInt32).toInt ≤ nd.toInt) := y_cif q
    rw [show ((Int8.ofInt 10).toInt32).toInt = 10 by decide] at g
    have e := y_st (y_rf hr) hH (by repeat (first | exact w_nil | refine w_cons (Or.inl (y_m rfl)) ?_ | refine w_cons (Or.inr (by assumption)) ?_)) (by repeat (first | exact w_nil | refine w_cons (Or.inl (y_m rfl)) ?_ | refine w_cons (Or.inr (by assumption)) ?_))
    refine c_hasAll (v := leans) e.1 ((y_fe e rfl).trans g1) n0 n10 (fun H2 h2 w1 w2 => ⟨fun n e => (by cases e), ?_⟩) (fun H2 h2 nn => ⟨fun n e => (by cases e), ?_⟩)
    · exact T14 (y_sq e h2 rfl rfl) (by omega) w1 w2
    · exact T14n (y_sq e h2 rfl rfl) nn
theorem c_take_loop {leans deep nd : Int32} (n0 : 0 ≤ nd.toInt) (n9 : nd.toInt ≤ 9) : ∀ (m : Nat) (h : aH) (ct ot : Int32), w_hr z_D h → 0 ≤ ct.toInt → ct.toInt ≤ 3 → 0 ≤ ot.toInt → ot.toInt + m = nd.toInt → (∀ (H : aH) (c' o' : Int32), y_fr h H [] [4] → 0 ≤ c'.toInt → c'.toInt ≤ 3 → aOK s_P X d a_m16 75 [some (.ref 3), some (.int leans), some (.int deep), some (.int nd), some (.int c'), some (.int o')] [] H C S K0) → aOK s_P X d a_m16 32 [some (.ref 3), some (.int leans), some (.int deep), some (.int nd), some (.int ct), some (.int ot)] [] h C S K0 := by
  intro m
  induction m with
  | zero =>
    intro h ct ot hr c0 c3 o0 hm hK
    refine w_go z_hl [32, 75] [] 40 hr ?_
    refine ⟨fun _ => fun H hH => hK H ct ot (y_st (y_mo (y_rf hr) rfl rfl) hH (by repeat (first | exact w_nil | refine w_cons (Or.inl (y_m rfl)) ?_ | refine w_cons (Or.inr (by assumption)) ?_)) (by repeat (first | exact w_nil | refine w_cons (Or.inl (y_m rfl)) ?_ | refine w_cons (Or.inr (by assumption)) ?_))) c0 c3, fun q => ?_⟩
    have g : ¬ (nd.toInt ≤ ot.toInt) := y_cif q
    omega
  | succ m ih =>
    intro h ct ot hr c0 c3 o0 hm hK
    have ino : (ot + Int32.ofInt 1).toInt = ot.toInt + 1 := y_inc (by omega)
    have ic : (ct + Int32.ofInt 1).toInt = ct.toInt + 1 := y_inc (by omega)
    refine w_go z_hl [32, 75] [] 60 hr ?_
    refine ⟨fun q => ?_, fun _ => ⟨fun _ => fun H hH => hK H ct ot (y_st (y_mo (y_rf hr) rfl rfl) hH (by repeat (first | exact w_nil | refine w_cons (Or.inl (y_m rfl)) ?_ | refine w_cons (Or.inr (by assumption)) ?_)) (by repeat (first | exact w_nil | refine w_cons (Or.inl (y_m rfl)) ?_ | refine w_cons (Or.inr (by assumption)) ?_))) c0 c3, fun q => ⟨fun _ => fun H hH => ?_, fun _ => ?_⟩⟩⟩
    · have g : nd.toInt ≤ ot.toInt := (y_ci .ge _ _).mp q
      omega
    · have e : y_fr h H [] [] := y_st (y_rf hr) hH (by repeat (first | exact w_nil | refine w_cons (Or.inl (y_m rfl)) ?_ | refine w_cons (Or.inr (by assumption)) ?_)) (by repeat (first | exact w_nil | refine w_cons (Or.inl (y_m rfl)) ?_ | refine w_cons (Or.inr (by assumption)) ?_))
      exact ih H _ _ e.1 c0 c3 (by omega) (by omega) (fun H' c' o' f x1 x2 => hK H' c' o' (y_sq (y_mo e rfl rfl) f rfl rfl) x1 x2)
    · have g : ¬ ((Int32.ofInt 3).toInt ≤ ct.toInt) := y_cif q
      rw [show (Int32.ofInt 3).toInt = 3 by decide] at g
      have ix : (nd * Int32.ofInt 3 + ct).toInt = nd.toInt * 3 + ct.toInt := by
        have e3 : (nd * Int32.ofInt 3).toInt = nd.toInt * 3 := by
          rw [Int32.toInt_mul, show (Int32.ofInt 3).toInt = 3 by decide]
          exact Int.bmod_eq_of_le (by omega) (by omega)
        rw [Int32.toInt_add, e3]
        exact Int.bmod_eq_of_le (by omega) (by omega)
      have bx : 0 ≤ (nd * Int32.ofInt 3 + ct).toInt ∧ (nd * Int32.ofInt 3 + ct).toInt < ((30 : Nat) : Int) := by omega
      refine ⟨bx, ⟨by omega, by omega⟩, fun l hl len bb => fun H hH => ?_⟩
      have e : y_fr h H [] [4] := y_st (y_mo (y_rf hr) rfl rfl) hH (by repeat (first | exact w_nil | refine w_cons (Or.inl (y_m rfl)) ?_ | refine w_cons (Or.inr (by assumption)) ?_)) (by repeat (first | exact w_nil | refine w_cons (Or.inl (y_m rfl)) ?_ | refine w_cons (Or.inr (by assumption)) ?_))
      exact ih H _ _ e.1 (by omega) (by omega) (by omega) (by omega) (fun H' c' o' f x1 x2 => hK H' c' o' (y_sq e f rfl rfl) x1 x2)
theorem c_take {h : aH} (hr : w_hr z_D h) {leans deep nd dp : Int32} (g1 : w_f h 128 = some (.int nd)) (g2 : w_f h 129 = some (.int dp)) (n0 : 0 ≤ nd.toInt) (n9 : nd.toInt ≤ 9) (l0 : 0 ≤ leans.toInt) (l1 : leans.toInt ≤ 1023) (hk : ∀ (H : aH), y_fr h H [128, 129, 143] [2, 3, 4, 5, 7] → w_f H 128 = some (.int (nd + Int32.ofInt 1)) → w_f H 129 = some (.int (dp * deep)) → K0 (some (.int nd)) H C S) : aOK s_P X d a_m16 0 [some (.ref 3), some (.int leans), some (.int deep), none, none, none] [] h C S K0 := by
  have T75 : ∀ {G : aH} {c' o' : Int32}, y_fr h G [128, 129, 143] [2, 3, 4, 5, 7] → w_f G 128 = some (.int nd) → w_f G 129 = some (.int dp) → 0 ≤ c'.toInt → c'.toInt ≤ 3 → aOK s_P X d a_m16 75 [some (.ref 3), some (.int leans), some (.int deep), some (.int nd), some (.int c'), some (.int o')] [] G C S K0 := by
    intro G c' o' e h1 h2 c0 c3
    have inc : (nd + Int32.ofInt 1).toInt = nd.toInt + 1 := y_inc (by omega)
    have im := s_i32 (dp * deep)
    refine w_go z_hl [] [] 60 e.1 ?_
    refine ⟨⟨by omega, by omega⟩, ⟨by omega, by omega⟩, fun l hl len bb => ?_⟩
    intro x hx _ _
    obtain rfl := y_fi h2 hx
    refine ⟨rfl, y_zini (by show -2147483648 ≤ (dp * deep).toInt; omega) (by show (dp * deep).toInt ≤ 2147483647; omega), ?_⟩
    intro y hy _ _
    obtain rfl := y_fi h1 hy
    refine ⟨rfl, y_zini (by show 0 ≤ (nd + Int32.ofInt 1).toInt; omega) (by show (nd + Int32.ofInt 1).toInt ≤ 10; omega), ?_⟩
    exact ⟨rfl, y_zini (by decide) (by decide), fun H hH => hk H (y_st e hH (by repeat (first | exact w_nil | refine w_cons (Or.inl (y_m rfl)) ?_ | refine w_cons (Or.inr (by assumption)) ?_)) (by repeat (first | exact w_nil | refine w_cons (Or.inl (y_m rfl)) ?_ | refine w_cons (Or.inr (by assumption)) ?_))) (hH.2.1 128 _ rfl) (hH.2.1 129 _ rfl)⟩
  have ide := s_i32 deep
  refine w_go z_hl [32] [] 60 hr ?_
  intro x hx _ _
  obtain rfl := y_fi g1 hx
  refine ⟨⟨by omega, by omega⟩, ⟨by omega, by omega⟩, fun a1 _ _ _ => ⟨⟨by omega, by omega⟩, ⟨by omega, by omega⟩, fun a2 _ _ _ => ⟨⟨by omega, by omega⟩, ⟨by decide, by decide⟩, fun a3 _ _ _ => fun H hH => ?_⟩⟩⟩
  have e : y_fr h H [] [2, 5, 7] := y_st (y_mo (y_rf hr) rfl rfl) hH (by repeat (first | exact w_nil | refine w_cons (Or.inl (y_m rfl)) ?_ | refine w_cons (Or.inr (by assumption)) ?_)) (by repeat (first | exact w_nil | refine w_cons (Or.inl (y_m rfl)) ?_ | refine w_cons (Or.inr (by assumption)) ?_))
  refine c_take_loop n0 n9 nd.toInt.toNat H _ _ e.1 (by decide) (by decide) (by decide) (by rw [show (Int32.ofInt 0).toInt = 0 by decide]; omega) (fun H' c' o' f x1 x2 => ?_)
  exact T75 (y_sq (y_mo e rfl rfl) f rfl rfl) ((y_fe f rfl).trans ((y_fe e rfl).trans g1)) ((y_fe f rfl).trans ((y_fe e rfl).trans g2)) x1 x2
theorem c_node {h : aH} (hr : w_hr z_D h) {leans deep nd dp : Int32} (g1 : w_f h 128 = some (.int nd)) (g2 : w_f h 129 = some (.int dp)) (n0 : 0 ≤ nd.toInt) (n10 : nd.toInt ≤ 10) (d1 : 1 ≤ dp.toInt) (d8 : dp.toInt ≤ 100000000) (yes : n_nd leans deep nd dp → ∀ (H : aH), y_fr h H [128, 129, 143] [2, 3, 4, 5, 7] → w_f H 128 = some (.int (nd + Int32.ofInt 1)) → w_f H 129 = some (.int (dp * deep)) → K0 (some (.int nd)) H C S) (no : ¬ n_nd leans deep nd dp → ∀ H, y_fr h H [] [] → K0 (some (.int (Int32.ofInt (-1)))) H C S) : aOK s_P X (d + 2) a_m12 0 [some (.ref 2), some (.int leans), some (.int deep)] [] h C S K0 := by
  have T23 : ∀ {G : aH}, n_nd leans deep nd dp → y_fr h G [128, 129, 143] [2, 3, 4, 5, 7] → w_f G 128 = some (.int (nd + Int32.ofInt 1)) → w_f G 129 = some (.int (dp * deep)) → aOK s_P X (d + 2) a_m12 23 [some (.ref 2), some (.int leans), some (.int deep)] [.int nd] G C S K0 := by
    intro G v e h1 h2
    refine w_go z_hl [] [] 30 e.1 ?_
    intro H hH
    have f : y_fr G H [] [] := y_st (y_rf e.1) hH (by repeat (first | exact w_nil | refine w_cons (Or.inl (y_m rfl)) ?_ | refine w_cons (Or.inr (by assumption)) ?_)) (by repeat (first | exact w_nil | refine w_cons (Or.inl (y_m rfl)) ?_ | refine w_cons (Or.inr (by assumption)) ?_))
    exact yes v H (y_sq e f rfl rfl) ((y_fe f rfl).trans h1) ((y_fe f rfl).trans h2)
  have T9 : ∀ {G : aH}, n_nd leans deep nd dp → y_fr h G [] [] → aOK s_P X (d + 2) a_m12 9 [some (.ref 2), some (.int leans), some (.int deep)] [.int (y_01 true)] G C S K0 := by
    intro G v e
    have wle : y_ways nd ≤ 1024 := (y_all n0 n10).2.2
    have v3 := v.2.2.1
    refine w_go z_hl [] [16] 30 e.1 ?_
    refine ⟨fun _ => fun H hH => ?_, fun q => absurd q (by decide)⟩
    have e2 := y_st e hH (by repeat (first | exact w_nil | refine w_cons (Or.inl (y_m rfl)) ?_ | refine w_cons (Or.inr (by assumption)) ?_)) (by repeat (first | exact w_nil | refine w_cons (Or.inl (y_m rfl)) ?_ | refine w_cons (Or.inr (by assumption)) ?_))
    refine c_take e2.1 ((y_fe e2 rfl).trans g1) ((y_fe e2 rfl).trans g2) n0 v.1 v.2.1 (by omega) (fun H2 f x1 x2 => ⟨fun n e => (by cases e), ?_⟩)
    exact T23 v (y_sq (y_mo e2 rfl rfl) f rfl rfl) x1 x2
  have T9n : ∀ {G : aH}, ¬ n_nd leans deep nd dp → y_fr h G [] [] → aOK s_P X (d + 2) a_m12 9 [some (.ref 2), some (.int leans), some (.int deep)] [.int (y_01 false)] G C S K0 := by
    intro G v e
    refine w_go z_hl [] [] 30 e.1 ?_
    exact ⟨fun q => absurd q (by decide), fun _ => fun H hH => no v H (y_st e hH (by repeat (first | exact w_nil | refine w_cons (Or.inl (y_m rfl)) ?_ | refine w_cons (Or.inr (by assumption)) ?_)) (by repeat (first | exact w_nil | refine w_cons (Or.inl (y_m rfl)) ?_ | refine w_cons (Or.inr (by assumption)) ?_)))⟩
  refine w_go z_hl [] [13] 30 hr ?_
  intro H hH
  have e := y_st (y_rf hr) hH (by repeat (first | exact w_nil | refine w_cons (Or.inl (y_m rfl)) ?_ | refine w_cons (Or.inr (by assumption)) ?_)) (by repeat (first | exact w_nil | refine w_cons (Or.inl (y_m rfl)) ?_ | refine w_cons (Or.inr (by assumption)) ?_))
  refine c_canTake (d := d) e.1 ((y_fe e rfl).trans g1) ((y_fe e rfl).trans g2) n0 n10 d1 d8 (fun v H2 h2 => ⟨fun n e => (by cases e), ?_⟩) (fun v H2 h2 => ⟨fun n e => (by cases e), ?_⟩)
  · exact T9 v (y_sq e h2 rfl rfl)
  · exact T9n v (y_sq e h2 rfl rfl)
end NQ
