/-! ===== v3: the reference's node ===== -/
theorem y_pr_c {f g : Nat → Int} : ∀ {n : Nat}, (∀ v, v < n → f v = g v) → y_pr f n = y_pr g n
  | 0, _ => rfl
  | n + 1, h => by
    show y_pr f n * f n = y_pr g n * g n
    rw [y_pr_c (fun v hv => h v (by omega)), h n (by omega)]
theorem y_Nset {l : List Int32} {k i : Nat} {x : Int32} (hk : k < l.length) : y_N (l.set k x) i = if i = k then x.toInt else y_N l i := by
  unfold y_N
  rw [y_gset hk]
  split <;> rfl
theorem y_Nnset {l : List Int32} {k i : Nat} {x : Int32} (hk : k < l.length) : y_Nn (l.set k x) i = if i = k then x.toInt.toNat else y_Nn l i := by
  unfold y_Nn
  rw [y_gset hk]
  split <;> rfl
section WG
variable {X : aX} {C S d : Nat} {K0 : Option Value → aH → Nat → Nat → Prop} {h : aH}
theorem p_node (hr : w_hr z_D h) (hJ : y_J h) (hC : j_cost h) {leans deep : Int32} (hk : ∀ (r : Int32) (H : aH), y_fr h H [19584, 19591, 19600] [156, 157, 159, 160, 161] → y_J H → j_cost H → K0 (some (.int r)) H C S) : aOK s_P X (d + 2) a_m173 0 [some (.ref 155), some (.int leans), some (.int deep), none] [] h C S K0 := by
  have hJ' := hJ
  obtain ⟨⟨nd, le, de, ta, n1, n2, n3, n4, c1, c2, c3, c4, c5⟩, ⟨nd', dp, de', d1, d2, d3, d4⟩, -⟩ := hJ'
  have e0 := d1.symm.trans n1
  cases e0
  have e0 : de = de' := by
    have := n3.symm.trans d3
    cases this
    rfl
  subst e0
  obtain ⟨b1, b2⟩ := y_ndb hr n1
  obtain ⟨n, hn⟩ : ∃ n : Nat, nd.toInt = n := ⟨nd.toInt.toNat, by omega⟩
  have hnn : nd.toInt.toNat = n := by omega
  have hnc := (y_ofNat hn (by omega)).2
  refine w_go z_hl [] [174, 15, 176] 30 hr ?_
  refine ⟨rfl, y_zini (by decide) (by decide), ?_⟩
  intro H1 h1
  have e1 : y_fr h H1 [19584] [] := y_fr_rel h1 (w_cons (Or.inl (y_m rfl)) w_nil) w_nil
  have out : ∀ {G H : aH}, y_fr h G [19584] [] → w_rel z_D G [] [] H → K0 (some (.int (Int32.ofInt (-1)))) H C S := fun g1 g3 => by
    have g4 := y_fr_tr g1 (y_fr_rel g3 w_nil w_nil) (fun _ q => q) (fun _ q => q)
    exact hk _ _ (y_fr_mono g4 (fun x q => by rw [List.mem_singleton.mp q]; exact y_m rfl) (fun _ q => by cases q)) (y_J_fr g4 rfl rfl hJ) (j_cost_e g4 rfl rfl hC)
  refine y_isSet (v := leans) e1.1 ((y_fe e1 rfl).trans n1) b1 b2 (fun H2 h2 => ?_)
  refine ⟨fun n e => (by cases e), ?_⟩
  have e2 : y_fr h H2 [19584] [] := y_fr_tr e1 (y_fr_mono h2 (fun _ q => by cases q) (fun _ q => q)) (fun _ q => q) (fun _ q => q)
  cases hset : decide (0 ≤ leans.toInt ∧ leans.toInt < y_ways nd) with
  | false =>
    refine w_go z_hl [] [174, 15, 176] 30 h2.1 ?_
    refine ⟨fun q => ⟨fun q2 => ?_, fun q2 => absurd q2 (by decide)⟩, fun q => absurd q (by decide)⟩
    intro H3 h3
    exact out e2 h3
  | true =>
    have hsv := of_decide_eq_true hset
    obtain ⟨-, l1, l2⟩ := y_all b1 b2
    obtain ⟨lb, hlb⟩ : ∃ lb : Nat, leans.toInt = lb := ⟨leans.toInt.toNat, by omega⟩
    refine w_go z_hl [] [174, 15, 176] 30 h2.1 ?_
    refine ⟨fun q => absurd q (by decide), fun q => ?_⟩
    intro H3 h3
    have e3 : y_fr h H3 [19584] [] := y_fr_tr e2 (y_fr_rel h3 w_nil w_nil) (fun _ q => q) (fun _ q => q)
    refine y_bitCount (x := leans) e3.1 (fun H4 h4 => ?_)
    refine ⟨fun n e => (by cases e), ?_⟩
    have e4 : y_fr h H4 [19584] [] := y_fr_tr e3 (y_fr_rel h4 w_nil w_nil) (fun _ q => q) (fun _ q => q)
    have hbc := y_bcN hlb (by omega)
    refine w_go z_hl [] [174, 15, 176] 30 e4.1 ?_
    refine ⟨fun q => ⟨fun q2 => ?_, fun q2 => absurd q2 (by decide)⟩, fun q => ?_⟩
    · intro H5 h5
      exact out e4 h5
    · have h3b : ¬ ((Int32.ofInt 3).toInt < (y_bc leans).toInt) := y_cif q
      rw [show (Int32.ofInt 3).toInt = 3 by decide, hbc] at h3b
      intro H5 h5
      have e5 : y_fr h H5 [19584] [] := y_fr_tr e4 (y_fr_rel h5 w_nil w_nil) (fun _ q => q) (fun _ q => q)
      refine y_in h5.1 (fun H6 h6 => ?_)
      refine ⟨fun n e => (by cases e), ?_⟩
      have e6 : y_fr h H6 [19584] [] := y_fr_tr e5 (y_fr_rel h6 w_nil w_nil) (fun _ q => q) (fun _ q => q)
      cases hdp : decide ((Int64.ofNat 1).toInt ≤ deep.toInt64.toInt ∧ deep.toInt64.toInt ≤ (Int64.ofInt 10000000).toInt) with
      | false =>
        have go : aOK s_P X (d + 2) a_m173 30 [some (.ref 155), some (.int leans), some (.int deep), none] [.int (y_01 false)] H6 C S K0 := by
          refine w_go z_hl [] [174, 15, 176] 30 e6.1 ?_
          refine ⟨fun q => ⟨fun q2 => ?_, fun q2 => absurd q2 (by decide)⟩, fun q => absurd q (by decide)⟩
          intro H7 h7
          exact out e6 h7
        rw [← hdp] at go
        exact go
      | true =>
        have hdv := of_decide_eq_true hdp
        rw [y_i2l, y_i64 (by decide) (by decide), show (Int64.ofNat 1).toInt = 1 from rfl] at hdv
        have n1' : w_f H6 19591 = some (.int nd) := (y_fe e6 rfl).trans n1
        have go : aOK s_P X (d + 2) a_m173 30 [some (.ref 155), some (.int leans), some (.int deep), none] [.int (y_01 true)] H6 C S K0 := by
          refine w_go z_hl [68] [174, 15, 176] 30 e6.1 ?_
          refine ⟨fun q => absurd q (by decide), fun q => ?_⟩
          intro x hx _ _
          have ex : x = nd := by
            have := hx.symm.trans n1'
            cases this
            rfl
          subst ex
          have fr7 : ∀ {H : aH} {hf : wF}, w_rel z_D H6 hf [] H → (∀ q ∈ hf, q.1 ∈ ([] : List Nat) ∨ w_f H6 q.1 = some q.2) → y_fr h H [19584] [] := fun g1 g2 => y_fr_tr e6 (y_fr_rel g1 g2 w_nil) (fun _ q => by cases q) (fun _ q => q)
          have out2 : ∀ {H : aH} {hf : wF}, w_rel z_D H6 hf [] H → (∀ q ∈ hf, q.1 ∈ ([] : List Nat) ∨ w_f H6 q.1 = some q.2) → K0 (some (.int (Int32.ofInt (-1)))) H C S := fun g1 g2 => by
            have g4 := fr7 g1 g2
            exact hk _ _ (y_fr_mono g4 (fun x q => by rw [List.mem_singleton.mp q]; exact y_m rfl) (fun _ q => by cases q)) (y_J_fr g4 rfl rfl hJ) (j_cost_e g4 rfl rfl hC)
          refine ⟨fun q3 => ⟨fun q4 => fun H7 h7 => out2 h7 (w_cons (Or.inr n1') w_nil), fun q4 => absurd q4 (by decide)⟩, fun q3 => ⟨fun q4 => absurd q4 (by decide), fun q4 => ?_⟩⟩
          have hlt : ¬ (((Int8.ofInt 10).toInt32).toInt ≤ x.toInt) := y_cif q3
          rw [show ((Int8.ofInt 10).toInt32).toInt = 10 by decide] at hlt
          intro y hy by1 by2
          have d2' : w_f H6 19600 = some (.long dp) := (y_fe e6 rfl).trans d2
          have ey : y = dp := by
            have := hy.symm.trans d2'
            cases this
            rfl
          subst ey
          have hmul : (y * deep.toInt64).toInt = y.toInt * deep.toInt := by
            have p1 : 0 ≤ y.toInt * deep.toInt := Int.mul_nonneg (by omega) (by omega)
            have p2 : y.toInt * deep.toInt ≤ 100000000 * 10000000 := Int.mul_le_mul (by omega) (by omega) (by omega) (by decide)
            rw [y_mul (by rw [y_i2l]; omega) (by rw [y_i2l]; omega), y_i2l]
          refine ⟨fun q5 => ?_, fun q5 => fun H7 h7 => out2 h7 (w_cons (Or.inr d2') (w_cons (Or.inr n1') w_nil))⟩
          have hle8 : (y * deep.toInt64).toInt ≤ (Int64.ofInt 100000000).toInt := (y_cl .le _ _).mp q5
          rw [y_i64 (by decide) (by decide), hmul] at hle8
          have pos8 : 1 * 1 ≤ y.toInt * deep.toInt := Int.mul_le_mul by1 (by omega) (by decide) (by omega)
          intro H7 h7
          have e7 := fr7 h7 (w_cons (Or.inr d2') (w_cons (Or.inr n1') w_nil))
          have n7 : w_f H7 19591 = some (.int x) := (y_fe e7 rfl).trans n1
          have d7 : w_f H7 19600 = some (.long y) := (y_fe e7 rfl).trans d2
          refine w_go z_hl [] [] 80 e7.1 ?_
          intro z hz _ _
          have ez : z = x := by
            have := hz.symm.trans n7
            cases this
            rfl
          subst ez
          refine ⟨⟨by omega, by omega⟩, ⟨by omega, by omega⟩, fun a1 ha1 la1 ba1 => ?_⟩
          have q1 : a1 = le := by
            have := ha1.symm.trans ((y_ae e7 rfl).trans n2)
            cases this
            rfl
          subst q1
          refine ⟨⟨by omega, by omega⟩, ⟨by omega, by omega⟩, fun a2 ha2 la2 ba2 => ?_⟩
          have q1 : a2 = de := by
            have := ha2.symm.trans ((y_ae e7 rfl).trans n3)
            cases this
            rfl
          subst q1
          intro z2 hz2 _ _
          have ez : z2 = y := by
            have := hz2.symm.trans d7
            cases this
            rfl
          subst ez
          refine ⟨rfl, y_zin (by show 1 ≤ (z2 * deep.toInt64).toInt; omega) (by show (z2 * deep.toInt64).toInt ≤ 100000000; omega), ?_⟩
          refine ⟨⟨by omega, by omega⟩, by decide, fun a3 ha3 la3 ba3 => ?_⟩
          refine ⟨⟨by omega, by omega⟩, by decide, fun a4 ha4 la4 ba4 => ?_⟩
          refine ⟨⟨by omega, by omega⟩, by decide, fun a5 ha5 la5 ba5 => ?_⟩
          have hinc : (z + Int32.ofInt 1).toInt = z.toInt + 1 := y_inc (by omega)
          refine ⟨rfl, y_zini (by show 0 ≤ (z + Int32.ofInt 1).toInt; omega) (by show (z + Int32.ofInt 1).toInt ≤ 10; omega), ?_⟩
          intro H8 h8
          have f8 : y_fr H7 H8 [19584, 19591, 19600] [156, 157, 159, 160, 161] := y_fr_rel h8 (w_cons (Or.inl (y_m rfl)) (w_cons (Or.inl (y_m rfl)) (w_cons (Or.inl (y_m rfl)) (w_cons (Or.inl (y_m rfl)) w_nil)))) (w_cons (Or.inl (y_m rfl)) (w_cons (Or.inl (y_m rfl)) (w_cons (Or.inl (y_m rfl)) (w_cons (Or.inl (y_m rfl)) (w_cons (Or.inl (y_m rfl)) (w_cons (Or.inl (y_m rfl)) (w_cons (Or.inl (y_m rfl)) (w_cons (Or.inl (y_m rfl)) (w_cons (Or.inl (y_m rfl)) (w_cons (Or.inl (y_m rfl)) w_nil))))))))))
          have e8 : y_fr h H8 [19584, 19591, 19600] [156, 157, 159, 160, 161] := y_fr_tr (y_fr_mono e7 (fun x q => by rw [List.mem_singleton.mp q]; exact y_m rfl) (fun _ q => by cases q)) f8 (fun _ q => q) (fun _ q => q)
          have HC8 : j_cost H8 := by
            obtain ⟨ndc, co, kn', kc, x1, x2, x3, x4, x5, x6⟩ := hC
            have q1 := x1.symm.trans n1
            cases q1
            have q1 : a5 = co := by
              have := ha5.symm.trans ((y_ae e7 rfl).trans x2)
              cases this
              rfl
            subst q1
            have A5 : w_a H8 161 = some (0, .inl (a5.set z.toNatClampNeg (Int32.ofInt 1))) := h8.2.2.1 161 _ rfl
            refine ⟨_, _, kn', kc, h8.2.1 19591 _ rfl, A5, (y_ae e8 rfl).trans x3, (y_ae e8 rfl).trans x4, fun v hv => ?_, x6⟩
            have hv2 : (v : Int) < (z + Int32.ofInt 1).toInt := hv
            rw [hnc, y_Nset (by omega)]
            split
            · decide
            · exact x5 v (by omega)
          refine hk _ H8 e8 ?_ HC8
          obtain ⟨-, -, ⟨de2, to, kt, sn, sl, sh, o1, o2, o3, o4, o5, o6, o7, o8, o9⟩, ⟨nd2, wl, w1, w2, w3, w4, w5⟩, ⟨nd3, sm, so, sa, s1, s2, s3, s4, s5⟩, ⟨nd4, kn, km, ko, ks, k1, k2, k3, k4, k5, k6⟩, hland⟩ := hJ
          have q1 : a2 = de2 := by
            have := n3.symm.trans o1
            cases this
            rfl
          subst q1
          have q1 := w1.symm.trans n1
          cases q1
          have q1 := s1.symm.trans n1
          cases q1
          have q1 := k1.symm.trans n1
          cases q1
          have q1 : a4 = sa := by
            have := ha4.symm.trans ((y_ae e7 rfl).trans s4)
            cases this
            rfl
          subst q1
          have N8 : w_f H8 19591 = some (.int (z + Int32.ofInt 1)) := h8.2.1 19591 _ rfl
          have A1 : w_a H8 156 = some (0, .inl (a1.set z.toNatClampNeg leans)) := h8.2.2.1 156 _ rfl
          have A2 : w_a H8 157 = some (0, .inl (a2.set z.toNatClampNeg deep)) := h8.2.2.1 157 _ rfl
          have A4 : w_a H8 160 = some (0, .inl (a4.set z.toNatClampNeg (Int32.ofInt (-1)))) := h8.2.2.1 160 _ rfl
          have D8 : w_f H8 19600 = some (.long (z2 * deep.toInt64)) := h8.2.1 19600 _ rfl
          rw [hnc] at A1 A2 A4
          have tn : (z + Int32.ofInt 1).toInt.toNat = n + 1 := by omega
          have dset : ∀ i, y_N (a2.set n deep) i = if i = n then deep.toInt else y_N a2 i := fun i => y_Nset (by omega)
          have dn0 : y_N a2 n = 0 := c5 n (by omega)
          have dmono : ∀ i, y_N a2 i ≤ y_N (a2.set n deep) i := fun i => by
            rw [dset]
            split
            · rename_i e; rw [e, dn0]; omega
            · exact Int.le_refl _
          have epr : y_pr (y_N (a2.set n deep)) (n + 1) = z2.toInt * deep.toInt := by
            show y_pr (y_N (a2.set n deep)) n * y_N (a2.set n deep) n = _
            rw [y_pr_c (g := y_N a2) (fun v hv => by rw [dset, if_neg (by omega)]), dset, if_pos rfl, d4, hnn]
          have ways : y_ways z ≤ y_ways (z + Int32.ofInt 1) := by
            unfold y_ways
            exact Nat.pow_le_pow_right (by decide) (by omega)
          refine ⟨⟨_, _, _, ta, N8, A1, A2, (y_ae e8 rfl).trans n4, fun v hv => ?_, fun i hi => Int.le_trans (c2 i hi) (dmono _), fun v hv => ?_, ?_, fun v hv => ?_⟩, ⟨_, _, _, N8, D8, A2, ?_⟩, ⟨_, to, kt, sn, sl, sh, A2, (y_ae e8 rfl).trans o2, (y_ae e8 rfl).trans o3, (y_ae e8 rfl).trans o4, (y_ae e8 rfl).trans o5, (y_ae e8 rfl).trans o6, fun i hi => Int.le_trans (o7 i hi) (dmono _), fun i hi => Int.le_trans (o8 i hi) (dmono _), fun k hk6 => ⟨Int.le_trans (o9 k hk6).1 (dmono _), Int.le_trans (o9 k hk6).2 (dmono _)⟩⟩, ⟨_, wl, N8, (y_ae e8 rfl).trans w2, w3, w4, fun i hi => w5 i (Nat.le_trans ways hi)⟩, ⟨_, sm, so, _, N8, (y_fe e8 rfl).trans s2, (y_ae e8 rfl).trans s3, A4, ?_⟩, ⟨_, kn, km, ko, ks, N8, (y_ae e8 rfl).trans k2, (y_ae e8 rfl).trans k3, (y_ae e8 rfl).trans k4, (y_ae e8 rfl).trans k5, fun i hi => ⟨by have := (k6 i hi).1; omega, (k6 i hi).2⟩⟩, j_land_e (y_fe e8 rfl) (y_ae e8 rfl) hland⟩
          · rw [y_Nnset (by omega)]
            split
            · rename_i e
              subst e
              have hl2 : leans.toInt.toNat = lb := by omega
              rw [hl2]
              refine ⟨by omega, ?_⟩
              have : y_ways z = 2 ^ v := by unfold y_ways; rw [hnn]
              omega
            · exact c1 v hv
          · rw [dset]
            split
            · omega
            · exact c3 v (by omega)
          · rw [tn, epr]
            omega
          · rw [dset, if_neg (by omega)]
            exact c5 v (by omega)
          · rw [tn, epr, hmul]
          · rw [tn]
            rw [hnn] at s5
            obtain ⟨t1, t2, t3, t4⟩ := s5
            have aset : ∀ i, y_N (a4.set n (Int32.ofInt (-1))) i = if i = n then (Int32.ofInt (-1)).toInt else y_N a4 i := fun i => y_Nset (by omega)
            refine ⟨by omega, fun k hk' => ?_, t3, fun v hv hs => ?_⟩
            · obtain ⟨u1, u2, u3⟩ := t2 k hk'
              refine ⟨u1, by omega, ?_⟩
              rw [aset, if_neg (by omega)]
              exact u3
            · rw [aset] at hs
              split at hs
              · rw [show (Int32.ofInt (-1)).toInt = -1 by decide] at hs
                omega
              · exact t4 v (by omega) hs
        rw [← hdp] at go
        exact go
end WG
