/-! ===== v3: the reference's again ===== -/
theorem y_ord_x {n p m : Nat} {so sa ko ks : Nat → Int} (h : y_ord p m ko ks) (hp : p ≤ n) (h1 : ∀ k, k < n → so k = ko k) (h2 : ∀ k, k < n → sa k = if k < p then ks k else -1) : y_ord n m so sa := by
  obtain ⟨t1, t2, t3, t4⟩ := h
  refine ⟨by omega, fun k hk => ?_, fun i j hi hj e => ?_, fun v hv hs => ?_⟩
  · have b := t2 k hk
    rw [h1 k (by omega), h2 _ (by omega), if_pos (by omega)]
    exact ⟨b.1, by omega, b.2.2⟩
  · rw [h1 i (by omega), h1 j (by omega)] at e
    exact t3 i j hi hj e
  · rw [h2 v hv] at hs
    split at hs
    · obtain ⟨k, k1, k2⟩ := t4 v (by omega) hs
      exact ⟨k, k1, by rw [h1 k (by omega)]; exact k2⟩
    · omega
/-- a table fits depths -/
def y_tb (de ta : List Int32) : Prop := ∀ i, i < 80 → y_N ta i ≤ y_N de (i / 8)
section WG
variable {X : aX} {C S d : Nat} {K0 : Option Value → aH → Nat → Nat → Prop}
theorem y_again_in {iI vI : Int32} {i v : Nat} {kt de : List Int32} (hi : iI.toInt = i) (hv : vI.toInt = v) (hi3 : i < 3) (hv10 : v < 10) (c2 : y_kt de kt) : ∀ (t : Nat) (h : aH) (kI : Int32) (k : Nat) (ta : List Int32), w_hr z_D h → w_a h 194 = some (0, .inl kt) → w_a h 158 = some (0, .inl ta) → kI.toInt = k → k + t = 8 → y_tb de ta →
    (∀ (H : aH) (ta' : List Int32) (kI' : Int32), y_fr h H [] [158] → w_a H 158 = some (0, .inl ta') → y_tb de ta' → aOK s_P X d a_m280 40 [some (.ref 155), some (.int iI), some (.int (vI + Int32.ofInt 1)), some (.int (Int32.ofInt 1)), some (.int kI')] [] H C S K0) →
    aOK s_P X d a_m280 164 [some (.ref 155), some (.int iI), some (.int vI), some (.int (Int32.ofInt 1)), some (.int kI)] [] h C S K0 := by
  intro t
  induction t with
  | zero =>
    intro h kI k ta hr g1 g2 hk hkt hq hK
    refine w_go z_hl [164, 40] [] 40 hr ?_
    refine ⟨fun q => ?_, fun q => ?_⟩
    · intro H hH
      have e : y_fr h H [] [158] := y_st (y_mo (y_rf hr) rfl rfl) hH (by repeat (first | exact w_nil | refine w_cons (Or.inl (y_m rfl)) ?_ | refine w_cons (Or.inr (by assumption)) ?_)) (by repeat (first | exact w_nil | refine w_cons (Or.inl (y_m rfl)) ?_ | refine w_cons (Or.inr (by assumption)) ?_))
      have e0 : y_fr h H [] [] := y_st (y_mo (y_rf hr) rfl rfl) hH (by repeat (first | exact w_nil | refine w_cons (Or.inl (y_m rfl)) ?_ | refine w_cons (Or.inr (by assumption)) ?_)) (by repeat (first | exact w_nil | refine w_cons (Or.inl (y_m rfl)) ?_ | refine w_cons (Or.inr (by assumption)) ?_))
      exact hK H ta kI e ((y_ae e0 rfl).trans g2) hq
    · have : ¬ (((Int8.ofInt 8).toInt32).toInt ≤ kI.toInt) := y_cif q
      rw [y_c8] at this
      omega
  | succ t ih =>
    intro h kI k ta hr g1 g2 hk hkt hq hK
    refine w_go z_hl [164, 40] [] 40 hr ?_
    refine ⟨fun q => ?_, fun q => ⟨fun q2 => absurd q2 (by decide), fun _ => ?_⟩⟩
    · have : ((Int8.ofInt 8).toInt32).toInt ≤ kI.toInt := (y_ci .ge _ _).mp q
      rw [y_c8] at this
      omega
    · have i1 := y_i8 (y_i10 hi hv (by omega) (by omega)) hk (by omega) (by omega)
      have i2 := y_i8 hv hk (by omega) (by omega)
      have c1 := y_cl1 i1
      have c3 := y_cl1 i2
      have hik : (kI + Int32.ofInt 1).toInt = ((k + 1 : Nat) : Int) := by rw [y_inc (by omega), hk]; rfl
      have b1 : 0 ≤ ((Int8.ofInt 8).toInt32 * ((Int8.ofInt 10).toInt32 * iI + vI) + kI).toInt ∧ ((Int8.ofInt 8).toInt32 * ((Int8.ofInt 10).toInt32 * iI + vI) + kI).toInt < ((240 : Nat) : Int) := by omega
      have b2 : 0 ≤ ((Int8.ofInt 8).toInt32 * vI + kI).toInt ∧ ((Int8.ofInt 8).toInt32 * vI + kI).toInt < ((80 : Nat) : Int) := by omega
      refine ⟨b1, fun l hl hlen hbb => ?_⟩
      obtain rfl := y_ai g1 hl
      have hm := hbb _ (z_gd (0 : Int32) (show ((Int8.ofInt 8).toInt32 * ((Int8.ofInt 10).toInt32 * iI + vI) + kI).toNatClampNeg < kt.length by omega))
      refine ⟨b2, hm, fun l2 hl2 hlen2 hbb2 => ?_⟩
      obtain rfl := y_ai g2 hl2
      intro H hH
      have e : y_fr h H [] [158] := y_st (y_mo (y_rf hr) rfl rfl) hH (by repeat (first | exact w_nil | refine w_cons (Or.inl (y_m rfl)) ?_ | refine w_cons (Or.inr (by assumption)) ?_)) (by repeat (first | exact w_nil | refine w_cons (Or.inl (y_m rfl)) ?_ | refine w_cons (Or.inr (by assumption)) ?_))
      refine ih H _ (k + 1) _ e.1 ((y_ae e rfl).trans g1) (hH.2.2.1 158 _ rfl) hik (by omega) (fun j hj => ?_) (fun H' kt' kI' f1 f2 f3 => hK H' kt' kI' (y_sq e f1 rfl rfl) f2 f3)
      rw [c3, y_Nset (by omega)]
      split
      · rename_i ej
        subst ej
        rw [c1, show (8 * v + k) / 8 = v by omega]
        have := c2 (8 * (10 * i + v) + k) (by omega)
        rw [show (8 * (10 * i + v) + k) % 80 / 8 = v by omega] at this
        exact this
      · exact hq j hj
/-- what was kept, up to v -/
def y_bk (i p v : Nat) (ks ko sa so : List Int32) : Prop := ∀ u, u < v → y_N sa u = (if u < p then y_N ks (10 * i + u) else -1) ∧ y_N so u = y_N ko (10 * i + u)
theorem y_bk_s {i p v : Nat} {ks ko sa so : List Int32} {x y : Int32} (h : y_bk i p v ks ko sa so) (l1 : v < sa.length) (l2 : v < so.length) (hx : x.toInt = if v < p then y_N ks (10 * i + v) else -1) (hy : y.toInt = y_N ko (10 * i + v)) : y_bk i p (v + 1) ks ko (sa.set v x) (so.set v y) := by
  intro u hu
  rw [y_Nset l1, y_Nset l2]
  by_cases q : u = v
  · subst q
    rw [if_pos rfl, if_pos rfl]
    exact ⟨hx, hy⟩
  · rw [if_neg q, if_neg q]
    exact h u (by omega)
/-- costs: none below 1 -/
def y_c1 (nd : Int32) (co : List Int32) : Prop := ∀ v : Nat, (v : Int) < nd.toInt → 1 ≤ y_N co v
theorem y_again_out {iI nd : Int32} {i : Nat} {de kn kf ks kc ko kt : List Int32} (kc1 : ∀ v, v < y_Nn kn i → 1 ≤ y_N kc (10 * i + v)) (hi : iI.toInt = i) (hi3 : i < 3) (c2 : y_kt de kt) (n0 : 0 ≤ nd.toInt) (n10 : nd.toInt ≤ 10) (pn : y_N kn i = y_Nn kn i) : ∀ (t : Nat) (h : aH) (vI : Int32) (v : Nat) (o3 o4 : Option Value) (fo sa co so ta : List Int32), w_hr z_D h → w_f h 19591 = some (.int nd) → w_a h 187 = some (0, .inl kn) → w_a h 189 = some (0, .inl kf) → w_a h 190 = some (0, .inl ks) → w_a h 191 = some (0, .inl kc) → w_a h 192 = some (0, .inl ko) → w_a h 194 = some (0, .inl kt) → w_a h 158 = some (0, .inl ta) → w_a h 159 = some (0, .inl fo) → w_a h 160 = some (0, .inl sa) → w_a h 161 = some (0, .inl co) → w_a h 162 = some (0, .inl so) → vI.toInt = v → (v : Int) + t = nd.toInt → y_tb de ta → y_bk i (y_Nn kn i) v ks ko sa so → y_c1 nd co →
    (∀ (H : aH) (sa' so' ta' co' : List Int32), w_a H 161 = some (0, .inl co') → y_c1 nd co' → y_fr h H [] [158, 159, 160, 161, 162] → w_a H 160 = some (0, .inl sa') → w_a H 162 = some (0, .inl so') → w_a H 158 = some (0, .inl ta') → y_tb de ta' → y_bk i (y_Nn kn i) nd.toInt.toNat ks ko sa' so' → K0 (some (.int (Int32.ofInt 1))) H C S) →
    aOK s_P X d a_m280 40 [some (.ref 155), some (.int iI), some (.int vI), o3, o4] [] h C S K0 := by
  intro t
  induction t with
  | zero =>
    intro h vI v o3 o4 fo sa co so ta hr a0 a1 a2 a3 a4 a5 a6 a7 a8 a9 a10 a11 hv hvt r1 r2 r3 hK
    refine w_go z_hl [40] [] 80 hr ?_
    intro x hx b1 b2
    obtain rfl := y_fi a0 hx
    refine ⟨fun q => ?_, fun q => ?_⟩
    · refine ⟨by decide, fun H hH => ?_⟩
      have e : y_fr h H [] [158, 159, 160, 161, 162] := y_st (y_mo (y_rf hr) rfl rfl) hH (by repeat (first | exact w_nil | refine w_cons (Or.inl (y_m rfl)) ?_ | refine w_cons (Or.inr (by assumption)) ?_)) (by repeat (first | exact w_nil | refine w_cons (Or.inl (y_m rfl)) ?_ | refine w_cons (Or.inr (by assumption)) ?_))
      have e0 : y_fr h H [] [] := y_st (y_mo (y_rf hr) rfl rfl) hH (by repeat (first | exact w_nil | refine w_cons (Or.inl (y_m rfl)) ?_ | refine w_cons (Or.inr (by assumption)) ?_)) (by repeat (first | exact w_nil | refine w_cons (Or.inl (y_m rfl)) ?_ | refine w_cons (Or.inr (by assumption)) ?_))
      refine hK H sa so ta co ((y_ae e0 rfl).trans a10) r3 e ((y_ae e0 rfl).trans a9) ((y_ae e0 rfl).trans a11) ((y_ae e0 rfl).trans a7) r1 ?_
      rw [show nd.toInt.toNat = v by omega]
      exact r2
    · have : ¬ (nd.toInt ≤ vI.toInt) := y_cif q
      omega
  | succ t ih =>
    intro h vI v o3 o4 fo sa co so ta hr a0 a1 a2 a3 a4 a5 a6 a7 a8 a9 a10 a11 hv hvt r1 r2 r3 hK
    have i1 := y_i10 hi hv (by omega) (by omega)
    have c1 := y_cl1 i1
    have cv := y_cl1 hv
    have ci := y_cl1 hi
    have hiv : (vI + Int32.ofInt 1).toInt = ((v + 1 : Nat) : Int) := by rw [y_inc (by omega), hv]; rfl
    have b1 : 0 ≤ ((Int8.ofInt 10).toInt32 * iI + vI).toInt ∧ ((Int8.ofInt 10).toInt32 * iI + vI).toInt < ((30 : Nat) : Int) := by omega
    have bv : 0 ≤ vI.toInt ∧ vI.toInt < ((10 : Nat) : Int) := by omega
    have c30 : ((Int8.ofInt 10).toInt32 * iI + vI).toNatClampNeg < 30 := by omega
    refine w_go z_hl [40, 64] [] 80 hr ?_
    intro x hx x1 x2
    obtain rfl := y_fi a0 hx
    refine ⟨fun q => ?_, fun q => ?_⟩
    · have : nd.toInt ≤ vI.toInt := (y_ci .ge _ _).mp q
      omega
    · refine ⟨⟨by omega, by omega⟩, fun l hl len bb => ?_⟩
      obtain rfl := y_ai a1 hl
      have hkn : (kn.getD iI.toNatClampNeg 0).toInt = y_Nn kn i := by
        rw [ci]
        exact pn
      refine ⟨fun q2 => ?_, fun q2 => ?_⟩
      · -- not kept
        have q3 : (kn.getD iI.toNatClampNeg 0).toInt ≤ vI.toInt := (y_ci .ge _ _).mp q2
        intro H hH
        have e : y_fr h H [] [] := y_st (y_mo (y_rf hr) rfl rfl) hH (by repeat (first | exact w_nil | refine w_cons (Or.inl (y_m rfl)) ?_ | refine w_cons (Or.inr (by assumption)) ?_)) (by repeat (first | exact w_nil | refine w_cons (Or.inl (y_m rfl)) ?_ | refine w_cons (Or.inr (by assumption)) ?_))
        have A6 := (y_ae e (k := 159) rfl).trans a8
        have A7 := (y_ae e (k := 160) rfl).trans a9
        have A8 := (y_ae e (k := 162) rfl).trans a11
        have A9 := (y_ae e (k := 192) rfl).trans a5
        have A10 := (y_ae e (k := 161) rfl).trans a10
        refine w_go z_hl [40] [] 80 e.1 ?_
        refine ⟨fun _ => ?_, fun q => absurd q (by decide)⟩
        refine ⟨bv, by decide, fun l1 hl1 len1 bb1 => ?_⟩
        obtain rfl := y_ai A6 hl1
        refine ⟨fun _ => ?_, fun q => absurd q (by decide)⟩
        refine ⟨bv, by decide, fun l2 hl2 len2 bb2 => ?_⟩
        obtain rfl := y_ai A7 hl2
        refine ⟨b1, fun l3 hl3 len3 bb3 => ⟨bv, bb3 _ (z_gd (0 : Int32) (Nat.lt_of_lt_of_eq c30 len3.symm)), fun l4 hl4 len4 bb4 => ?_⟩⟩
        obtain rfl := y_ai A9 hl3
        obtain rfl := y_ai A8 hl4
        refine ⟨fun _ => ?_, fun q => absurd q (by decide)⟩
        refine ⟨bv, fun l5 hl5 len5 bb5 => ⟨bv, bb5 _ (z_gd (0 : Int32) (by omega)), ?_⟩⟩
        obtain rfl := y_ai A10 hl5
        refine ⟨fun q => absurd q (by decide), fun _ => ⟨fun _ => ?_, fun q => absurd q (by decide)⟩⟩
        intro H2 h2
        have f2 : y_fr H H2 [] [159, 160, 161, 162] := y_st (y_mo (y_rf e.1) rfl rfl) h2 (by repeat (first | exact w_nil | refine w_cons (Or.inl (y_m rfl)) ?_ | refine w_cons (Or.inr (by assumption)) ?_)) (by repeat (first | exact w_nil | refine w_cons (Or.inl (y_m rfl)) ?_ | refine w_cons (Or.inr (by assumption)) ?_))
        have e2 : y_fr h H2 [] [159, 160, 161, 162] := y_sq (y_mo e rfl rfl) f2 rfl rfl
        refine ih H2 _ (v + 1) _ _ _ _ _ _ ta f2.1 ((y_fe e2 rfl).trans a0) ((y_ae e2 rfl).trans a1) ((y_ae e2 rfl).trans a2) ((y_ae e2 rfl).trans a3) ((y_ae e2 rfl).trans a4) ((y_ae e2 rfl).trans a5) ((y_ae e2 rfl).trans a6) ((y_ae e2 rfl).trans a7) (h2.2.2.1 159 _ rfl) (h2.2.2.1 160 _ rfl) (h2.2.2.1 161 _ rfl) (h2.2.2.1 162 _ rfl) hiv (by omega) r1 ?_ ?_ (fun H' sa' so' ta' co' v1 v2 u1 u2 u3 u4 u5 u6 => hK H' sa' so' ta' co' v1 v2 (y_sq (y_mo e2 rfl rfl) u1 rfl rfl) u2 u3 u4 u5 u6)
        · rw [cv]
          refine y_bk_s r2 (by omega) (by omega) ?_ ?_
          · rw [if_neg (by omega)]
            decide
          · rw [c1]
            rfl
        · rw [cv]
          intro u hu
          rw [y_Nset (by omega)]
          split
          · exact r3 v (by omega)
          · exact r3 u hu
      · -- kept
        have q3 : ¬ ((kn.getD iI.toNatClampNeg 0).toInt ≤ vI.toInt) := y_cif q2
        intro H hH
        have e : y_fr h H [] [] := y_st (y_mo (y_rf hr) rfl rfl) hH (by repeat (first | exact w_nil | refine w_cons (Or.inl (y_m rfl)) ?_ | refine w_cons (Or.inr (by assumption)) ?_)) (by repeat (first | exact w_nil | refine w_cons (Or.inl (y_m rfl)) ?_ | refine w_cons (Or.inr (by assumption)) ?_))
        have A4 := (y_ae e (k := 189) rfl).trans a2
        have A5 := (y_ae e (k := 190) rfl).trans a3
        have A6 := (y_ae e (k := 159) rfl).trans a8
        have A7 := (y_ae e (k := 160) rfl).trans a9
        have A8 := (y_ae e (k := 162) rfl).trans a11
        have A9 := (y_ae e (k := 192) rfl).trans a5
        have A10 := (y_ae e (k := 161) rfl).trans a10
        have A11 := (y_ae e (k := 191) rfl).trans a4
        refine w_go z_hl [40, 164] [] 80 e.1 ?_
        refine ⟨fun q => absurd q (by decide), fun _ => ?_⟩
        refine ⟨b1, fun l0 hl0 len0 bb0 => ⟨bv, bb0 _ (z_gd (0 : Int32) (Nat.lt_of_lt_of_eq c30 len0.symm)), fun l1 hl1 len1 bb1 => ?_⟩⟩
        obtain rfl := y_ai A4 hl0
        obtain rfl := y_ai A6 hl1
        refine ⟨fun q => absurd q (by decide), fun _ => ?_⟩
        refine ⟨b1, fun l0 hl0 len0 bb0 => ⟨bv, bb0 _ (z_gd (0 : Int32) (Nat.lt_of_lt_of_eq c30 len0.symm)), fun l2 hl2 len2 bb2 => ?_⟩⟩
        obtain rfl := y_ai A5 hl0
        obtain rfl := y_ai A7 hl2
        refine ⟨b1, fun l3 hl3 len3 bb3 => ⟨bv, bb3 _ (z_gd (0 : Int32) (Nat.lt_of_lt_of_eq c30 len3.symm)), fun l4 hl4 len4 bb4 => ?_⟩⟩
        obtain rfl := y_ai A9 hl3
        obtain rfl := y_ai A8 hl4
        refine ⟨fun q => absurd q (by decide), fun _ => ?_⟩
        refine ⟨b1, fun l5 hl5 len5 bb5 => ⟨bv, bb5 _ (z_gd (0 : Int32) (Nat.lt_of_lt_of_eq c30 len5.symm)), fun l6 hl6 len6 bb6 => ?_⟩⟩
        obtain rfl := y_ai A11 hl5
        obtain rfl := y_ai A10 hl6
        intro H2 h2
        have f2 : y_fr H H2 [] [159, 160, 161, 162] := y_st (y_mo (y_rf e.1) rfl rfl) h2 (by repeat (first | exact w_nil | refine w_cons (Or.inl (y_m rfl)) ?_ | refine w_cons (Or.inr (by assumption)) ?_)) (by repeat (first | exact w_nil | refine w_cons (Or.inl (y_m rfl)) ?_ | refine w_cons (Or.inr (by assumption)) ?_))
        have e2 : y_fr h H2 [] [159, 160, 161, 162] := y_sq (y_mo e rfl rfl) f2 rfl rfl
        refine y_again_in hi hv hi3 (by omega) c2 8 H2 _ 0 ta f2.1 ((y_ae e2 rfl).trans a6) ((y_ae e2 rfl).trans a7) rfl rfl r1 (fun H3 ta' kI' u1 u2 u3 => ?_)
        have e3 : y_fr h H3 [] [158, 159, 160, 161, 162] := y_sq (y_mo e2 rfl rfl) u1 rfl rfl
        refine ih H3 _ (v + 1) _ _ _ _ _ _ ta' u1.1 ((y_fe e3 rfl).trans a0) ((y_ae e3 rfl).trans a1) ((y_ae e3 rfl).trans a2) ((y_ae e3 rfl).trans a3) ((y_ae e3 rfl).trans a4) ((y_ae e3 rfl).trans a5) ((y_ae e3 rfl).trans a6) u2 ((y_ae u1 rfl).trans (h2.2.2.1 159 _ rfl)) ((y_ae u1 rfl).trans (h2.2.2.1 160 _ rfl)) ((y_ae u1 rfl).trans (h2.2.2.1 161 _ rfl)) ((y_ae u1 rfl).trans (h2.2.2.1 162 _ rfl)) hiv (by omega) u3 ?_ ?_ (fun H' sa' so' ta' co' v1 v2 u1 u2 u3 u4 u5 u6 => hK H' sa' so' ta' co' v1 v2 (y_sq e3 u1 rfl rfl) u2 u3 u4 u5 u6)
        · rw [cv]
          refine y_bk_s r2 (by omega) (by omega) ?_ ?_
          · rw [if_pos (by omega), c1]
            rfl
          · rw [c1]
            rfl
        · rw [cv, c1]
          intro u hu
          rw [y_Nset (by omega)]
          split
          · exact kc1 v (by omega)
          · exact r3 u hu
theorem p_again {h : aH} (hr : w_hr z_D h) (hJ : y_J h) (hC : j_cost h) {iI : Int32} (hk : ∀ (r : Int32) (H : aH), y_fr h H [19584, 19598] [158, 159, 160, 161, 162] → y_J H → j_cost H → 0 ≤ r.toInt ∧ r.toInt ≤ 1 → K0 (some (.int r)) H C S) : aOK s_P X (d + 1) a_m280 0 [some (.ref 155), some (.int iI), none, none, none] [] h C S K0 := by
  have hJ' := hJ
  obtain ⟨q1, q2, q3, q4, q5, q6, q7⟩ := hJ'
  obtain ⟨nd, le, de, ta, n1, n2, n3, n4, c1, c2, c3, c4, c5⟩ := q1
  obtain ⟨nd', sm, so, sa, s1, s2, s3, s4, s5⟩ := q5
  obtain rfl := y_fi n1 s1
  obtain ⟨nd', kn, km, ko, ks, k1, k2, k3, k4, k5, k6⟩ := id q6
  obtain rfl := y_fi n1 k1
  obtain ⟨de', to, kt, sn, sl, sh, o1, o2, o3, o4, o5, o6, o7, o8, o9⟩ := id q3
  obtain rfl := y_ai n3 o1
  obtain ⟨b1, b2⟩ := y_ndb hr n1
  refine w_go z_hl [40] [176] 30 hr ?_
  refine ⟨rfl, y_zini (by decide) (by decide), fun H1 h1 => ?_⟩
  have e1 : y_fr h H1 [19584] [] := y_st (y_mo (y_rf hr) rfl rfl) h1 (by repeat (first | exact w_nil | refine w_cons (Or.inl (y_m rfl)) ?_ | refine w_cons (Or.inr (by assumption)) ?_)) (by repeat (first | exact w_nil | refine w_cons (Or.inl (y_m rfl)) ?_ | refine w_cons (Or.inr (by assumption)) ?_))
  have out : ∀ {G : aH}, y_fr h G [19584] [] → K0 (some (.int (Int32.ofInt 0))) G C S := fun g => hk _ _ (y_mo g rfl rfl) (y_J_fr g rfl rfl hJ) (j_cost_e g rfl rfl hC) (by decide)
  refine q_in e1.1 (fun H2 h2 l1 l2 => ⟨fun n e => (by cases e), ?_⟩) (fun H2 h2 _ => ⟨fun n e => (by cases e), ?_⟩)
  · have l1 : 0 ≤ iI.toInt := by rw [y_i2l] at l1; exact l1
    have l2 : iI.toInt ≤ 2 := by rw [y_i2l] at l2; exact l2
    obtain ⟨i, hi⟩ : ∃ i : Nat, iI.toInt = i := ⟨iI.toInt.toNat, by omega⟩
    have ci := y_cl1 hi
    have e2 := y_sq e1 h2 rfl rfl
    refine w_go z_hl [40] [176] 40 e2.1 ?_
    refine ⟨fun q => absurd q (by decide), fun _ => ?_⟩
    refine ⟨⟨by omega, by omega⟩, fun l hl len bb => ?_⟩
    refine ⟨fun _ => ?_, fun _ => ⟨by decide, fun H3 h3 => out (y_st e2 h3 (by repeat (first | exact w_nil | refine w_cons (Or.inl (y_m rfl)) ?_ | refine w_cons (Or.inr (by assumption)) ?_)) (by repeat (first | exact w_nil | refine w_cons (Or.inl (y_m rfl)) ?_ | refine w_cons (Or.inr (by assumption)) ?_)))⟩⟩
    refine ⟨⟨by omega, by omega⟩, fun l2 hl2 len2 bb2 => ?_⟩
    obtain rfl := y_ai ((y_ae e2 rfl).trans k3) hl2
    have hm := bb2 _ (z_gd (0 : Int32) (show iI.toNatClampNeg < km.length by omega))
    refine ⟨rfl, y_zini hm.1 hm.2, ?_⟩
    intro H3 h3
    have e3 : y_fr h H3 [19584, 19598] [] := y_st (y_mo e2 rfl rfl) h3 (by repeat (first | exact w_nil | refine w_cons (Or.inl (y_m rfl)) ?_ | refine w_cons (Or.inr (by assumption)) ?_)) (by repeat (first | exact w_nil | refine w_cons (Or.inl (y_m rfl)) ?_ | refine w_cons (Or.inr (by assumption)) ?_))
    have F := h3.2.1 19598 _ rfl
    obtain ⟨kf, z1, z2, -⟩ := w_arrI e3.1 (o := 189) (t := 0) (n := 30) (lo := -1) (hi := 1) (by decide) rfl
    obtain ⟨kc, z3, z4, -⟩ := w_arrI e3.1 (o := 191) (t := 0) (n := 30) (lo := 0) (hi := 99) (by decide) rfl
    obtain ⟨fo, z5, z6, -⟩ := w_arrI e3.1 (o := 159) (t := 0) (n := 10) (lo := -1) (hi := 1) (by decide) rfl
    obtain ⟨co, z7, z8, -⟩ := w_arrI e3.1 (o := 161) (t := 0) (n := 10) (lo := 0) (hi := 99) (by decide) rfl
    obtain ⟨kn', z9, z10, z11⟩ := w_arrI e3.1 (o := 187) (t := 0) (n := 3) (lo := 0) (hi := 10) (by decide) rfl
    obtain rfl := y_ai ((y_ae e3 rfl).trans k2) (w_a_at z9)
    have pn : y_N kn i = y_Nn kn i := by
      have := z11 _ (z_gd (0 : Int32) (show i < kn.length by omega))
      unfold y_N y_Nn
      omega
    obtain ⟨ndc, co', knc, kcc, x1, x2, x3, x4, x5, x6⟩ := id hC
    obtain rfl := y_fi n1 x1
    obtain rfl := y_ai ((y_ae e3 rfl).trans x2) (w_a_at z7)
    obtain rfl := y_ai ((y_ae e3 rfl).trans x4) (w_a_at z3)
    obtain rfl := y_ai k2 x3
    refine y_again_out (de := de) (ks := ks) (ko := ko) (fun v hv => x6 i v (by omega) hv) hi (by omega) o8 b1 b2 pn nd.toInt.toNat H3 _ 0 none none fo sa co' so ta e3.1 ((y_fe e3 rfl).trans n1) ((y_ae e3 rfl).trans k2) (w_a_at z1) ((y_ae e3 rfl).trans k5) (w_a_at z3) ((y_ae e3 rfl).trans k4) ((y_ae e3 rfl).trans o3) ((y_ae e3 rfl).trans n4) (w_a_at z5) ((y_ae e3 rfl).trans s4) (w_a_at z7) ((y_ae e3 rfl).trans s3) rfl (by omega) c2 (fun u hu => absurd hu (by omega)) x5 (fun H4 sa' so' ta' co'' w1 w2 f1 f2 f3 f4 f5 f6 => ?_)
    have e4 : y_fr h H4 [19584, 19598] [158, 159, 160, 161, 162] := y_sq (y_mo e3 rfl rfl) f1 rfl rfl
    refine hk _ _ e4 ⟨⟨nd, le, de, ta', (y_fe e4 rfl).trans n1, (y_ae e4 rfl).trans n2, (y_ae e4 rfl).trans n3, f4, c1, f5, c3, c4, c5⟩, j_dp_e (y_fe e4 rfl) (y_fe e4 rfl) (y_ae e4 rfl) q2, j_old_e (y_ae e4 rfl) (y_ae e4 rfl) (y_ae e4 rfl) (y_ae e4 rfl) (y_ae e4 rfl) (y_ae e4 rfl) q3, j_w_e (y_fe e4 rfl) (y_ae e4 rfl) q4, ⟨nd, _, so', sa', (y_fe e4 rfl).trans n1, (y_fe f1 rfl).trans F, f3, f2, ?_⟩, j_kept_e (y_fe e4 rfl) (y_ae e4 rfl) (y_ae e4 rfl) (y_ae e4 rfl) (y_ae e4 rfl) q6, j_land_e (y_fe e4 rfl) (y_ae e4 rfl) q7⟩ ⟨nd, co'', kn, kcc, (y_fe e4 rfl).trans n1, w1, (y_ae e4 rfl).trans k2, (y_ae e4 rfl).trans x4, w2, x6⟩ (by decide)
    rw [ci]
    have kj := k6 i (by omega)
    refine y_ord_x (p := y_Nn kn i) kj.2 (by have := kj.1; omega) (fun k hk' => (f6 k hk').2) (fun k hk' => (f6 k hk').1)
  · refine w_go z_hl [40] [176] 30 h2.1 ?_
    refine ⟨fun _ => ⟨by decide, fun H3 h3 => ?_⟩, fun q => absurd q (by decide)⟩
    exact out (y_st (y_sq e1 h2 rfl rfl) h3 (by repeat (first | exact w_nil | refine w_cons (Or.inl (y_m rfl)) ?_ | refine w_cons (Or.inr (by assumption)) ?_)) (by repeat (first | exact w_nil | refine w_cons (Or.inl (y_m rfl)) ?_ | refine w_cons (Or.inr (by assumption)) ?_)))
end WG
