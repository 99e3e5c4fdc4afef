/-! ===== v3: the reference's keep ===== -/
theorem y_mulS {a b : Int32} {m n : Nat} (p : Nat) (ha : a.toInt = m) (hb : b.toInt = n) (hp : m * n = p) (h : p < 2147483648) : (a * b).toInt = p := by
  rw [Int32.toInt_mul, ha, hb, ← Int.natCast_mul, hp]
  exact Int.bmod_eq_of_le (by omega) (by omega)
theorem y_addS {a b : Int32} {m n : Nat} (p : Nat) (ha : a.toInt = m) (hb : b.toInt = n) (hp : m + n = p) (h : p < 2147483648) : (a + b).toInt = p := by
  rw [Int32.toInt_add, ha, hb, show (m : Int) + n = p by omega]
  exact Int.bmod_eq_of_le (by omega) (by omega)
theorem y_c8 : ((Int8.ofInt 8).toInt32).toInt = ((8 : Nat) : Int) := by decide
theorem y_c10 : ((Int8.ofInt 10).toInt32).toInt = ((10 : Nat) : Int) := by decide
theorem y_c6 : ((Int8.ofInt 6).toInt32).toInt = ((6 : Nat) : Int) := by decide
theorem y_i10 {a b : Int32} {i v : Nat} (ha : a.toInt = i) (hb : b.toInt = v) (hi : i < 1000) (hv : v < 1000) : ((Int8.ofInt 10).toInt32 * a + b).toInt = ((10 * i + v : Nat) : Int) := y_addS _ (y_mulS _ y_c10 ha rfl (by omega)) hb rfl (by omega)
theorem y_i8 {a b : Int32} {i v : Nat} (ha : a.toInt = i) (hb : b.toInt = v) (hi : i < 1000) (hv : v < 1000) : ((Int8.ofInt 8).toInt32 * a + b).toInt = ((8 * i + v : Nat) : Int) := y_addS _ (y_mulS _ y_c8 ha rfl (by omega)) hb rfl (by omega)
theorem y_i6 {a b : Int32} {i v : Nat} (ha : a.toInt = i) (hb : b.toInt = v) (hi : i < 1000) (hv : v < 1000) : ((Int8.ofInt 6).toInt32 * a + b).toInt = ((6 * i + v : Nat) : Int) := y_addS _ (y_mulS _ y_c6 ha rfl (by omega)) hb rfl (by omega)
theorem y_cl1 {x : Int32} {n : Nat} (h : x.toInt = n) : x.toNatClampNeg = n := by
  show x.toInt.toNat = n
  omega
theorem y_ord_c {n m : Nat} {so sa so' sa' : Nat → Int} (h : y_ord n m so sa) (h1 : ∀ k, k < n → so' k = so k) (h2 : ∀ k, k < n → sa' k = sa k) : y_ord n m so' sa' := by
  obtain ⟨t1, t2, t3, t4⟩ := h
  refine ⟨t1, fun k hk => ?_, fun i j hi hj e => ?_, fun v hv hs => ?_⟩
  · have b := t2 k hk
    rw [h1 k (by omega), h2 _ (by omega)]
    exact b
  · rw [h1 i (by omega), h1 j (by omega)] at e
    exact t3 i j hi hj e
  · rw [h2 v hv] at hs
    obtain ⟨k, k1, k2⟩ := t4 v hv hs
    exact ⟨k, k1, by rw [h1 k (by omega)]; exact k2⟩
/-- tables that are kept -/
def y_kt (de kt : List Int32) : Prop := ∀ i, i < 240 → y_N kt i ≤ y_N de (i % 80 / 8)
section WG
variable {X : aX} {C S d : Nat} {K0 : Option Value → aH → Nat → Nat → Prop}
theorem y_keep_in {iI vI : Int32} {i v : Nat} {ta de : List Int32} (hi : iI.toInt = i) (hv : vI.toInt = v) (hi3 : i < 3) (hv10 : v < 10) (c2 : ∀ i, i < 80 → y_N ta i ≤ y_N de (i / 8)) : ∀ (t : Nat) (h : aH) (kI : Int32) (k : Nat) (kt : List Int32), w_hr z_D h → w_a h 194 = some (0, .inl kt) → w_a h 158 = some (0, .inl ta) → kI.toInt = k → k + t = 8 → y_kt de kt →
    (∀ (H : aH) (kt' : List Int32) (kI' : Int32), y_fr h H [] [194] → w_a H 194 = some (0, .inl kt') → y_kt de kt' → aOK s_P X d a_m279 163 [some (.ref 155), some (.int iI), some (.int vI), some (.int kI')] [] H C S K0) →
    aOK s_P X d a_m279 124 [some (.ref 155), some (.int iI), some (.int vI), some (.int kI)] [] h C S K0 := by
  intro t
  induction t with
  | zero =>
    intro h kI k kt hr g1 g2 hk hkt hq hK
    refine w_go z_hl [124, 163] [] 40 hr ?_
    refine ⟨fun q => ?_, fun q => ?_⟩
    · intro H hH
      have e : y_fr h H [] [194] := y_st (y_mo (y_rf hr) rfl rfl) hH (by repeat (first | exact w_nil | refine w_cons (Or.inl (y_m rfl)) ?_ | refine w_cons (Or.inr (by assumption)) ?_)) (by repeat (first | exact w_nil | refine w_cons (Or.inl (y_m rfl)) ?_ | refine w_cons (Or.inr (by assumption)) ?_))
      have e0 : y_fr h H [] [] := y_st (y_mo (y_rf hr) rfl rfl) hH (by repeat (first | exact w_nil | refine w_cons (Or.inl (y_m rfl)) ?_ | refine w_cons (Or.inr (by assumption)) ?_)) (by repeat (first | exact w_nil | refine w_cons (Or.inl (y_m rfl)) ?_ | refine w_cons (Or.inr (by assumption)) ?_))
      exact hK H kt kI e ((y_ae e0 rfl).trans g1) hq
    · have : ¬ (((Int8.ofInt 8).toInt32).toInt ≤ kI.toInt) := y_cif q
      rw [y_c8] at this
      omega
  | succ t ih =>
    intro h kI k kt hr g1 g2 hk hkt hq hK
    refine w_go z_hl [124, 163] [] 40 hr ?_
    refine ⟨fun q => ?_, fun q => ?_⟩
    · have : ((Int8.ofInt 8).toInt32).toInt ≤ kI.toInt := (y_ci .ge _ _).mp q
      rw [y_c8] at this
      omega
    · have i1 := y_i8 (y_i10 hi hv (by omega) (by omega)) hk (by omega) (by omega)
      have i2 := y_i8 hv hk (by omega) (by omega)
      have c1 := y_cl1 i1
      have c3 := y_cl1 i2
      have hik : (kI + Int32.ofInt 1).toInt = ((k + 1 : Nat) : Int) := by rw [y_inc (by omega), hk]; rfl
      have b1 : 0 ≤ ((Int8.ofInt 8).toInt32 * ((Int8.ofInt 10).toInt32 * iI + vI) + kI).toInt ∧ ((Int8.ofInt 8).toInt32 * ((Int8.ofInt 10).toInt32 * iI + vI) + kI).toInt < ((240 : Nat) : Int) := by omega
      have b2 : 0 ≤ ((Int8.ofInt 8).toInt32 * vI + kI).toInt ∧ ((Int8.ofInt 8).toInt32 * vI + kI).toInt < ((80 : Nat) : Int) := by omega
      refine ⟨b2, fun l hl hlen hbb => ?_⟩
      obtain rfl := y_ai g2 hl
      have hm := hbb _ (z_gd (0 : Int32) (show ((Int8.ofInt 8).toInt32 * vI + kI).toNatClampNeg < ta.length by omega))
      refine ⟨b1, hm, fun l2 hl2 hlen2 hbb2 => ?_⟩
      obtain rfl := y_ai g1 hl2
      intro H hH
      have e : y_fr h H [] [194] := y_st (y_mo (y_rf hr) rfl rfl) hH (by repeat (first | exact w_nil | refine w_cons (Or.inl (y_m rfl)) ?_ | refine w_cons (Or.inr (by assumption)) ?_)) (by repeat (first | exact w_nil | refine w_cons (Or.inl (y_m rfl)) ?_ | refine w_cons (Or.inr (by assumption)) ?_))
      refine ih H _ (k + 1) _ e.1 (hH.2.2.1 194 _ rfl) ((y_ae e rfl).trans g2) hik (by omega) (fun j hj => ?_) (fun H' kt' kI' f1 f2 f3 => hK H' kt' kI' (y_sq e f1 rfl rfl) f2 f3)
      rw [c1, y_Nset (by omega)]
      split
      · rename_i ej
        subst ej
        rw [c3, show (8 * (10 * i + v) + k) % 80 / 8 = v by omega]
        have := c2 (8 * v + k) (by omega)
        rw [show (8 * v + k) / 8 = v by omega] at this
        exact this
      · exact hq j hj
/-- rows that are kept: the row i up to v as it is, the others as they were -/
def y_row (i v : Nat) (a b0 b : List Int32) : Prop := ∀ j, y_N b j = if 10 * i ≤ j ∧ j < 10 * i + v then y_N a (j - 10 * i) else y_N b0 j
theorem y_row_s {i v : Nat} {a b0 b : List Int32} (h : y_row i v a b0 b) (hl : 10 * i + v < b.length) : y_row i (v + 1) a b0 (b.set (10 * i + v) (a.getD v 0)) := by
  intro j
  rw [y_Nset hl]
  split
  · rename_i e
    subst e
    rw [if_pos (by omega), show 10 * i + v - 10 * i = v by omega]
    rfl
  · rw [h j]
    by_cases q : 10 * i ≤ j ∧ j < 10 * i + v
    · rw [if_pos q, if_pos (by omega)]
    · rw [if_neg q, if_neg (by omega)]
theorem y_keep_out {iI : Int32} {i : Nat} {ta de so sa fo co ks0 ko0 kc0 : List Int32} (hi : iI.toInt = i) (hi3 : i < 3) (c2 : ∀ i, i < 80 → y_N ta i ≤ y_N de (i / 8)) : ∀ (t : Nat) (h : aH) (vI : Int32) (v : Nat) (o3 : Option Value) (kf ks kc ko kt : List Int32), w_hr z_D h → w_a h 189 = some (0, .inl kf) → w_a h 190 = some (0, .inl ks) → w_a h 191 = some (0, .inl kc) → w_a h 192 = some (0, .inl ko) → w_a h 194 = some (0, .inl kt) → w_a h 158 = some (0, .inl ta) → w_a h 159 = some (0, .inl fo) → w_a h 160 = some (0, .inl sa) → w_a h 161 = some (0, .inl co) → w_a h 162 = some (0, .inl so) → vI.toInt = v → v + t = 10 → y_kt de kt → y_row i v sa ks0 ks → y_row i v so ko0 ko → y_row i v co kc0 kc →
    (∀ (H : aH) (ks' ko' kt' kc' : List Int32), y_fr h H [] [189, 190, 191, 192, 194] → w_a H 190 = some (0, .inl ks') → w_a H 192 = some (0, .inl ko') → w_a H 194 = some (0, .inl kt') → y_kt de kt' → y_row i 10 sa ks0 ks' → y_row i 10 so ko0 ko' → w_a H 191 = some (0, .inl kc') → y_row i 10 co kc0 kc' → K0 (some (.int (Int32.ofInt 1))) H C S) →
    aOK s_P X d a_m279 48 [some (.ref 155), some (.int iI), some (.int vI), o3] [] h C S K0 := by
  intro t
  induction t with
  | zero =>
    intro h vI v o3 kf ks kc ko kt hr a1 a2 a3 a4 a5 a6 a7 a8 a9 a10 hv hvt r1 r2 r3 r4 hK
    refine w_go z_hl [48, 124] [] 80 hr ?_
    refine ⟨fun q => ?_, fun q => ?_⟩
    · refine ⟨by decide, fun H hH => ?_⟩
      have e : y_fr h H [] [189, 190, 191, 192, 194] := y_st (y_mo (y_rf hr) rfl rfl) hH (by repeat (first | exact w_nil | refine w_cons (Or.inl (y_m rfl)) ?_ | refine w_cons (Or.inr (by assumption)) ?_)) (by repeat (first | exact w_nil | refine w_cons (Or.inl (y_m rfl)) ?_ | refine w_cons (Or.inr (by assumption)) ?_))
      have e0 : y_fr h H [] [] := y_st (y_mo (y_rf hr) rfl rfl) hH (by repeat (first | exact w_nil | refine w_cons (Or.inl (y_m rfl)) ?_ | refine w_cons (Or.inr (by assumption)) ?_)) (by repeat (first | exact w_nil | refine w_cons (Or.inl (y_m rfl)) ?_ | refine w_cons (Or.inr (by assumption)) ?_))
      have ev : v = 10 := by omega
      subst ev
      exact hK H ks ko kt kc e ((y_ae e0 rfl).trans a2) ((y_ae e0 rfl).trans a4) ((y_ae e0 rfl).trans a5) r1 r2 r3 ((y_ae e0 rfl).trans a3) r4
    · have : ¬ (((Int8.ofInt 10).toInt32).toInt ≤ vI.toInt) := y_cif q
      rw [y_c10] at this
      omega
  | succ t ih =>
    intro h vI v o3 kf ks kc ko kt hr a1 a2 a3 a4 a5 a6 a7 a8 a9 a10 hv hvt r1 r2 r3 r4 hK
    have i1 := y_i10 hi hv (by omega) (by omega)
    have c1 := y_cl1 i1
    have cv := y_cl1 hv
    have hiv : (vI + Int32.ofInt 1).toInt = ((v + 1 : Nat) : Int) := by rw [y_inc (by omega), hv]; rfl
    have b1 : 0 ≤ ((Int8.ofInt 10).toInt32 * iI + vI).toInt ∧ ((Int8.ofInt 10).toInt32 * iI + vI).toInt < ((30 : Nat) : Int) := by omega
    have bv : 0 ≤ vI.toInt ∧ vI.toInt < ((10 : Nat) : Int) := by omega
    refine w_go z_hl [48, 124] [] 80 hr ?_
    refine ⟨fun q => ?_, fun q => ?_⟩
    · have : ((Int8.ofInt 10).toInt32).toInt ≤ vI.toInt := (y_ci .ge _ _).mp q
      rw [y_c10] at this
      omega
    · refine ⟨bv, fun l hl len bb => ⟨b1, bb _ (z_gd (0 : Int32) (by omega)), fun l2 hl2 len2 bb2 => ?_⟩⟩
      obtain rfl := y_ai a7 hl
      obtain rfl := y_ai a1 hl2
      refine ⟨bv, fun l hl len bb => ⟨b1, bb _ (z_gd (0 : Int32) (by omega)), fun l2 hl2 len2 bb2 => ?_⟩⟩
      obtain rfl := y_ai a8 hl
      obtain rfl := y_ai a2 hl2
      refine ⟨bv, fun l hl len bb => ⟨b1, bb _ (z_gd (0 : Int32) (by omega)), fun l2 hl2 len2 bb2 => ?_⟩⟩
      obtain rfl := y_ai a9 hl
      obtain rfl := y_ai a3 hl2
      refine ⟨bv, fun l hl len bb => ⟨b1, bb _ (z_gd (0 : Int32) (by omega)), fun l2 hl2 len2 bb2 => ?_⟩⟩
      obtain rfl := y_ai a10 hl
      obtain rfl := y_ai a4 hl2
      intro H hH
      have e : y_fr h H [] [189, 190, 191, 192, 194] := y_st (y_mo (y_rf hr) rfl rfl) hH (by repeat (first | exact w_nil | refine w_cons (Or.inl (y_m rfl)) ?_ | refine w_cons (Or.inr (by assumption)) ?_)) (by repeat (first | exact w_nil | refine w_cons (Or.inl (y_m rfl)) ?_ | refine w_cons (Or.inr (by assumption)) ?_))
      have e2 : y_fr h H [] [189, 190, 191, 192] := y_st (y_mo (y_rf hr) rfl rfl) hH (by repeat (first | exact w_nil | refine w_cons (Or.inl (y_m rfl)) ?_ | refine w_cons (Or.inr (by assumption)) ?_)) (by repeat (first | exact w_nil | refine w_cons (Or.inl (y_m rfl)) ?_ | refine w_cons (Or.inr (by assumption)) ?_))
      have A1 := hH.2.2.1 189 _ rfl
      have A2 := hH.2.2.1 190 _ rfl
      have A3 := hH.2.2.1 191 _ rfl
      have A4 := hH.2.2.1 192 _ rfl
      refine y_keep_in hi hv hi3 (by omega) c2 8 H _ 0 kt e.1 ((y_ae e2 rfl).trans a5) ((y_ae e2 rfl).trans a6) rfl rfl r1 (fun H2 kt' kI' f1 f2 f3 => ?_)
      refine w_go z_hl [48, 124] [] 80 f1.1 ?_
      intro H3 h3
      have g3 : y_fr H2 H3 [] [] := y_st (y_rf f1.1) h3 (by repeat (first | exact w_nil | refine w_cons (Or.inl (y_m rfl)) ?_ | refine w_cons (Or.inr (by assumption)) ?_)) (by repeat (first | exact w_nil | refine w_cons (Or.inl (y_m rfl)) ?_ | refine w_cons (Or.inr (by assumption)) ?_))
      have g4 : y_fr H H3 [] [194] := y_sq f1 g3 rfl rfl
      have g5 : y_fr h H3 [] [189, 190, 191, 192, 194] := y_sq e g4 rfl rfl
      refine ih H3 _ (v + 1) _ _ _ _ _ kt' g3.1 ((y_ae g4 rfl).trans A1) ((y_ae g4 rfl).trans A2) ((y_ae g4 rfl).trans A3) ((y_ae g4 rfl).trans A4) ((y_ae g3 rfl).trans f2) ((y_ae g5 rfl).trans a6) ((y_ae g5 rfl).trans a7) ((y_ae g5 rfl).trans a8) ((y_ae g5 rfl).trans a9) ((y_ae g5 rfl).trans a10) hiv (by omega) f3 ?_ ?_ ?_ (fun H' ks' ko' kt'' kc'' u1 u2 u3 u4 u5 u6 u7 u8 u9 => hK H' ks' ko' kt'' kc'' (y_sq g5 u1 rfl rfl) u2 u3 u4 u5 u6 u7 u8 u9)
      · rw [c1, cv]
        exact y_row_s r2 (by omega)
      · rw [c1, cv]
        exact y_row_s r3 (by omega)
      · rw [c1, cv]
        exact y_row_s r4 (by omega)
theorem p_keep {h : aH} (hr : w_hr z_D h) (hJ : y_J h) (hC : j_cost h) {iI : Int32} (hk : ∀ (r : Int32) (H : aH), y_fr h H [19584] [187, 188, 189, 190, 191, 192, 193, 194] → y_J H → j_cost H → 0 ≤ r.toInt ∧ r.toInt ≤ 1 → K0 (some (.int r)) H C S) : aOK s_P X (d + 1) a_m279 0 [some (.ref 155), some (.int iI), none, none] [] h C S K0 := by
  have hJ' := hJ
  obtain ⟨q1, q2, q3, q4, q5, q6, q7⟩ := hJ'
  obtain ⟨nd, le, de, ta, n1, n2, n3, n4, c1, c2, c3, c4, c5⟩ := q1
  obtain ⟨nd', sm, so, sa, s1, s2, s3, s4, s5⟩ := q5
  obtain rfl := y_fi n1 s1
  obtain ⟨nd', kn, km, ko, ks, k1, k2, k3, k4, k5, k6⟩ := q6
  obtain rfl := y_fi n1 k1
  obtain ⟨de', to, kt, sn, sl, sh, o1, o2, o3, o4, o5, o6, o7, o8, o9⟩ := q3
  obtain rfl := y_ai n3 o1
  refine w_go z_hl [48] [176] 30 hr ?_
  refine ⟨rfl, y_zini (by decide) (by decide), fun H1 h1 => ?_⟩
  have e1 : y_fr h H1 [19584] [] := y_st (y_mo (y_rf hr) rfl rfl) h1 (by repeat (first | exact w_nil | refine w_cons (Or.inl (y_m rfl)) ?_ | refine w_cons (Or.inr (by assumption)) ?_)) (by repeat (first | exact w_nil | refine w_cons (Or.inl (y_m rfl)) ?_ | refine w_cons (Or.inr (by assumption)) ?_))
  refine q_in e1.1 (fun H2 h2 l1 l2 => ⟨fun n e => (by cases e), ?_⟩) (fun H2 h2 _ => ⟨fun n e => (by cases e), ?_⟩)
  · have l1 : 0 ≤ iI.toInt := by rw [y_i2l] at l1; exact l1
    have l2 : iI.toInt ≤ 2 := by rw [y_i2l] at l2; exact l2
    obtain ⟨i, hi⟩ : ∃ i : Nat, iI.toInt = i := ⟨iI.toInt.toNat, by omega⟩
    have ci := y_cl1 hi
    have e2 := y_sq e1 h2 rfl rfl
    refine w_go z_hl [48] [176] 40 e2.1 ?_
    refine ⟨fun _ => ?_, fun q => absurd q (by decide)⟩
    refine ⟨⟨by omega, by omega⟩, by decide, fun l hl len bb => ?_⟩
    intro x hx b1 b2
    obtain rfl := y_fi ((y_fe e2 rfl).trans n1) hx
    refine ⟨⟨by omega, by omega⟩, ⟨by omega, by omega⟩, fun l2 hl2 len2 bb2 => ?_⟩
    obtain rfl := y_ai ((y_ae e2 rfl).trans k2) hl2
    intro y hy b3 b4
    obtain rfl := y_fi ((y_fe e2 rfl).trans s2) hy
    refine ⟨⟨by omega, by omega⟩, ⟨by omega, by omega⟩, fun l3 hl3 len3 bb3 => ?_⟩
    obtain rfl := y_ai ((y_ae e2 rfl).trans k3) hl3
    intro H3 h3
    have e3 : y_fr h H3 [19584] [187, 188, 193] := y_st (y_mo e2 rfl rfl) h3 (by repeat (first | exact w_nil | refine w_cons (Or.inl (y_m rfl)) ?_ | refine w_cons (Or.inr (by assumption)) ?_)) (by repeat (first | exact w_nil | refine w_cons (Or.inl (y_m rfl)) ?_ | refine w_cons (Or.inr (by assumption)) ?_))
    have A1 := h3.2.2.1 187 _ rfl
    have A2 := h3.2.2.1 193 _ rfl
    obtain ⟨kf, z1, z2, -⟩ := w_arrI e3.1 (o := 189) (t := 0) (n := 30) (lo := -1) (hi := 1) (by decide) rfl
    obtain ⟨kc, z3, z4, -⟩ := w_arrI e3.1 (o := 191) (t := 0) (n := 30) (lo := 0) (hi := 99) (by decide) rfl
    obtain ⟨fo, z5, z6, -⟩ := w_arrI e3.1 (o := 159) (t := 0) (n := 10) (lo := -1) (hi := 1) (by decide) rfl
    obtain ⟨co, z7, z8, -⟩ := w_arrI e3.1 (o := 161) (t := 0) (n := 10) (lo := 0) (hi := 99) (by decide) rfl
    obtain ⟨ndc, co', knc, kcc, x1, x2, x3, x4, x5, x6⟩ := id hC
    obtain rfl := y_fi n1 x1
    obtain rfl := y_ai ((y_ae e3 rfl).trans x2) (w_a_at z7)
    obtain rfl := y_ai ((y_ae e3 rfl).trans x4) (w_a_at z3)
    obtain rfl := y_ai k2 x3
    refine y_keep_out (de := de) (ks0 := ks) (ko0 := ko) (kc0 := kcc) hi (by omega) c2 10 H3 _ 0 none kf ks kcc ko kt e3.1 (w_a_at z1) ((y_ae e3 rfl).trans k5) (w_a_at z3) ((y_ae e3 rfl).trans k4) ((y_ae e3 rfl).trans o3) ((y_ae e3 rfl).trans n4) (w_a_at z5) ((y_ae e3 rfl).trans s4) (w_a_at z7) ((y_ae e3 rfl).trans s3) rfl rfl o8 (fun j => by rw [if_neg (by omega)]) (fun j => by rw [if_neg (by omega)]) (fun j => by rw [if_neg (by omega)]) (fun H4 ks' ko' kt' kc' f1 f2 f3 f4 f5 f6 f7 f8 f9 => ?_)
    have e4 : y_fr h H4 [19584] [187, 188, 189, 190, 191, 192, 193, 194] := y_sq (y_mo e3 rfl rfl) f1 rfl rfl
    have HC4 : j_cost H4 := by
      refine ⟨nd, co', _, kc', (y_fe e4 rfl).trans n1, (y_ae e4 rfl).trans x2, (y_ae f1 rfl).trans A1, f8, x5, fun j v hj hv => ?_⟩
      rw [ci, y_Nnset (by omega)] at hv
      rw [f9]
      by_cases q : j = i
      · subst q
        rw [if_pos rfl] at hv
        rw [if_pos (by omega), show 10 * j + v - 10 * j = v by omega]
        exact x5 v (by omega)
      · rw [if_neg q] at hv
        have hb10 : y_Nn kn j ≤ 10 := by
          have := (k6 j hj).1
          unfold y_N at this
          unfold y_Nn
          omega
        rw [if_neg (by omega)]
        exact x6 j v hj hv
    refine hk _ _ e4 ⟨⟨nd, le, de, ta, (y_fe e4 rfl).trans n1, (y_ae e4 rfl).trans n2, (y_ae e4 rfl).trans n3, (y_ae e4 rfl).trans n4, c1, c2, c3, c4, c5⟩, j_dp_e (y_fe e4 rfl) (y_fe e4 rfl) (y_ae e4 rfl) q2, ⟨de, to, kt', sn, sl, sh, (y_ae e4 rfl).trans n3, (y_ae e4 rfl).trans o2, f4, (y_ae e4 rfl).trans o4, (y_ae e4 rfl).trans o5, (y_ae e4 rfl).trans o6, o7, f5, o9⟩, j_w_e (y_fe e4 rfl) (y_ae e4 rfl) q4, ⟨nd, sm, so, sa, (y_fe e4 rfl).trans n1, (y_fe e4 rfl).trans s2, (y_ae e4 rfl).trans s3, (y_ae e4 rfl).trans s4, s5⟩, ⟨nd, _, _, ko', ks', (y_fe e4 rfl).trans n1, (y_ae f1 rfl).trans A1, (y_ae f1 rfl).trans A2, f3, f2, fun j hj => ?_⟩, j_land_e (y_fe e4 rfl) (y_ae e4 rfl) q7⟩ HC4 (by decide)
    rw [ci]
    have en : y_Nn (kn.set i nd) j = if j = i then nd.toInt.toNat else y_Nn kn j := y_Nnset (by omega)
    have en2 : y_N (kn.set i nd) j = if j = i then nd.toInt else y_N kn j := y_Nset (by omega)
    have em : y_Nn (km.set i sm) j = if j = i then sm.toInt.toNat else y_Nn km j := y_Nnset (by omega)
    rw [en, en2, em]
    by_cases q : j = i
    · subst q
      rw [if_pos rfl, if_pos rfl, if_pos rfl]
      refine ⟨Int.le_refl _, y_ord_c s5 (fun k hk' => ?_) (fun k hk' => ?_)⟩
      · rw [f7, if_pos (by omega), show 10 * j + k - 10 * j = k by omega]
      · rw [f6, if_pos (by omega), show 10 * j + k - 10 * j = k by omega]
    · rw [if_neg q, if_neg q, if_neg q]
      have kj := k6 j hj
      have hb10 : y_Nn kn j ≤ 10 := by
        unfold y_Nn
        have := kj.1
        unfold y_N at this
        omega
      refine ⟨kj.1, y_ord_c kj.2 (fun k hk' => ?_) (fun k hk' => ?_)⟩
      · rw [f7, if_neg (by omega)]
      · rw [f6, if_neg (by omega)]
  · refine w_go z_hl [48] [176] 30 h2.1 ?_
    refine ⟨fun q => absurd q (by decide), fun _ => ⟨by decide, fun H3 h3 => ?_⟩⟩
    have g := y_st (y_sq e1 h2 rfl rfl) h3 (by repeat (first | exact w_nil | refine w_cons (Or.inl (y_m rfl)) ?_ | refine w_cons (Or.inr (by assumption)) ?_)) (by repeat (first | exact w_nil | refine w_cons (Or.inl (y_m rfl)) ?_ | refine w_cons (Or.inr (by assumption)) ?_))
    exact hk _ _ (y_mo g rfl rfl) (y_J_fr g rfl rfl hJ) (j_cost_e g rfl rfl hC) (by decide)
end WG
