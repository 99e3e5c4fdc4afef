/-! ===== v3: the reference's spans ===== -/
def y_sp (de sn sl sh : List Int32) : Prop := ∀ k, k < 6 → y_N sl k ≤ y_N de (y_Nn sn k) ∧ y_N sh k ≤ y_N de (y_Nn sn k)
theorem y_sp_set {de sn sl sh : List Int32} {k : Nat} {a b c : Int32} (h : y_sp de sn sl sh) (l1 : k < sn.length) (l2 : k < sl.length) (l3 : k < sh.length) (h1 : b.toInt ≤ y_N de a.toInt.toNat) (h2 : c.toInt ≤ y_N de a.toInt.toNat) : y_sp de (sn.set k a) (sl.set k b) (sh.set k c) := by
  intro j hj
  rw [y_Nnset l1, y_Nset l2, y_Nset l3]
  by_cases q : j = k
  · rw [if_pos q, if_pos q, if_pos q]
    exact ⟨h1, h2⟩
  · rw [if_neg q, if_neg q, if_neg q]
    exact h j hj
section WG
variable {X : aX} {C S d : Nat} {K0 : Option Value → aH → Nat → Nat → Prop}
theorem y_span_find {nI aI lI gI sp : Int32} {o6 : Option Value} (s0 : 0 ≤ sp.toInt) (s6 : sp.toInt ≤ 6) : ∀ (t : Nat) (h : aH) (kI : Int32), w_hr z_D h → w_f h 19619 = some (.int sp) → 0 ≤ kI.toInt → kI.toInt + t = sp.toInt →
    (∀ (H : aH) (kI' : Int32), y_fr h H [] [] → 0 ≤ kI'.toInt → kI'.toInt ≤ sp.toInt → aOK s_P X d a_m249 105 [some (.ref 155), some (.int nI), some (.int aI), some (.int lI), some (.int gI), some (.int kI'), o6] [] H C S K0) →
    aOK s_P X d a_m249 68 [some (.ref 155), some (.int nI), some (.int aI), some (.int lI), some (.int gI), some (.int kI), o6] [] h C S K0 := by
  intro t
  induction t with
  | zero =>
    intro h kI hr g1 k0 hkt hK
    refine w_go z_hl [68, 105] [] 40 hr ?_
    intro x hx _ _
    obtain rfl := y_fi g1 hx
    refine ⟨fun q => ?_, fun q => ?_⟩
    · intro H hH
      exact hK H kI (y_st (y_rf hr) hH (by repeat (first | exact w_nil | refine w_cons (Or.inl (y_m rfl)) ?_ | refine w_cons (Or.inr (by assumption)) ?_)) (by repeat (first | exact w_nil | refine w_cons (Or.inl (y_m rfl)) ?_ | refine w_cons (Or.inr (by assumption)) ?_))) k0 (by omega)
    · have : ¬ (sp.toInt ≤ kI.toInt) := y_cif q
      omega
  | succ t ih =>
    intro h kI hr g1 k0 hkt hK
    have hik : (kI + Int32.ofInt 1).toInt = kI.toInt + 1 := y_inc (by omega)
    refine w_go z_hl [68, 105] [] 40 hr ?_
    intro x hx _ _
    obtain rfl := y_fi g1 hx
    refine ⟨fun q => ?_, fun q => ?_⟩
    · have : sp.toInt ≤ kI.toInt := (y_ci .ge _ _).mp q
      omega
    · refine ⟨⟨by omega, by omega⟩, fun l hl len bb => ⟨fun _ => ?_, fun _ => ?_⟩⟩
      · intro H hH
        have e : y_fr h H [] [] := y_st (y_rf hr) hH (by repeat (first | exact w_nil | refine w_cons (Or.inl (y_m rfl)) ?_ | refine w_cons (Or.inr (by assumption)) ?_)) (by repeat (first | exact w_nil | refine w_cons (Or.inl (y_m rfl)) ?_ | refine w_cons (Or.inr (by assumption)) ?_))
        exact ih H _ e.1 ((y_fe e rfl).trans g1) (by omega) (by omega) (fun H' k' f1 f2 f3 => hK H' k' (y_sq e f1 rfl rfl) f2 f3)
      · refine ⟨⟨by omega, by omega⟩, fun l2 hl2 len2 bb2 => ⟨fun _ => ?_, fun _ => ?_⟩⟩
        · intro H hH
          exact hK H kI (y_st (y_rf hr) hH (by repeat (first | exact w_nil | refine w_cons (Or.inl (y_m rfl)) ?_ | refine w_cons (Or.inr (by assumption)) ?_)) (by repeat (first | exact w_nil | refine w_cons (Or.inl (y_m rfl)) ?_ | refine w_cons (Or.inr (by assumption)) ?_))) k0 (by omega)
        · intro H hH
          have e : y_fr h H [] [] := y_st (y_rf hr) hH (by repeat (first | exact w_nil | refine w_cons (Or.inl (y_m rfl)) ?_ | refine w_cons (Or.inr (by assumption)) ?_)) (by repeat (first | exact w_nil | refine w_cons (Or.inl (y_m rfl)) ?_ | refine w_cons (Or.inr (by assumption)) ?_))
          exact ih H _ e.1 ((y_fe e rfl).trans g1) (by omega) (by omega) (fun H' k' f1 f2 f3 => hK H' k' (y_sq e f1 rfl rfl) f2 f3)
theorem y_span_shift {nI aI lI gI kI sp : Int32} {de : List Int32} (s0 : 0 ≤ sp.toInt) (s6 : sp.toInt ≤ 5) : ∀ (t : Nat) (h : aH) (iI : Int32) (i : Nat) (sn sl sh : List Int32), w_hr z_D h → w_f h 19619 = some (.int sp) → iI.toInt = i → iI.toInt + t = sp.toInt → w_a h 172 = some (0, .inl sn) → w_a h 174 = some (0, .inl sl) → w_a h 175 = some (0, .inl sh) → y_sp de sn sl sh →
    (∀ (H : aH) (sn' sl' sh' : List Int32), y_fr h H [] [172, 173, 174, 175] → w_a H 172 = some (0, .inl sn') → w_a H 174 = some (0, .inl sl') → w_a H 175 = some (0, .inl sh') → y_sp de sn' sl' sh' → K0 (some (.int sp)) H C S) →
    aOK s_P X d a_m249 136 [some (.ref 155), some (.int nI), some (.int aI), some (.int lI), some (.int gI), some (.int kI), some (.int iI)] [] h C S K0 := by
  intro t
  induction t with
  | zero =>
    intro h iI i sn sl sh hr g1 hi hit a1 a2 a3 hq hK
    refine w_go z_hl [136] [] 80 hr ?_
    intro x hx _ _
    obtain rfl := y_fi g1 hx
    refine ⟨fun q => ?_, fun q => ?_⟩
    · intro H hH
      have e0 : y_fr h H [] [] := y_st (y_rf hr) hH (by repeat (first | exact w_nil | refine w_cons (Or.inl (y_m rfl)) ?_ | refine w_cons (Or.inr (by assumption)) ?_)) (by repeat (first | exact w_nil | refine w_cons (Or.inl (y_m rfl)) ?_ | refine w_cons (Or.inr (by assumption)) ?_))
      exact hK H sn sl sh (y_mo e0 rfl rfl) ((y_ae e0 rfl).trans a1) ((y_ae e0 rfl).trans a2) ((y_ae e0 rfl).trans a3) hq
    · have : ¬ (sp.toInt ≤ iI.toInt) := y_cif q
      omega
  | succ t ih =>
    intro h iI i sn sl sh hr g1 hi hit a1 a2 a3 hq hK
    have hii : (iI + Int32.ofInt 1).toInt = ((i + 1 : Nat) : Int) := by rw [y_inc (by omega), hi]; rfl
    have ci := y_cl1 hi
    have ci1 := y_cl1 hii
    have b0 : 0 ≤ iI.toInt ∧ iI.toInt < ((6 : Nat) : Int) := by omega
    have b1 : 0 ≤ (iI + Int32.ofInt 1).toInt ∧ (iI + Int32.ofInt 1).toInt < ((6 : Nat) : Int) := by omega
    have c6 : (iI + Int32.ofInt 1).toNatClampNeg < 6 := by omega
    refine w_go z_hl [136] [] 80 hr ?_
    intro x hx _ _
    obtain rfl := y_fi g1 hx
    refine ⟨fun q => ?_, fun q => ?_⟩
    · have : sp.toInt ≤ iI.toInt := (y_ci .ge _ _).mp q
      omega
    · refine ⟨b1, fun l1 hl1 len1 bb1 => ⟨b0, bb1 _ (z_gd (0 : Int32) (Nat.lt_of_lt_of_eq c6 len1.symm)), ?_⟩⟩
      obtain rfl := y_ai a1 hl1
      refine ⟨b1, fun l2 hl2 len2 bb2 => ⟨b0, bb2 _ (z_gd (0 : Int32) (Nat.lt_of_lt_of_eq c6 len2.symm)), ?_⟩⟩
      refine ⟨b1, fun l3 hl3 len3 bb3 => ⟨b0, bb3 _ (z_gd (0 : Int32) (Nat.lt_of_lt_of_eq c6 len3.symm)), ?_⟩⟩
      obtain rfl := y_ai a2 hl3
      refine ⟨b1, fun l4 hl4 len4 bb4 => ⟨b0, bb4 _ (z_gd (0 : Int32) (Nat.lt_of_lt_of_eq c6 len4.symm)), ?_⟩⟩
      obtain rfl := y_ai a3 hl4
      intro H hH
      have e : y_fr h H [] [172, 173, 174, 175] := y_st (y_mo (y_rf hr) rfl rfl) hH (by repeat (first | exact w_nil | refine w_cons (Or.inl (y_m rfl)) ?_ | refine w_cons (Or.inr (by assumption)) ?_)) (by repeat (first | exact w_nil | refine w_cons (Or.inl (y_m rfl)) ?_ | refine w_cons (Or.inr (by assumption)) ?_))
      refine ih H _ (i + 1) _ _ _ e.1 ((y_fe e rfl).trans g1) hii (by omega) (hH.2.2.1 172 _ rfl) (hH.2.2.1 174 _ rfl) (hH.2.2.1 175 _ rfl) ?_ (fun H' u1 u2 u3 f1 f2 f3 f4 f5 => hK H' u1 u2 u3 (y_sq e f1 rfl rfl) f2 f3 f4 f5)
      rw [ci, ci1]
      have hs := hq (i + 1) (by omega)
      exact y_sp_set hq (by omega) (by omega) (by omega) hs.1 hs.2
theorem y_span_end {h H12 : aH} (hr : w_hr z_D h) (hJ : y_J h) {nI aI lI gI : Int32} {v : Nat} {de : List Int32} (n3 : w_a h 157 = some (0, .inl de)) (hv : nI.toInt = v) (hv10 : v < 10) (l1 : 0 ≤ aI.toInt) (l2 : aI.toInt ≤ 7) (l3 : 0 ≤ lI.toInt) (l4 : lI.toInt ≤ y_N de v) (l5 : 0 ≤ gI.toInt) (l6 : gI.toInt ≤ y_N de v) (hde : y_N de v ≤ 10000000) {sp kI : Int32} (e12 : y_fr h H12 [19584] []) (g12 : w_f H12 19619 = some (.int sp)) (sp0 : 0 ≤ sp.toInt) (sp6 : sp.toInt ≤ 6) (k0 : 0 ≤ kI.toInt) (ks : kI.toInt ≤ sp.toInt) (hk : ∀ (r : Int32) (H : aH), y_fr h H [19584, 19619] [172, 173, 174, 175] → y_J H → K0 (some (.int r)) H C S) : aOK s_P X (d + 1) a_m249 105 [some (.ref 155), some (.int nI), some (.int aI), some (.int lI), some (.int gI), some (.int kI), none] [] H12 C S K0 := by
  have hJ' := hJ
  obtain ⟨q1, q2, q3, q4, q5, q6, q7⟩ := hJ'
  obtain ⟨de', to, kt, sn, sl, sh, o1, o2, o3, o4, o5, o6, o7, o8, o9⟩ := id q3
  obtain rfl := y_ai n3 o1
  have g1 : w_f h 19619 = some (.int sp) := (y_fe e12 rfl).symm.trans g12
  have out : ∀ {G : aH} {r : Int32}, y_fr h G [19584] [] → K0 (some (.int r)) G C S := fun g => hk _ _ (y_mo g rfl rfl) (y_J_fr g rfl rfl hJ)
  obtain ⟨k, hkk⟩ : ∃ k : Nat, kI.toInt = k := ⟨kI.toInt.toNat, by omega⟩
  have kc := y_cl1 hkk
  refine w_go z_hl [136, 262] [] 60 e12.1 ?_
  refine ⟨fun q => ?_, fun q => ?_⟩
  · -- a span is told
    refine ⟨fun r5 => ?_, fun r5 => fun H13 h13 => out (y_st e12 h13 (by repeat (first | exact w_nil | refine w_cons (Or.inl (y_m rfl)) ?_ | refine w_cons (Or.inr (by assumption)) ?_)) (by repeat (first | exact w_nil | refine w_cons (Or.inl (y_m rfl)) ?_ | refine w_cons (Or.inr (by assumption)) ?_)))⟩
    have r6 : kI.toInt ≠ ((Int8.ofInt 6).toInt32).toInt := (y_ci .ne _ _).mp r5
    rw [y_c6] at r6
    refine ⟨⟨by omega, by omega⟩, ⟨by omega, by omega⟩, fun s1 hs1 ls1 bs1 => ?_⟩
    obtain rfl := y_ai ((y_ae e12 rfl).trans o4) hs1
    refine ⟨⟨by omega, by omega⟩, ⟨by omega, by omega⟩, fun s2 hs2 ls2 bs2 => ?_⟩
    refine ⟨⟨by omega, by omega⟩, ⟨by omega, by omega⟩, fun s3 hs3 ls3 bs3 => ?_⟩
    obtain rfl := y_ai ((y_ae e12 rfl).trans o5) hs3
    refine ⟨⟨by omega, by omega⟩, ⟨by omega, by omega⟩, fun s4 hs4 ls4 bs4 => ?_⟩
    obtain rfl := y_ai ((y_ae e12 rfl).trans o6) hs4
    intro H13 h13
    have e13 : y_fr h H13 [19584, 19619] [172, 173, 174, 175] := y_st (y_mo e12 rfl rfl) h13 (by repeat (first | exact w_nil | refine w_cons (Or.inl (y_m rfl)) ?_ | refine w_cons (Or.inr (by assumption)) ?_)) (by repeat (first | exact w_nil | refine w_cons (Or.inl (y_m rfl)) ?_ | refine w_cons (Or.inr (by assumption)) ?_))
    have e13' : y_fr h H13 [19584] [172, 173, 174, 175] := y_st (y_mo e12 rfl rfl) h13 (by repeat (first | exact w_nil | refine w_cons (Or.inl (y_m rfl)) ?_ | refine w_cons (Or.inr (by assumption)) ?_)) (by repeat (first | exact w_nil | refine w_cons (Or.inl (y_m rfl)) ?_ | refine w_cons (Or.inr (by assumption)) ?_))
    have A1 := h13.2.2.1 172 _ rfl
    have A2 := h13.2.2.1 174 _ rfl
    have A3 := h13.2.2.1 175 _ rfl
    have fin : ∀ {G : aH} {r : Int32}, y_fr h G [19584, 19619] [172, 173, 174, 175] → y_fr H13 G [19619] [] → K0 (some (.int r)) G C S := by
      intro G r g f
      refine hk _ _ g ⟨j_net_e (y_fe g rfl) (y_ae g rfl) (y_ae g rfl) (y_ae g rfl) q1, j_dp_e (y_fe g rfl) (y_fe g rfl) (y_ae g rfl) q2, ⟨de, to, kt, _, _, _, (y_ae g rfl).trans n3, (y_ae g rfl).trans o2, (y_ae g rfl).trans o3, (y_ae f rfl).trans A1, (y_ae f rfl).trans A2, (y_ae f rfl).trans A3, o7, o8, ?_⟩, j_w_e (y_fe g rfl) (y_ae g rfl) q4, j_seen_e (y_fe g rfl) (y_fe g rfl) (y_ae g rfl) (y_ae g rfl) q5, j_kept_e (y_fe g rfl) (y_ae g rfl) (y_ae g rfl) (y_ae g rfl) (y_ae g rfl) q6, j_land_e (y_fe g rfl) (y_ae g rfl) q7⟩
      rw [kc]
      have ev : nI.toInt.toNat = v := by omega
      exact y_sp_set o9 (by omega) (by omega) (by omega) (by rw [ev]; exact l4) (by rw [ev]; exact l6)
    refine w_go z_hl [] [] 60 e13.1 ?_
    intro x hx _ _
    obtain rfl := y_fi ((y_fe e13' rfl).trans g1) hx
    refine ⟨fun r7 => ?_, fun r7 => ?_⟩
    · have z0 : (sp + Int32.ofInt 0).toInt = sp.toInt := by rw [show Int32.ofInt 0 = (0 : Int32) by decide, Int32.add_zero]
      refine ⟨fun _ => ?_, fun r8 => absurd r8 (by decide)⟩
      refine ⟨rfl, y_zini (by show 0 ≤ (sp + Int32.ofInt 0).toInt; rw [z0]; omega) (by show (sp + Int32.ofInt 0).toInt ≤ 6; rw [z0]; omega), ?_⟩
      intro H14 h14
      exact fin (y_st e13 h14 (by repeat (first | exact w_nil | refine w_cons (Or.inl (y_m rfl)) ?_ | refine w_cons (Or.inr (by assumption)) ?_)) (by repeat (first | exact w_nil | refine w_cons (Or.inl (y_m rfl)) ?_ | refine w_cons (Or.inr (by assumption)) ?_))) (y_st (y_mo (y_rf e13.1) rfl rfl) h14 (by repeat (first | exact w_nil | refine w_cons (Or.inl (y_m rfl)) ?_ | refine w_cons (Or.inr (by assumption)) ?_)) (by repeat (first | exact w_nil | refine w_cons (Or.inl (y_m rfl)) ?_ | refine w_cons (Or.inr (by assumption)) ?_)))
    · have r8 : ¬ (kI.toInt ≠ sp.toInt) := y_cif r7
      have hinc : (sp + Int32.ofInt 1).toInt = sp.toInt + 1 := y_inc (by omega)
      refine ⟨fun r8 => absurd r8 (by decide), fun _ => ?_⟩
      refine ⟨rfl, y_zini (by show 0 ≤ (sp + Int32.ofInt 1).toInt; omega) (by show (sp + Int32.ofInt 1).toInt ≤ 6; omega), ?_⟩
      intro H14 h14
      exact fin (y_st e13 h14 (by repeat (first | exact w_nil | refine w_cons (Or.inl (y_m rfl)) ?_ | refine w_cons (Or.inr (by assumption)) ?_)) (by repeat (first | exact w_nil | refine w_cons (Or.inl (y_m rfl)) ?_ | refine w_cons (Or.inr (by assumption)) ?_))) (y_st (y_mo (y_rf e13.1) rfl rfl) h14 (by repeat (first | exact w_nil | refine w_cons (Or.inl (y_m rfl)) ?_ | refine w_cons (Or.inr (by assumption)) ?_)) (by repeat (first | exact w_nil | refine w_cons (Or.inl (y_m rfl)) ?_ | refine w_cons (Or.inr (by assumption)) ?_)))
  · -- a span is taken away
    intro x hx _ _
    obtain rfl := y_fi g12 hx
    refine ⟨fun r5 => ?_, fun r5 => fun H13 h13 => out (y_st e12 h13 (by repeat (first | exact w_nil | refine w_cons (Or.inl (y_m rfl)) ?_ | refine w_cons (Or.inr (by assumption)) ?_)) (by repeat (first | exact w_nil | refine w_cons (Or.inl (y_m rfl)) ?_ | refine w_cons (Or.inr (by assumption)) ?_)))⟩
    have r6 : kI.toInt ≠ sp.toInt := (y_ci .ne _ _).mp r5
    have hdec : (sp - Int32.ofInt 1).toInt = sp.toInt - 1 := y_sub1 sp0
    refine ⟨rfl, y_zini (by show 0 ≤ (sp - Int32.ofInt 1).toInt; omega) (by show (sp - Int32.ofInt 1).toInt ≤ 6; omega), ?_⟩
    intro H13 h13
    have e13 : y_fr h H13 [19584, 19619] [] := y_st (y_mo e12 rfl rfl) h13 (by repeat (first | exact w_nil | refine w_cons (Or.inl (y_m rfl)) ?_ | refine w_cons (Or.inr (by assumption)) ?_)) (by repeat (first | exact w_nil | refine w_cons (Or.inl (y_m rfl)) ?_ | refine w_cons (Or.inr (by assumption)) ?_))
    refine y_span_shift (sp := sp - Int32.ofInt 1) (de := de) (by omega) (by omega) (sp.toInt - 1 - kI.toInt).toNat H13 _ k sn sl sh e13.1 (h13.2.1 19619 _ rfl) hkk (by omega) ((y_ae e13 rfl).trans o4) ((y_ae e13 rfl).trans o5) ((y_ae e13 rfl).trans o6) o9 (fun H14 sn' sl' sh' f1 f2 f3 f4 f5 => ?_)
    have e14 : y_fr h H14 [19584, 19619] [172, 173, 174, 175] := y_sq (y_mo e13 rfl rfl) f1 rfl rfl
    exact hk _ _ e14 ⟨j_net_e (y_fe e14 rfl) (y_ae e14 rfl) (y_ae e14 rfl) (y_ae e14 rfl) q1, j_dp_e (y_fe e14 rfl) (y_fe e14 rfl) (y_ae e14 rfl) q2, ⟨de, to, kt, _, _, _, (y_ae e14 rfl).trans n3, (y_ae e14 rfl).trans o2, (y_ae e14 rfl).trans o3, f2, f3, f4, o7, o8, f5⟩, j_w_e (y_fe e14 rfl) (y_ae e14 rfl) q4, j_seen_e (y_fe e14 rfl) (y_fe e14 rfl) (y_ae e14 rfl) (y_ae e14 rfl) q5, j_kept_e (y_fe e14 rfl) (y_ae e14 rfl) (y_ae e14 rfl) (y_ae e14 rfl) (y_ae e14 rfl) q6, j_land_e (y_fe e14 rfl) (y_ae e14 rfl) q7⟩
theorem y_span_mid {h H6 : aH} (hr : w_hr z_D h) (hJ : y_J h) {nI aI lI gI : Int32} {v : Nat} {de : List Int32} (n3 : w_a h 157 = some (0, .inl de)) (hv : nI.toInt = v) (hv10 : v < 10) (l1 : 0 ≤ aI.toInt) (l2 : aI.toInt ≤ 7) (e6 : y_fr h H6 [19584] []) (hk : ∀ (r : Int32) (H : aH), y_fr h H [19584, 19619] [172, 173, 174, 175] → y_J H → K0 (some (.int r)) H C S) : aOK s_P X (d + 2) a_m249 27 [some (.ref 155), some (.int nI), some (.int aI), some (.int lI), some (.int gI), none, none] [.int (y_01 true)] H6 C S K0 := by
  have hvc := y_cl1 hv
  have out : ∀ {G : aH} {r : Int32}, y_fr h G [19584] [] → K0 (some (.int r)) G C S := fun g => hk _ _ (y_mo g rfl rfl) (y_J_fr g rfl rfl hJ)
  have no43 : ∀ {G : aH}, y_fr h G [19584] [] → aOK s_P X (d + 2) a_m249 43 [some (.ref 155), some (.int nI), some (.int aI), some (.int lI), some (.int gI), none, none] [.int (y_01 false)] G C S K0 := by
    intro G g
    refine w_go z_hl [] [] 30 g.1 ?_
    refine ⟨fun _ => fun H11 h11 => ?_, fun q => absurd q (by decide)⟩
    exact out (y_st g h11 (by repeat (first | exact w_nil | refine w_cons (Or.inl (y_m rfl)) ?_ | refine w_cons (Or.inr (by assumption)) ?_)) (by repeat (first | exact w_nil | refine w_cons (Or.inl (y_m rfl)) ?_ | refine w_cons (Or.inr (by assumption)) ?_)))
  have no60 : ∀ {G : aH}, y_fr h G [19584] [] → aOK s_P X (d + 2) a_m249 60 [some (.ref 155), some (.int nI), some (.int aI), some (.int lI), some (.int gI), none, none] [.int (y_01 false)] G C S K0 := by
    intro G g
    refine w_go z_hl [] [] 30 g.1 ?_
    refine ⟨fun q => absurd q (by decide), fun _ => fun H11 h11 => ?_⟩
    exact out (y_st g h11 (by repeat (first | exact w_nil | refine w_cons (Or.inl (y_m rfl)) ?_ | refine w_cons (Or.inr (by assumption)) ?_)) (by repeat (first | exact w_nil | refine w_cons (Or.inl (y_m rfl)) ?_ | refine w_cons (Or.inr (by assumption)) ?_)))
  have yes60 : ∀ {G : aH}, y_fr h G [19584] [] → 0 ≤ lI.toInt → lI.toInt ≤ y_N de v → 0 ≤ gI.toInt → gI.toInt ≤ y_N de v → y_N de v ≤ 10000000 → aOK s_P X (d + 2) a_m249 60 [some (.ref 155), some (.int nI), some (.int aI), some (.int lI), some (.int gI), none, none] [.int (y_01 true)] G C S K0 := by
    intro G e10 l3 l4 l5 l6 hde
    obtain ⟨sp, -, g1⟩ : ∃ sp : Int32, True ∧ w_f h 19619 = some (.int sp) := by
      obtain ⟨vs, w, z1, z2, z3, z4⟩ := w_get1 hr (o := 153) (ci := 12) rfl (k := 35) rfl
      have e := w_f_at z1 (k := 35) (by decide)
      rcases z4 with ⟨-, x, ex, -, -⟩ | ⟨q, -⟩
      · exact ⟨x, trivial, by rw [show (19619 : Nat) = 153 * 128 + 35 by decide, e, z3, ex]⟩
      · cases q
    obtain ⟨sp0, sp6⟩ := y_spb hr g1
    refine w_go z_hl [68] [] 30 e10.1 ?_
    refine ⟨fun _ => ?_, fun q => absurd q (by decide)⟩
    intro H11 h11
    have e11 := y_st e10 h11 (by repeat (first | exact w_nil | refine w_cons (Or.inl (y_m rfl)) ?_ | refine w_cons (Or.inr (by assumption)) ?_)) (by repeat (first | exact w_nil | refine w_cons (Or.inl (y_m rfl)) ?_ | refine w_cons (Or.inr (by assumption)) ?_))
    refine y_span_find sp0 sp6 sp.toInt.toNat H11 _ e11.1 ((y_fe e11 rfl).trans g1) (by decide) (by rw [show (Int32.ofInt 0).toInt = 0 by decide]; omega) (fun H12 kI f1 k0 ks => ?_)
    have e12 := y_sq e11 f1 rfl rfl
    have g12 := (y_fe e12 (k := 19619) rfl).trans g1
    exact y_span_end hr hJ n3 hv hv10 l1 l2 l3 l4 l5 l6 hde e12 g12 sp0 sp6 k0 ks hk
  have yes43 : ∀ {G : aH}, y_fr h G [19584] [] → 0 ≤ lI.toInt → lI.toInt ≤ y_N de v → y_N de v ≤ 10000000 → aOK s_P X (d + 2) a_m249 43 [some (.ref 155), some (.int nI), some (.int aI), some (.int lI), some (.int gI), none, none] [.int (y_01 true)] G C S K0 := by
    intro G e8 l3 l4 hde
    refine w_go z_hl [] [178, 179, 176] 30 e8.1 ?_
    refine ⟨fun q => absurd q (by decide), fun _ => ?_⟩
    refine ⟨⟨by omega, by omega⟩, fun l' hl' len' bb' => ?_⟩
    obtain rfl := y_ai ((y_ae e8 rfl).trans n3) hl'
    intro H9 h9
    have e9 := y_st e8 h9 (by repeat (first | exact w_nil | refine w_cons (Or.inl (y_m rfl)) ?_ | refine w_cons (Or.inr (by assumption)) ?_)) (by repeat (first | exact w_nil | refine w_cons (Or.inl (y_m rfl)) ?_ | refine w_cons (Or.inr (by assumption)) ?_))
    refine q_in (v := gI.toInt64) (lo := Int64.ofNat 0) (hi := (de.getD nI.toNatClampNeg 0).toInt64) e9.1 (fun H10 h10 l5 l6 => ⟨fun n e => (by cases e), ?_⟩) (fun H10 h10 _ => ⟨fun n e => (by cases e), ?_⟩)
    · rw [y_i2l] at l5
      rw [y_i2l, y_i2l, hvc] at l6
      exact yes60 (y_sq e9 h10 rfl rfl) l3 l4 l5 l6 hde
    · exact no60 (y_sq e9 h10 rfl rfl)
  refine w_go z_hl [] [178, 179, 176] 30 e6.1 ?_
  refine ⟨fun q => absurd q (by decide), fun _ => ?_⟩
  refine ⟨⟨by omega, by omega⟩, fun l hl len bb => ?_⟩
  obtain rfl := y_ai ((y_ae e6 rfl).trans n3) hl
  have hm := bb _ (z_gd (0 : Int32) (show nI.toNatClampNeg < de.length by omega))
  have hde : y_N de v ≤ 10000000 := by rw [hvc] at hm; exact hm.2
  intro H7 h7
  have e7 := y_st e6 h7 (by repeat (first | exact w_nil | refine w_cons (Or.inl (y_m rfl)) ?_ | refine w_cons (Or.inr (by assumption)) ?_)) (by repeat (first | exact w_nil | refine w_cons (Or.inl (y_m rfl)) ?_ | refine w_cons (Or.inr (by assumption)) ?_))
  refine q_in (v := lI.toInt64) (lo := Int64.ofNat 0) (hi := (de.getD nI.toNatClampNeg 0).toInt64) e7.1 (fun H8 h8 l3 l4 => ⟨fun n e => (by cases e), ?_⟩) (fun H8 h8 _ => ⟨fun n e => (by cases e), ?_⟩)
  · rw [y_i2l] at l3
    rw [y_i2l, y_i2l, hvc] at l4
    exact yes43 (y_sq e7 h8 rfl rfl) l3 l4 hde
  · exact no43 (y_sq e7 h8 rfl rfl)
theorem p_span {h : aH} (hr : w_hr z_D h) (hJ : y_J h) {nI aI lI gI : Int32} (hk : ∀ (r : Int32) (H : aH), y_fr h H [19584, 19619] [172, 173, 174, 175] → y_J H → K0 (some (.int r)) H C S) : aOK s_P X (d + 2) a_m249 0 [some (.ref 155), some (.int nI), some (.int aI), some (.int lI), some (.int gI), none, none] [] h C S K0 := by
  have hJ' := hJ
  obtain ⟨q1, q2, q3, q4, q5, q6, q7⟩ := hJ'
  obtain ⟨nd, le, de, ta, n1, n2, n3, n4, c1, c2, c3, c4, c5⟩ := id q1
  obtain ⟨b1, b2⟩ := y_ndb hr n1
  refine w_go z_hl [] [178, 179, 176] 30 hr ?_
  refine ⟨rfl, y_zini (by decide) (by decide), fun H1 h1 => ?_⟩
  have e1 : y_fr h H1 [19584] [] := y_st (y_mo (y_rf hr) rfl rfl) h1 (by repeat (first | exact w_nil | refine w_cons (Or.inl (y_m rfl)) ?_ | refine w_cons (Or.inr (by assumption)) ?_)) (by repeat (first | exact w_nil | refine w_cons (Or.inl (y_m rfl)) ?_ | refine w_cons (Or.inr (by assumption)) ?_))
  have out : ∀ {G : aH} {r : Int32}, y_fr h G [19584] [] → K0 (some (.int r)) G C S := fun g => hk _ _ (y_mo g rfl rfl) (y_J_fr g rfl rfl hJ)
  refine q_isNode (v := nI) e1.1 ((y_fe e1 rfl).trans n1) (fun H2 v h2 hv hv2 hvc => ⟨fun n e => (by cases e), ?_⟩) (fun H2 h2 => ⟨fun n e => (by cases e), ?_⟩)
  · have e2 := y_sq e1 h2 rfl rfl
    refine w_go z_hl [] [178, 179, 176] 30 e2.1 ?_
    refine ⟨fun q => absurd q (by decide), fun _ => ?_⟩
    intro H3 h3
    have e3 := y_st e2 h3 (by repeat (first | exact w_nil | refine w_cons (Or.inl (y_m rfl)) ?_ | refine w_cons (Or.inr (by assumption)) ?_)) (by repeat (first | exact w_nil | refine w_cons (Or.inl (y_m rfl)) ?_ | refine w_cons (Or.inr (by assumption)) ?_))
    refine y_cases (v := nI) e3.1 hv (by omega) ((y_ae e3 rfl).trans n2) (c1 v (by omega)).1 (fun cs H4 h4 hcs => ⟨fun n e => (by cases e), ?_⟩)
    have e4 := y_sq e3 h4 rfl rfl
    have hcs8 : cs.toInt ≤ 8 ∧ 1 ≤ cs.toInt := by
      rw [hcs]
      have h5 : 2 ^ y_pl (y_Nn le v) 10 ≤ 2 ^ 3 := Nat.pow_le_pow_right (by decide) (c1 v (by omega)).1
      have h6 : 0 < 2 ^ y_pl (y_Nn le v) 10 := Nat.pow_pos (by decide)
      omega
    refine w_go z_hl [] [178, 179, 176] 30 e4.1 ?_
    intro H5 h5
    have e5 := y_st e4 h5 (by repeat (first | exact w_nil | refine w_cons (Or.inl (y_m rfl)) ?_ | refine w_cons (Or.inr (by assumption)) ?_)) (by repeat (first | exact w_nil | refine w_cons (Or.inl (y_m rfl)) ?_ | refine w_cons (Or.inr (by assumption)) ?_))
    refine q_in (v := aI.toInt64) (lo := Int64.ofNat 0) (hi := (cs - Int32.ofInt 1).toInt64) e5.1 (fun H6 h6 l1 l2 => ⟨fun n e => (by cases e), ?_⟩) (fun H6 h6 _ => ⟨fun n e => (by cases e), ?_⟩)
    · have l1 : 0 ≤ aI.toInt := by rw [y_i2l] at l1; exact l1
      have l2 : aI.toInt ≤ cs.toInt - 1 := by rw [y_i2l, y_i2l, y_sub1 (by omega)] at l2; exact l2
      have e6 := y_sq e5 h6 rfl rfl
      exact y_span_mid hr hJ n3 hv (by omega) l1 (by omega) e6 hk
    · refine w_go z_hl [] [178, 179, 176] 30 h6.1 ?_
      refine ⟨fun _ => fun H11 h11 => ?_, fun q => absurd q (by decide)⟩
      exact out (y_st (y_sq e5 h6 rfl rfl) h11 (by repeat (first | exact w_nil | refine w_cons (Or.inl (y_m rfl)) ?_ | refine w_cons (Or.inr (by assumption)) ?_)) (by repeat (first | exact w_nil | refine w_cons (Or.inl (y_m rfl)) ?_ | refine w_cons (Or.inr (by assumption)) ?_)))
  · refine w_go z_hl [] [178, 179, 176] 30 h2.1 ?_
    refine ⟨fun _ => fun H11 h11 => ?_, fun q => absurd q (by decide)⟩
    exact out (y_st (y_sq e1 h2 rfl rfl) h11 (by repeat (first | exact w_nil | refine w_cons (Or.inl (y_m rfl)) ?_ | refine w_cons (Or.inr (by assumption)) ?_)) (by repeat (first | exact w_nil | refine w_cons (Or.inl (y_m rfl)) ?_ | refine w_cons (Or.inr (by assumption)) ?_)))
end WG
