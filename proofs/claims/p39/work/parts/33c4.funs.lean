/-! ===== v5: list and keep as functions (laid by wip/tools/mk33c4.py) ===== -/
abbrev n_liV (p n a b : Int32) : Prop := 1 ≤ a.toInt ∧ a.toInt ≤ b.toInt ∧ b.toInt ≤ 1000000 ∧ 1 ≤ n.toInt ∧ n.toInt ≤ 1000000 ∧ n.toInt ≤ p.toInt ∧ p.toInt ≤ 100000000
def n_li (p n a b : Int32) : Int32 := if n_liV p n a b then Int32.ofInt 0 else Int32.ofInt (-1)
def n_ke (i : Int32) : Int32 := if 0 ≤ i.toInt ∧ i.toInt ≤ 2 then Int32.ofInt 1 else Int32.ofInt 0
section NF
variable {X : aX} {C S d : Nat} {K0 : Option Value → aH → Nat → Nat → Prop}
theorem f_list {h : aH} (hr : w_hr z_D h) {p n a b : Int32} (hk : ∀ (H : aH), y_fr h H [19584, 19585, 19587, 19588] [154] → K0 (some (.int (n_li p n a b))) H C S) : aOK s_P X (d + 2) a_m265 0 [some (.ref 155), some (.int p), some (.int n), some (.int a), some (.int b)] [] h C S K0 := by
  have yes : n_liV p n a b → ∀ (H : aH), y_fr h H [19584, 19585, 19587, 19588] [154] → K0 (some (.int (Int32.ofInt 0))) H C S := by
    intro v H e
    have := hk H e
    unfold n_li at this
    rw [if_pos v] at this
    exact this
  have no : ¬ n_liV p n a b → ∀ (H : aH), y_fr h H [19584, 19585, 19587, 19588] [154] → K0 (some (.int (Int32.ofInt (-1)))) H C S := by
    intro v H e
    have := hk H e
    unfold n_li at this
    rw [if_neg v] at this
    exact this
  have T68 : ∀ {G : aH}, n_liV p n a b → y_fr h G [19584, 19585, 19587, 19588] [154] → aOK s_P X (d + 2) a_m265 68 [some (.ref 155), some (.int p), some (.int n), some (.int a), some (.int b)] [] G C S K0 := by
    intro G v e
    refine w_go z_hl [] [] 30 e.1 ?_
    exact fun H hH => yes v H (y_st e hH (by repeat (first | exact w_nil | refine w_cons (Or.inl (y_m rfl)) ?_ | refine w_cons (Or.inr (by assumption)) ?_)) (by repeat (first | exact w_nil | refine w_cons (Or.inl (y_m rfl)) ?_ | refine w_cons (Or.inr (by assumption)) ?_)))
  have T59 : ∀ {G : aH}, n_liV p n a b → y_fr h G [19584, 19585, 19587, 19588] [154] → aOK s_P X (d + 2) a_m265 59 [some (.ref 155), some (.int p), some (.int n), some (.int a), some (.int b)] [] G C S K0 := by
    intro G v e
    refine w_go z_hl [] [196] 30 e.1 ?_
    refine ⟨rfl, y_zini (by decide) (by decide), fun H hH => ?_⟩
    have e2 := y_st e hH (by repeat (first | exact w_nil | refine w_cons (Or.inl (y_m rfl)) ?_ | refine w_cons (Or.inr (by assumption)) ?_)) (by repeat (first | exact w_nil | refine w_cons (Or.inl (y_m rfl)) ?_ | refine w_cons (Or.inr (by assumption)) ?_))
    refine y_tells e2.1 (hH.2.1 19585 _ rfl) (by decide) (by decide) (fun H2 r2 e3 _ _ => ⟨fun n e => (by cases e), ?_⟩)
    exact T68 v (y_sq e2 e3 rfl rfl)
  have T36 : ∀ {G : aH}, y_fr h G [19584, 19585, 19587, 19588] [154] → 1 ≤ n.toInt → n.toInt ≤ 1000000 → n.toInt ≤ p.toInt → p.toInt ≤ 100000000 → 1 ≤ a.toInt → a.toInt ≤ b.toInt → b.toInt ≤ 1000000 → aOK s_P X (d + 2) a_m265 36 [some (.ref 155), some (.int p), some (.int n), some (.int a), some (.int b)] [.int (y_01 true)] G C S K0 := by
    intro G e n1 n6 np p8 a1 ab b6
    obtain ⟨pn, hp⟩ : ∃ pn : Nat, p.toInt = pn := ⟨p.toInt.toNat, by omega⟩
    obtain ⟨nn, hn⟩ : ∃ nn : Nat, n.toInt = nn := ⟨n.toInt.toNat, by omega⟩
    obtain ⟨an, ha⟩ : ∃ an : Nat, a.toInt = an := ⟨a.toInt.toNat, by omega⟩
    obtain ⟨bn, hb⟩ : ∃ bn : Nat, b.toInt = bn := ⟨b.toInt.toNat, by omega⟩
    have s1 : (p - n).toInt64.toInt = ((pn - nn : Nat) : Int) := by rw [y_i2l]; exact y_subS _ hp hn (by omega) (by omega)
    have hle : (pn - nn) * an ≤ 100000000 * 1000000 := Nat.mul_le_mul (by omega) (by omega)
    have m1 : ((p - n).toInt64 * a.toInt64).toInt = (((pn - nn) * an : Nat) : Int) := y_mul64 _ s1 (by rw [y_i2l]; exact ha) rfl (by omega)
    have m2 : (b.toInt64 + (p - n).toInt64 * a.toInt64).toInt = ((bn + (pn - nn) * an : Nat) : Int) := y_add64 _ (by rw [y_i2l]; exact hb) m1 rfl (by omega)
    refine w_go z_hl [] [194] 40 e.1 ?_
    refine ⟨fun _ => fun H hH => ?_, fun q => absurd q (by decide)⟩
    have e2 := y_st e hH (by repeat (first | exact w_nil | refine w_cons (Or.inl (y_m rfl)) ?_ | refine w_cons (Or.inr (by assumption)) ?_)) (by repeat (first | exact w_nil | refine w_cons (Or.inl (y_m rfl)) ?_ | refine w_cons (Or.inr (by assumption)) ?_))
    refine q_lowest (n := b.toInt64) (m := b.toInt64 + (p - n).toInt64 * a.toInt64) e2.1 (by rw [y_i2l]; omega) (by rw [m2]; omega) (fun u l H2 e3 _ _ _ _ _ _ _ => ⟨fun n e => (by cases e), ?_⟩)
    exact T59 ⟨a1, ab, b6, n1, n6, np, p8⟩ (y_sq e2 e3 rfl rfl)
  have N : ∀ {G : aH} {pc : Nat}, (pc = 14 ∨ pc = 27) → ¬ n_liV p n a b → y_fr h G [19584, 19585, 19587, 19588] [154] → aOK s_P X (d + 2) a_m265 pc [some (.ref 155), some (.int p), some (.int n), some (.int a), some (.int b)] [.int (y_01 false)] G C S K0 := by
    intro G pc hpc v e
    rcases hpc with rfl | rfl
    · refine w_go z_hl [] [] 30 e.1 ?_
      exact ⟨fun _ => fun H hH => no v H (y_st e hH (by repeat (first | exact w_nil | refine w_cons (Or.inl (y_m rfl)) ?_ | refine w_cons (Or.inr (by assumption)) ?_)) (by repeat (first | exact w_nil | refine w_cons (Or.inl (y_m rfl)) ?_ | refine w_cons (Or.inr (by assumption)) ?_))), fun q => absurd q (by decide)⟩
    · refine w_go z_hl [] [] 30 e.1 ?_
      exact ⟨fun _ => fun H hH => no v H (y_st e hH (by repeat (first | exact w_nil | refine w_cons (Or.inl (y_m rfl)) ?_ | refine w_cons (Or.inr (by assumption)) ?_)) (by repeat (first | exact w_nil | refine w_cons (Or.inl (y_m rfl)) ?_ | refine w_cons (Or.inr (by assumption)) ?_))), fun q => absurd q (by decide)⟩
  have N36 : ∀ {G : aH}, ¬ n_liV p n a b → y_fr h G [19584, 19585, 19587, 19588] [154] → aOK s_P X (d + 2) a_m265 36 [some (.ref 155), some (.int p), some (.int n), some (.int a), some (.int b)] [.int (y_01 false)] G C S K0 := by
    intro G v e
    refine w_go z_hl [] [] 30 e.1 ?_
    exact ⟨fun q => absurd q (by decide), fun _ => fun H hH => no v H (y_st e hH (by repeat (first | exact w_nil | refine w_cons (Or.inl (y_m rfl)) ?_ | refine w_cons (Or.inr (by assumption)) ?_)) (by repeat (first | exact w_nil | refine w_cons (Or.inl (y_m rfl)) ?_ | refine w_cons (Or.inr (by assumption)) ?_)))⟩
  have T27 : ∀ {G : aH}, y_fr h G [19584, 19585, 19587, 19588] [154] → 1 ≤ n.toInt → n.toInt ≤ 1000000 → n.toInt ≤ p.toInt → p.toInt ≤ 100000000 → aOK s_P X (d + 2) a_m265 27 [some (.ref 155), some (.int p), some (.int n), some (.int a), some (.int b)] [.int (y_01 true)] G C S K0 := by
    intro G e n1 n6 np p8
    refine w_go z_hl [] [266] 30 e.1 ?_
    refine ⟨fun q => absurd q (by decide), fun _ => fun H hH => ?_⟩
    have e2 := y_st e hH (by repeat (first | exact w_nil | refine w_cons (Or.inl (y_m rfl)) ?_ | refine w_cons (Or.inr (by assumption)) ?_)) (by repeat (first | exact w_nil | refine w_cons (Or.inl (y_m rfl)) ?_ | refine w_cons (Or.inr (by assumption)) ?_))
    refine y_isMark e2.1 (fun H3 h3 a1 ab b6 => ⟨fun n e => (by cases e), ?_⟩) (fun H3 h3 l => ⟨fun n e => (by cases e), ?_⟩)
    · exact T36 (y_sq e2 h3 rfl rfl) n1 n6 np p8 a1 ab b6
    · exact N36 (fun q => l q.1 q.2.1 q.2.2.1) (y_sq e2 h3 rfl rfl)
  have T14 : ∀ {G : aH}, y_fr h G [19584, 19585, 19587, 19588] [154] → 1 ≤ n.toInt → n.toInt ≤ 1000000 → aOK s_P X (d + 2) a_m265 14 [some (.ref 155), some (.int p), some (.int n), some (.int a), some (.int b)] [.int (y_01 true)] G C S K0 := by
    intro G e n1 n6
    refine w_go z_hl [] [176] 30 e.1 ?_
    refine ⟨fun q => absurd q (by decide), fun _ => fun H hH => ?_⟩
    have e2 := y_st e hH (by repeat (first | exact w_nil | refine w_cons (Or.inl (y_m rfl)) ?_ | refine w_cons (Or.inr (by assumption)) ?_)) (by repeat (first | exact w_nil | refine w_cons (Or.inl (y_m rfl)) ?_ | refine w_cons (Or.inr (by assumption)) ?_))
    refine q_in (v := p.toInt64) (lo := n.toInt64) (hi := Int64.ofInt 100000000) e2.1 (fun H3 h3 l1 l2 => ⟨fun n e => (by cases e), ?_⟩) (fun H3 h3 l => ⟨fun n e => (by cases e), ?_⟩)
    · rw [y_i2l, y_i2l] at l1
      rw [y_i2l, y_i64 (by decide) (by decide)] at l2
      exact T27 (y_sq e2 h3 rfl rfl) n1 n6 l1 l2
    · rw [y_i2l, y_i2l, y_i64 (by decide) (by decide)] at l
      exact N (Or.inr rfl) (fun q => l q.2.2.2.2.2.1 q.2.2.2.2.2.2) (y_sq e2 h3 rfl rfl)
  refine w_go z_hl [] [176] 30 hr ?_
  refine ⟨rfl, y_zini (by decide) (by decide), fun H hH => ?_⟩
  have e : y_fr h H [19584, 19585, 19587, 19588] [154] := y_st (y_mo (y_rf hr) rfl rfl) hH (by repeat (first | exact w_nil | refine w_cons (Or.inl (y_m rfl)) ?_ | refine w_cons (Or.inr (by assumption)) ?_)) (by repeat (first | exact w_nil | refine w_cons (Or.inl (y_m rfl)) ?_ | refine w_cons (Or.inr (by assumption)) ?_))
  refine q_in (v := n.toInt64) (lo := Int64.ofNat 1) (hi := Int64.ofInt 1000000) e.1 (fun H3 h3 l1 l2 => ⟨fun n e => (by cases e), ?_⟩) (fun H3 h3 l => ⟨fun n e => (by cases e), ?_⟩)
  · rw [y_i2l] at l1
    rw [y_i2l, y_i64 (by decide) (by decide)] at l2
    exact T14 (y_sq e h3 rfl rfl) l1 l2
  · rw [y_i2l, y_i64 (by decide) (by decide)] at l
    exact N (Or.inl rfl) (fun q => l q.2.2.2.1 q.2.2.2.2.1) (y_sq e h3 rfl rfl)
theorem f_keep {h : aH} (hr : w_hr z_D h) (hJ : y_J h) (hC : j_cost h) {iI : Int32} (hk : ∀ (r : Int32) (H : aH), y_fr h H [19584] [187, 188, 189, 190, 191, 192, 193, 194] → y_J H → j_cost H → r = n_ke iI → K0 (some (.int r)) H C S) : aOK s_P X (d + 1) a_m279 0 [some (.ref 155), some (.int iI), none, none] [] h C S K0 := by
  have hJ' := hJ
  obtain ⟨q1, q2, q3, q4, q5, q6, q7⟩ := hJ'
  obtain ⟨nd, le, de, ta, n1, n2, n3, n4, c1, c2, c3, c4, c5⟩ := q1
  obtain ⟨nd', sm, so, sa, s1, s2, s3, s4, s5⟩ := q5
  obtain rfl := y_fi n1 s1
  obtain ⟨nd', kn, km, ko, ks, k1, k2, k3, k4, k5, k6⟩ := q6
  obtain rfl := y_fi n1 k1
  obtain ⟨de', to, kt, sn, sl, sh, o1, o2, o3, o4, o5, o6, o7, o8, o9⟩ := q3
  obtain rfl := y_ai n3 o1
  refine w_go z_hl [48] [176] 30 hr ?_
  refine ⟨rfl, y_zini (by decide) (by decide), fun H1 h1 => ?_⟩
  have e1 : y_fr h H1 [19584] [] := y_st (y_mo (y_rf hr) rfl rfl) h1 (by repeat (first | exact w_nil | refine w_cons (Or.inl (y_m rfl)) ?_ | refine w_cons (Or.inr (by assumption)) ?_)) (by repeat (first | exact w_nil | refine w_cons (Or.inl (y_m rfl)) ?_ | refine w_cons (Or.inr (by assumption)) ?_))
  refine q_in e1.1 (fun H2 h2 l1 l2 => ⟨fun n e => (by cases e), ?_⟩) (fun H2 h2 l => ⟨fun n e => (by cases e), ?_⟩)
  · have l1 : 0 ≤ iI.toInt := by rw [y_i2l] at l1; exact l1
    have l2 : iI.toInt ≤ 2 := by rw [y_i2l] at l2; exact l2
    have lv : 0 ≤ iI.toInt ∧ iI.toInt ≤ 2 := ⟨l1, l2⟩
    obtain ⟨i, hi⟩ : ∃ i : Nat, iI.toInt = i := ⟨iI.toInt.toNat, by omega⟩
    have ci := y_cl1 hi
    have e2 := y_sq e1 h2 rfl rfl
    refine w_go z_hl [48] [176] 40 e2.1 ?_
    refine ⟨fun _ => ?_, fun q => absurd q (by decide)⟩
    refine ⟨⟨by omega, by omega⟩, by decide, fun l hl len bb => ?_⟩
    intro x hx b1 b2
    obtain rfl := y_fi ((y_fe e2 rfl).trans n1) hx
    refine ⟨⟨by omega, by omega⟩, ⟨by omega, by omega⟩, fun l2 hl2 len2 bb2 => ?_⟩
    obtain rfl := y_ai ((y_ae e2 rfl).trans k2) hl2
    intro y hy b3 b4
    obtain rfl := y_fi ((y_fe e2 rfl).trans s2) hy
    refine ⟨⟨by omega, by omega⟩, ⟨by omega, by omega⟩, fun l3 hl3 len3 bb3 => ?_⟩
    obtain rfl := y_ai ((y_ae e2 rfl).trans k3) hl3
    intro H3 h3
    have e3 : y_fr h H3 [19584] [187, 188, 193] := y_st (y_mo e2 rfl rfl) h3 (by repeat (first | exact w_nil | refine w_cons (Or.inl (y_m rfl)) ?_ | refine w_cons (Or.inr (by assumption)) ?_)) (by repeat (first | exact w_nil | refine w_cons (Or.inl (y_m rfl)) ?_ | refine w_cons (Or.inr (by assumption)) ?_))
    have A1 := h3.2.2.1 187 _ rfl
    have A2 := h3.2.2.1 193 _ rfl
    obtain ⟨kf, z1, z2, -⟩ := w_arrI e3.1 (o := 189) (t := 0) (n := 30) (lo := -1) (hi := 1) (by decide) rfl
    obtain ⟨kc, z3, z4, -⟩ := w_arrI e3.1 (o := 191) (t := 0) (n := 30) (lo := 0) (hi := 99) (by decide) rfl
    obtain ⟨fo, z5, z6, -⟩ := w_arrI e3.1 (o := 159) (t := 0) (n := 10) (lo := -1) (hi := 1) (by decide) rfl
    obtain ⟨co, z7, z8, -⟩ := w_arrI e3.1 (o := 161) (t := 0) (n := 10) (lo := 0) (hi := 99) (by decide) rfl
    obtain ⟨ndc, co', knc, kcc, x1, x2, x3, x4, x5, x6⟩ := id hC
    obtain rfl := y_fi n1 x1
    obtain rfl := y_ai ((y_ae e3 rfl).trans x2) (w_a_at z7)
    obtain rfl := y_ai ((y_ae e3 rfl).trans x4) (w_a_at z3)
    obtain rfl := y_ai k2 x3
    refine y_keep_out (de := de) (ks0 := ks) (ko0 := ko) (kc0 := kcc) hi (by omega) c2 10 H3 _ 0 none kf ks kcc ko kt e3.1 (w_a_at z1) ((y_ae e3 rfl).trans k5) (w_a_at z3) ((y_ae e3 rfl).trans k4) ((y_ae e3 rfl).trans o3) ((y_ae e3 rfl).trans n4) (w_a_at z5) ((y_ae e3 rfl).trans s4) (w_a_at z7) ((y_ae e3 rfl).trans s3) rfl rfl o8 (fun j => by rw [if_neg (by omega)]) (fun j => by rw [if_neg (by omega)]) (fun j => by rw [if_neg (by omega)]) (fun H4 ks' ko' kt' kc' f1 f2 f3 f4 f5 f6 f7 f8 f9 => ?_)
    have e4 : y_fr h H4 [19584] [187, 188, 189, 190, 191, 192, 193, 194] := y_sq (y_mo e3 rfl rfl) f1 rfl rfl
    have HC4 : j_cost H4 := by
      refine ⟨nd, co', _, kc', (y_fe e4 rfl).trans n1, (y_ae e4 rfl).trans x2, (y_ae f1 rfl).trans A1, f8, x5, fun j v hj hv => ?_⟩
      rw [ci, y_Nnset (by omega)] at hv
      rw [f9]
      by_cases q : j = i
      · subst q
        rw [if_pos rfl] at hv
        rw [if_pos (by omega), show 10 * j + v - 10 * j = v by omega]
        exact x5 v (by omega)
      · rw [if_neg q] at hv
        have hb10 : y_Nn kn j ≤ 10 := by
          have := (k6 j hj).1
          unfold y_N at this
          unfold y_Nn
          omega
        rw [if_neg (by omega)]
        exact x6 j v hj hv
    refine hk _ _ e4 ⟨⟨nd, le, de, ta, (y_fe e4 rfl).trans n1, (y_ae e4 rfl).trans n2, (y_ae e4 rfl).trans n3, (y_ae e4 rfl).trans n4, c1, c2, c3, c4, c5⟩, j_dp_e (y_fe e4 rfl) (y_fe e4 rfl) (y_ae e4 rfl) q2, ⟨de, to, kt', sn, sl, sh, (y_ae e4 rfl).trans n3, (y_ae e4 rfl).trans o2, f4, (y_ae e4 rfl).trans o4, (y_ae e4 rfl).trans o5, (y_ae e4 rfl).trans o6, o7, f5, o9⟩, j_w_e (y_fe e4 rfl) (y_ae e4 rfl) q4, ⟨nd, sm, so, sa, (y_fe e4 rfl).trans n1, (y_fe e4 rfl).trans s2, (y_ae e4 rfl).trans s3, (y_ae e4 rfl).trans s4, s5⟩, ⟨nd, _, _, ko', ks', (y_fe e4 rfl).trans n1, (y_ae f1 rfl).trans A1, (y_ae f1 rfl).trans A2, f3, f2, fun j hj => ?_⟩, j_land_e (y_fe e4 rfl) (y_ae e4 rfl) q7⟩ HC4 (by unfold n_ke; rw [if_pos lv])
    rw [ci]
    have en : y_Nn (kn.set i nd) j = if j = i then nd.toInt.toNat else y_Nn kn j := y_Nnset (by omega)
    have en2 : y_N (kn.set i nd) j = if j = i then nd.toInt else y_N kn j := y_Nset (by omega)
    have em : y_Nn (km.set i sm) j = if j = i then sm.toInt.toNat else y_Nn km j := y_Nnset (by omega)
    rw [en, en2, em]
    by_cases q : j = i
    · subst q
      rw [if_pos rfl, if_pos rfl, if_pos rfl]
      refine ⟨Int.le_refl _, y_ord_c s5 (fun k hk' => ?_) (fun k hk' => ?_)⟩
      · rw [f7, if_pos (by omega), show 10 * j + k - 10 * j = k by omega]
      · rw [f6, if_pos (by omega), show 10 * j + k - 10 * j = k by omega]
    · rw [if_neg q, if_neg q, if_neg q]
      have kj := k6 j hj
      have hb10 : y_Nn kn j ≤ 10 := by
        unfold y_Nn
        have := kj.1
        unfold y_N at this
        omega
      refine ⟨kj.1, y_ord_c kj.2 (fun k hk' => ?_) (fun k hk' => ?_)⟩
      · rw [f7, if_neg (by omega)]
      · rw [f6, if_neg (by omega)]
  · refine w_go z_hl [48] [176] 30 h2.1 ?_
    refine ⟨fun q => absurd q (by decide), fun _ => ⟨by decide, fun H3 h3 => ?_⟩⟩
    have g := y_st (y_sq e1 h2 rfl rfl) h3 (by repeat (first | exact w_nil | refine w_cons (Or.inl (y_m rfl)) ?_ | refine w_cons (Or.inr (by assumption)) ?_)) (by repeat (first | exact w_nil | refine w_cons (Or.inl (y_m rfl)) ?_ | refine w_cons (Or.inr (by assumption)) ?_))
    exact hk _ _ (y_mo g rfl rfl) (y_J_fr g rfl rfl hJ) (j_cost_e g rfl rfl hC) (by unfold n_ke; rw [if_neg (fun q => l (by rw [y_i2l]; exact q.1) (by rw [y_i2l]; exact q.2))])
theorem c_list {h : aH} (hI : t_I h) {p n a b : Int32} (hk : ∀ (H : aH), t_I H → K0 (some (.int (n_li p n a b))) H C S) : aOK s_P X 200 a_m143 0 (a_ent (.ref 2 :: [p, n, a, b].map .int) a_m143.2.2.1) [] h C S K0 := by
  have i1 := s_i32 p
  have i2 := s_i32 n
  have i3 := s_i32 a
  have i4 := s_i32 b
  unfold n_li at hk
  by_cases v : n_liV p n a b
  · rw [if_pos v] at hk
    obtain ⟨v1, v2, v3, v4, v5, v6, v7⟩ := v
    exact n_ctxc (us := [p, n, a, b]) (ws := [.int p, .int n, .int a, .int b]) (m := 0) (Int32.ofInt 0) (z_li0_s (y_jx_l y_JA_x)) rfl rfl rfl hI rfl rfl (by decide +kernel) (by decide +kernel) rfl (by decide +kernel) (n_Ra (by omega) (by omega) rfl (n_Ra (by omega) (by omega) rfl (n_Ra (by omega) (by omega) rfl (n_Ra (by omega) (by omega) rfl (n_Rn))))) (List.forall_mem_cons.mpr ⟨⟨n, p, rfl, rfl, by dsimp only; omega⟩, List.forall_mem_cons.mpr ⟨⟨a, b, rfl, rfl, by dsimp only; omega⟩, fun _ h => absurd h List.not_mem_nil⟩⟩) (fun H h1 _ => hk H h1)
  · rw [if_neg v] at hk
    by_cases q1 : a.toInt ≤ 0
    · exact n_ctxc (us := [p, n, a, b]) (ws := [.int p, .int n, .int a, .int b]) (m := 0) (Int32.ofInt (-1)) (z_li1_s (y_jx_l y_JA_x)) rfl rfl rfl hI rfl rfl (by decide +kernel) (by decide +kernel) rfl (by decide +kernel) (n_Ra (by omega) (by omega) rfl (n_Ra (by omega) (by omega) rfl (n_Ra (by omega) (by omega) rfl (n_Ra (by omega) (by omega) rfl (n_Rn))))) (fun _ h => absurd h List.not_mem_nil) (fun H h1 _ => hk H h1)
    · by_cases q2 : 1000001 ≤ b.toInt
      · exact n_ctxc (us := [p, n, a, b]) (ws := [.int p, .int n, .int a, .int b]) (m := 0) (Int32.ofInt (-1)) (z_li2_s (y_jx_l y_JA_x)) rfl rfl rfl hI rfl rfl (by decide +kernel) (by decide +kernel) rfl (by decide +kernel) (n_Ra (by omega) (by omega) rfl (n_Ra (by omega) (by omega) rfl (n_Ra (by omega) (by omega) rfl (n_Ra (by omega) (by omega) rfl (n_Rn))))) (fun _ h => absurd h List.not_mem_nil) (fun H h1 _ => hk H h1)
      · by_cases q3 : b.toInt + 1 ≤ a.toInt
        · exact n_ctxc (us := [p, n, a, b]) (ws := [.int p, .int n, .int a, .int b]) (m := 0) (Int32.ofInt (-1)) (z_li3_s (y_jx_l y_JA_x)) rfl rfl rfl hI rfl rfl (by decide +kernel) (by decide +kernel) rfl (by decide +kernel) (n_Ra (by omega) (by omega) rfl (n_Ra (by omega) (by omega) rfl (n_Ra (by omega) (by omega) rfl (n_Ra (by omega) (by omega) rfl (n_Rn))))) (List.forall_mem_cons.mpr ⟨⟨b, a, rfl, rfl, by dsimp only; omega⟩, fun _ h => absurd h List.not_mem_nil⟩) (fun H h1 _ => hk H h1)
        · by_cases q4 : n.toInt ≤ 0
          · exact n_ctxc (us := [p, n, a, b]) (ws := [.int p, .int n, .int a, .int b]) (m := 0) (Int32.ofInt (-1)) (z_li4_s (y_jx_l y_JA_x)) rfl rfl rfl hI rfl rfl (by decide +kernel) (by decide +kernel) rfl (by decide +kernel) (n_Ra (by omega) (by omega) rfl (n_Ra (by omega) (by omega) rfl (n_Ra (by omega) (by omega) rfl (n_Ra (by omega) (by omega) rfl (n_Rn))))) (fun _ h => absurd h List.not_mem_nil) (fun H h1 _ => hk H h1)
          · by_cases q5 : 1000001 ≤ n.toInt
            · exact n_ctxc (us := [p, n, a, b]) (ws := [.int p, .int n, .int a, .int b]) (m := 0) (Int32.ofInt (-1)) (z_li5_s (y_jx_l y_JA_x)) rfl rfl rfl hI rfl rfl (by decide +kernel) (by decide +kernel) rfl (by decide +kernel) (n_Ra (by omega) (by omega) rfl (n_Ra (by omega) (by omega) rfl (n_Ra (by omega) (by omega) rfl (n_Ra (by omega) (by omega) rfl (n_Rn))))) (fun _ h => absurd h List.not_mem_nil) (fun H h1 _ => hk H h1)
            · by_cases q6 : p.toInt + 1 ≤ n.toInt
              · exact n_ctxc (us := [p, n, a, b]) (ws := [.int p, .int n, .int a, .int b]) (m := 0) (Int32.ofInt (-1)) (z_li6_s (y_jx_l y_JA_x)) rfl rfl rfl hI rfl rfl (by decide +kernel) (by decide +kernel) rfl (by decide +kernel) (n_Ra (by omega) (by omega) rfl (n_Ra (by omega) (by omega) rfl (n_Ra (by omega) (by omega) rfl (n_Ra (by omega) (by omega) rfl (n_Rn))))) (List.forall_mem_cons.mpr ⟨⟨p, n, rfl, rfl, by dsimp only; omega⟩, fun _ h => absurd h List.not_mem_nil⟩) (fun H h1 _ => hk H h1)
              · by_cases q7 : 100000001 ≤ p.toInt
                · exact n_ctxc (us := [p, n, a, b]) (ws := [.int p, .int n, .int a, .int b]) (m := 0) (Int32.ofInt (-1)) (z_li7_s (y_jx_l y_JA_x)) rfl rfl rfl hI rfl rfl (by decide +kernel) (by decide +kernel) rfl (by decide +kernel) (n_Ra (by omega) (by omega) rfl (n_Ra (by omega) (by omega) rfl (n_Ra (by omega) (by omega) rfl (n_Ra (by omega) (by omega) rfl (n_Rn))))) (fun _ h => absurd h List.not_mem_nil) (fun H h1 _ => hk H h1)
                · exact absurd ⟨by omega, by omega, by omega, by omega, by omega, by omega, by omega⟩ v
theorem c_keep {h : aH} (hI : t_I h) {a : Int32} (hk : ∀ (H : aH), t_I H → K0 (some (.int (n_ke a))) H C S) : aOK s_P X 200 a_m163 0 (a_ent (.ref 2 :: [a].map .int) a_m163.2.2.1) [] h C S K0 := by
  have i1 := s_i32 a
  unfold n_ke at hk
  by_cases v : 0 ≤ a.toInt ∧ a.toInt ≤ 2
  · rw [if_pos v] at hk
    obtain ⟨v1, v2⟩ := v
    exact n_ctxc (us := [a]) (ws := [.int a]) (m := 0) (Int32.ofInt 1) (z_ke0_s (y_jx_l y_JA_x)) rfl rfl rfl hI rfl rfl (by decide +kernel) (by decide +kernel) rfl (by decide +kernel) (n_Ra (by omega) (by omega) rfl (n_Rn)) (fun _ h => absurd h List.not_mem_nil) (fun H h1 _ => hk H h1)
  · rw [if_neg v] at hk
    by_cases q1 : a.toInt ≤ -1
    · exact n_ctxc (us := [a]) (ws := [.int a]) (m := 0) (Int32.ofInt 0) (z_ke1_s (y_jx_l y_JA_x)) rfl rfl rfl hI rfl rfl (by decide +kernel) (by decide +kernel) rfl (by decide +kernel) (n_Ra (by omega) (by omega) rfl (n_Rn)) (fun _ h => absurd h List.not_mem_nil) (fun H h1 _ => hk H h1)
    · exact n_ctxc (us := [a]) (ws := [.int a]) (m := 0) (Int32.ofInt 0) (z_ke2_s (y_jx_l y_JA_x)) rfl rfl rfl hI rfl rfl (by decide +kernel) (by decide +kernel) rfl (by decide +kernel) (n_Ra (by omega) (by omega) rfl (n_Rn)) (fun _ h => absurd h List.not_mem_nil) (fun H h1 _ => hk H h1)
end NF
