section PT33ica
/-! ===== v21: clear, parseTerm, parseFirst, parseSecond of the class with saying 3 (laid by wip/tools/mk21e.py) ===== -/
section PFS3
variable {X : aX} {C S d : Nat} {K0 : Option Value → aH → Nat → Nat → Prop} {sg : List Int32} {t p : Nat} {nd : Int32} {h : aH}
theorem c_clearl3 : ∀ (m : Nat) (h : aH) (iI : Int32) (i : Nat) (fr : List Int32), w_hr z_D h → iI.toInt = i → i + m = 4 → w_a h 38 = some (0, .inl fr) → fr.length = 4 → (∀ j, j < i → y_N fr j = -1) → (∀ (H : aH) (fr' : List Int32), y_fr h H [] [38, 39, 40] → w_a H 38 = some (0, .inl fr') → (∀ j, j < 4 → y_N fr' j = -1) → K0 none H C S) → aOK s_P X d a_m79 13 [some (.ref 38), some (.int iI)] [] h C S K0 := by
  have c4 : (Int32.ofInt 4).toInt = 4 := by decide
  intro m
  induction m with
  | zero =>
    intro h iI i fr hr hi hm g len hf hK
    have ei : i = 4 := by omega
    rw [ei] at hf
    refine w_go z_hl [13] [] 30 hr ?_
    refine ⟨fun _ => fun H hH => ?_, fun z => ?_⟩
    · have f : y_fr h H [] [] := y_st (y_rf hr) hH (by repeat (first | exact w_nil | refine w_cons (Or.inl (y_m rfl)) ?_ | refine w_cons (Or.inr (by assumption)) ?_)) (by repeat (first | exact w_nil | refine w_cons (Or.inl (y_m rfl)) ?_ | refine w_cons (Or.inr (by assumption)) ?_))
      exact hK H fr (y_mo f rfl rfl) ((y_ae f rfl).trans g) hf
    · have y1 : ¬ ((Int32.ofInt 4).toInt ≤ iI.toInt) := y_cif z
      rw [c4] at y1
      exfalso
      omega
  | succ m ih =>
    intro h iI i fr hr hi hm g len hf hK
    have ink : (iI + Int32.ofInt 1).toInt = ((i + 1 : Nat) : Int) := by rw [y_inc (by omega), hi]; rfl
    have ci := y_cl1 hi
    refine w_go z_hl [13] [] 60 hr ?_
    refine ⟨fun z => ?_, fun z => ?_⟩
    · have y1 : (Int32.ofInt 4).toInt ≤ iI.toInt := (y_ci .ge _ _).mp z
      rw [c4] at y1
      exfalso
      omega
    · refine ⟨⟨by omega, by omega⟩, by decide, fun l hl len1 bb => ?_⟩
      obtain rfl := y_ai g hl
      refine ⟨⟨by omega, by omega⟩, y_l32 _, fun l2 hl2 len2 bb2 => ⟨⟨by omega, by omega⟩, y_l32 _, fun l3 hl3 len3 bb3 => fun H hH => ?_⟩⟩
      have w := hH.2.2.1 38 _ rfl
      rw [ci] at w
      have f : y_fr h H [] [38, 39, 40] := y_st (y_mo (y_rf hr) rfl rfl) hH (by repeat (first | exact w_nil | refine w_cons (Or.inl (y_m rfl)) ?_ | refine w_cons (Or.inr (by assumption)) ?_)) (by repeat (first | exact w_nil | refine w_cons (Or.inl (y_m rfl)) ?_ | refine w_cons (Or.inr (by assumption)) ?_))
      refine ih H _ (i + 1) _ f.1 ink (by omega) w (by rw [List.length_set]; exact len) (fun j hj => ?_) (fun H' fr' f1 f2 f3 => hK H' fr' (y_sq f f1 rfl rfl) f2 f3)
      rw [y_Nset (by omega)]
      by_cases y : j = i
      · rw [if_pos y]
        decide
      · rw [if_neg y]
        exact hf j (by omega)
theorem c_clear3 (hr : w_hr z_D h) (hK : ∀ (H : aH) (fr : List Int32), y_fr h H [4609, 4610] [38, 39, 40] → w_a H 38 = some (0, .inl fr) → (∀ j, j < 4 → y_N fr j = -1) → K0 none H C S) : aOK s_P X d a_m79 0 [some (.ref 38), none] [] h C S K0 := by
  refine w_go z_hl [13] [] 30 hr ?_
  refine ⟨rfl, y_zini (by decide) (by decide), rfl, y_zini (by decide) (by decide), fun H hH => ?_⟩
  have f : y_fr h H [4609, 4610] [] := y_st (y_mo (y_rf hr) rfl rfl) hH (by repeat (first | exact w_nil | refine w_cons (Or.inl (y_m rfl)) ?_ | refine w_cons (Or.inr (by assumption)) ?_)) (by repeat (first | exact w_nil | refine w_cons (Or.inl (y_m rfl)) ?_ | refine w_cons (Or.inr (by assumption)) ?_))
  obtain ⟨fr, f1, fl, -⟩ := c_arr f.1 (ob := 38) (n := 4) (lo := -1) (hi := 40) rfl
  exact c_clearl3 4 H _ 0 fr f.1 (by decide) rfl f1 fl (fun j hj => absurd hj (Nat.not_lt_zero j)) (fun H' fr' e1 e2 e3 => hK H' fr' (y_sq (y_mo f rfl rfl) e1 rfl rfl) e2 e3)
theorem c_tm3 (n0 : 0 ≤ nd.toInt) (n10 : nd.toInt ≤ 10) {sI : Int32} {sd : Nat} (hs : sI.toInt = sd) (hs2 : sd < 2) (s : tx_s nd h sg t p) {fr : List Int32} (gf : w_a h 38 = some (0, .inl fr)) (hK : ∀ (b : Bool) (q k : Nat) (H : aH) (fr' : List Int32), y_fr h H [1538] [38, 39, 40, 41, 42] → tx_s nd H sg t q → pr_tm (y_N sg) t nd.toInt p = (b, q, k) → w_a H 38 = some (0, .inl fr') → (k = 0 ∧ fr' = fr) ∨ tx_f fr fr' sd k → K0 (some (.int (y_01 b))) H C S) : aOK s_P X (d + 4) a_m81 0 [some (.ref 14), some (.ref 38), some (.int sI)] [] h C S K0 := by
  have hr := (tx_s_hr s).1
  have T25 : ∀ {G : aH} {b : Bool} {q k : Nat} {pc : Nat} {fr' : List Int32}, (pc = 16 ∨ pc = 25) → y_fr h G [1538] [38, 39, 40, 41, 42] → tx_s nd G sg t q → pr_tm (y_N sg) t nd.toInt p = (b, q, k) → w_a G 38 = some (0, .inl fr') → (k = 0 ∧ fr' = fr) ∨ tx_f fr fr' sd k → aOK s_P X (d + 4) a_m81 pc [some (.ref 14), some (.ref 38), some (.int sI)] [.int (y_01 b)] G C S K0 := by
    intro G b q k pc fr' hpc e s2 hg g2 hf
    rcases hpc with rfl | rfl
    · refine w_go z_hl [] [] 20 e.1 ?_
      refine ⟨y_01b b, fun H hH => ?_⟩
      have f : y_fr G H [] [] := y_st (y_rf e.1) hH (by repeat (first | exact w_nil | refine w_cons (Or.inl (y_m rfl)) ?_ | refine w_cons (Or.inr (by assumption)) ?_)) (by repeat (first | exact w_nil | refine w_cons (Or.inl (y_m rfl)) ?_ | refine w_cons (Or.inr (by assumption)) ?_))
      exact hK b q k H fr' (y_sq e f rfl rfl) (tx_s_fr s2 f rfl rfl) hg ((y_ae f rfl).trans g2) hf
    · refine w_go z_hl [] [] 20 e.1 ?_
      refine ⟨y_01b b, fun H hH => ?_⟩
      have f : y_fr G H [] [] := y_st (y_rf e.1) hH (by repeat (first | exact w_nil | refine w_cons (Or.inl (y_m rfl)) ?_ | refine w_cons (Or.inr (by assumption)) ?_)) (by repeat (first | exact w_nil | refine w_cons (Or.inl (y_m rfl)) ?_ | refine w_cons (Or.inr (by assumption)) ?_))
      exact hK b q k H fr' (y_sq e f rfl rfl) (tx_s_fr s2 f rfl rfl) hg ((y_ae f rfl).trans g2) hf
  have T7 : ∀ {G : aH} (b : Bool), y_fr h G [] [] → (b = true → pr_dg (y_N sg) t p) → (b = false → ¬ pr_dg (y_N sg) t p) → aOK s_P X (d + 4) a_m81 7 [some (.ref 14), some (.ref 38), some (.int sI)] [.int (y_01 b)] G C S K0 := by
    intro G b e hy hn
    cases b with
    | true =>
      refine w_go z_hl [] [84, 86] 30 e.1 ?_
      refine ⟨fun z => absurd z (by decide), fun _ => fun H hH => ?_⟩
      have f : y_fr h H [] [] := y_st e hH (by repeat (first | exact w_nil | refine w_cons (Or.inl (y_m rfl)) ?_ | refine w_cons (Or.inr (by assumption)) ?_)) (by repeat (first | exact w_nil | refine w_cons (Or.inl (y_m rfl)) ?_ | refine w_cons (Or.inr (by assumption)) ?_))
      refine c_rt3 (d := d + 1) hs hs2 (tx_s_fr s f rfl rfl) (fun b q H2 f2 s3 hg => ⟨fun n e => (by cases e), ?_⟩)
      exact T25 (k := 0) (Or.inl rfl) (y_sq (y_mo f rfl rfl) f2 rfl rfl) s3 (by rw [pr_tm_1 (hy rfl)]; exact hg) ((y_ae f2 rfl).trans ((y_ae f rfl).trans gf)) (Or.inl ⟨rfl, rfl⟩)
    | false =>
      refine w_go z_hl [] [84, 86] 30 e.1 ?_
      refine ⟨fun _ => fun H hH => ?_, fun z => absurd z (by decide)⟩
      have f : y_fr h H [] [] := y_st e hH (by repeat (first | exact w_nil | refine w_cons (Or.inl (y_m rfl)) ?_ | refine w_cons (Or.inr (by assumption)) ?_)) (by repeat (first | exact w_nil | refine w_cons (Or.inl (y_m rfl)) ?_ | refine w_cons (Or.inr (by assumption)) ?_))
      refine c_gv3 (d := d) n0 n10 hs hs2 (tx_s_fr s f rfl rfl) ((y_ae f rfl).trans gf) (fun b q k H2 fr' f2 s3 hg g3 hf => ⟨fun n e => (by cases e), ?_⟩)
      exact T25 (Or.inr rfl) (y_sq (y_mo f rfl rfl) f2 rfl rfl) s3 (by rw [pr_tm_0 (hn rfl)]; exact hg) g3 (Or.inr hf)
  have T4 : ∀ {G : aH} {cI : Int32}, y_fr h G [] [] → cI.toInt = pr_k (y_N sg) t p → aOK s_P X (d + 4) a_m81 4 [some (.ref 14), some (.ref 38), some (.int sI)] [.int cI] G C S K0 := by
    intro G cI e hc
    refine w_go z_hl [] [83] 20 e.1 ?_
    intro H hH
    have f : y_fr h H [] [] := y_st e hH (by repeat (first | exact w_nil | refine w_cons (Or.inl (y_m rfl)) ?_ | refine w_cons (Or.inr (by assumption)) ?_)) (by repeat (first | exact w_nil | refine w_cons (Or.inl (y_m rfl)) ?_ | refine w_cons (Or.inr (by assumption)) ?_))
    refine c_isDg (c := cI) f.1 (fun H2 f2 w => ⟨fun n e => (by cases e), ?_⟩) (fun H2 f2 w => ⟨fun n e => (by cases e), ?_⟩)
    · exact T7 true (y_sq f f2 rfl rfl) (fun _ => ⟨by omega, by omega⟩) (fun z => absurd z (by decide))
    · exact T7 false (y_sq f f2 rfl rfl) (fun z => absurd z (by decide)) (fun _ z => w ⟨by have := z.1; omega, by have := z.2; omega⟩)
  refine w_go z_hl [] [82] 20 hr ?_
  intro H hH
  have f : y_fr h H [] [] := y_st (y_rf hr) hH (by repeat (first | exact w_nil | refine w_cons (Or.inl (y_m rfl)) ?_ | refine w_cons (Or.inr (by assumption)) ?_)) (by repeat (first | exact w_nil | refine w_cons (Or.inl (y_m rfl)) ?_ | refine w_cons (Or.inr (by assumption)) ?_))
  refine c_lkT (tx_s_fr s f rfl rfl) (fun r H2 f2 er => ⟨fun n e => (by cases e), ?_⟩)
  exact T4 (y_sq f f2 rfl rfl) er
theorem c_isNum3 (hr : w_hr z_D h) {fr : List Int32} (gf : w_a h 38 = some (0, .inl fr)) (hK : ∀ (H : aH), y_fr h H [] [] → K0 (some (.int (y_01 (decide (y_N fr 0 = -1))))) H C S) : aOK s_P X d a_m89 0 [some (.ref 38), some (.int (Int32.ofInt 0))] [] h C S K0 := by
  have m1 : (Int32.ofInt 2 * Int32.ofInt 0).toInt = ((0 : Nat) : Int) := by decide
  have cm := y_cl1 m1
  have cn : (Int32.ofInt (-1)).toInt = -1 := by decide
  refine w_go z_hl [] [] 30 hr ?_
  refine ⟨⟨by decide, by decide⟩, fun l hl len bb => ?_⟩
  obtain rfl := y_ai gf hl
  refine ⟨fun z => ⟨by decide, fun H hH => ?_⟩, fun z => ⟨by decide, fun H hH => ?_⟩⟩
  · have y1 : (fr.getD (Int32.ofInt 2 * Int32.ofInt 0).toNatClampNeg 0).toInt ≠ (Int32.ofInt (-1)).toInt := (y_ci .ne _ _).mp z
    rw [cm, cn] at y1
    have w := hK H (y_st (y_rf hr) hH (by repeat (first | exact w_nil | refine w_cons (Or.inl (y_m rfl)) ?_ | refine w_cons (Or.inr (by assumption)) ?_)) (by repeat (first | exact w_nil | refine w_cons (Or.inl (y_m rfl)) ?_ | refine w_cons (Or.inr (by assumption)) ?_)))
    rw [decide_eq_false (show ¬ (y_N fr 0 = -1) from y1)] at w
    exact w
  · have y1 : ¬ ((fr.getD (Int32.ofInt 2 * Int32.ofInt 0).toNatClampNeg 0).toInt ≠ (Int32.ofInt (-1)).toInt) := y_cif z
    rw [cm, cn] at y1
    have w := hK H (y_st (y_rf hr) hH (by repeat (first | exact w_nil | refine w_cons (Or.inl (y_m rfl)) ?_ | refine w_cons (Or.inr (by assumption)) ?_)) (by repeat (first | exact w_nil | refine w_cons (Or.inl (y_m rfl)) ?_ | refine w_cons (Or.inr (by assumption)) ?_)))
    rw [decide_eq_true (show y_N fr 0 = -1 from Decidable.not_not.mp y1)] at w
    exact w
theorem c_first3 (n0 : 0 ≤ nd.toInt) (n10 : nd.toInt ≤ 10) (s : tx_s nd h sg t 0) {fr : List Int32} (gf : w_a h 38 = some (0, .inl fr)) (hf0 : y_N fr 0 = -1) (hf1 : y_N fr 1 = -1) (yes : ∀ (q k : Nat) (H : aH) (rel : Int32) (fr' : List Int32), y_fr h H [1538, 4610] [38, 39, 40, 41, 42] → tx_s nd H sg t (q + 1) → pr_tm (y_N sg) t nd.toInt 0 = (true, q, k) → w_f H 4610 = some (.int rel) → w_a H 38 = some (0, .inl fr') → ((pr_k (y_N sg) t q = 126 ∧ k = 1) ∧ rel.toInt = 126) ∨ (¬ (pr_k (y_N sg) t q = 126 ∧ k = 1) ∧ (pr_k (y_N sg) t q = 61 ∨ pr_k (y_N sg) t q = 60 ∨ pr_k (y_N sg) t q = 62) ∧ rel.toInt ≠ 126) → K0 (some (.int (y_01 true))) H C S) (no : ∀ (q : Nat) (H : aH), y_fr h H [1538, 4610] [38, 39, 40, 41, 42] → tx_s nd H sg t q → pr_sy (y_N sg) t nd.toInt = (false, q) → K0 (some (.int (y_01 false))) H C S) : aOK s_P X (d + 5) a_m80 0 [some (.ref 14), some (.ref 38), none, none] [] h C S K0 := by
  have hr := (tx_s_hr s).1
  have c126 : ((Int8.ofInt 126).toInt32).toInt = 126 := by decide
  have c61 : ((Int8.ofInt 61).toInt32).toInt = 61 := by decide
  have c60 : ((Int8.ofInt 60).toInt32).toInt = 60 := by decide
  have c62 : ((Int8.ofInt 62).toInt32).toInt = 62 := by decide
  have cn : (Int32.ofInt (-1)).toInt = -1 := by decide
  have T70 : ∀ {G : aH} {q k : Nat} {cI : Int32} {p3 : Option Value} {fr' : List Int32}, y_fr h G [1538, 4610] [38, 39, 40, 41, 42] → tx_s nd G sg t q → q < t → pr_tm (y_N sg) t nd.toInt 0 = (true, q, k) → w_a G 38 = some (0, .inl fr') → cI.toInt = pr_k (y_N sg) t q → 0 ≤ cI.toInt → cI.toInt ≤ 65535 → ((pr_k (y_N sg) t q = 126 ∧ k = 1) ∨ (¬ (pr_k (y_N sg) t q = 126 ∧ k = 1) ∧ (pr_k (y_N sg) t q = 61 ∨ pr_k (y_N sg) t q = 60 ∨ pr_k (y_N sg) t q = 62))) → aOK s_P X (d + 5) a_m80 70 [some (.ref 14), some (.ref 38), some (.int cI), p3] [] G C S K0 := by
    intro G q k cI p3 fr' e s2 qt ht g2 hc c0 c65 hw
    obtain ⟨toJ, atJ, -, b1, b2, b3, b4, b5, b6, -, t40⟩ := id s2
    have inc : (atJ + Int32.ofInt 1).toInt = ((q + 1 : Nat) : Int) := by rw [y_inc (by omega), b5]; rfl
    refine w_go z_hl [] [] 40 e.1 ?_
    refine ⟨y_fitC c0 c65, y_zini c0 c65, ?_⟩
    intro x hx _ _
    obtain rfl := y_fi b4 hx
    refine ⟨rfl, y_zini (by show 0 ≤ (atJ + Int32.ofInt 1).toInt; omega) (by show (atJ + Int32.ofInt 1).toInt ≤ 40; omega), by decide, fun H hH => ?_⟩
    have f : y_fr G H [1538, 4610] [] := y_st (y_mo (y_rf e.1) rfl rfl) hH (by repeat (first | exact w_nil | refine w_cons (Or.inl (y_m rfl)) ?_ | refine w_cons (Or.inr (by assumption)) ?_)) (by repeat (first | exact w_nil | refine w_cons (Or.inl (y_m rfl)) ?_ | refine w_cons (Or.inr (by assumption)) ?_))
    have s3 : tx_s nd H sg t (q + 1) := ⟨toJ, _, f.1, (y_ae f rfl).trans b1, (y_fe f rfl).trans b2, b3, hH.2.1 1538 _ rfl, inc, (y_fe f rfl).trans b6, by omega, t40⟩
    refine yes q k H cI fr' (y_sq e f rfl rfl) s3 ht (hH.2.1 4610 _ rfl) ((y_ae f rfl).trans g2) ?_
    rcases hw with w | ⟨w, w2⟩
    · exact Or.inl ⟨w, by rw [hc]; exact w.1⟩
    · refine Or.inr ⟨w, w2, ?_⟩
      rw [hc]
      rcases w2 with w3 | w3 | w3
      · omega
      · omega
      · omega
  have T45 : ∀ {G : aH} {q k : Nat} {cI : Int32} {fr' : List Int32} (b : Bool), y_fr h G [1538, 4610] [38, 39, 40, 41, 42] → tx_s nd G sg t q → pr_tm (y_N sg) t nd.toInt 0 = (true, q, k) → w_a G 38 = some (0, .inl fr') → cI.toInt = pr_k (y_N sg) t q → 0 ≤ cI.toInt → cI.toInt ≤ 65535 → (b = true → pr_k (y_N sg) t q = 126 ∧ k = 1) → (b = false → ¬ (pr_k (y_N sg) t q = 126 ∧ k = 1)) → aOK s_P X (d + 5) a_m80 45 [some (.ref 14), some (.ref 38), some (.int cI), none] [.int (y_01 b)] G C S K0 := by
    intro G q k cI fr' b e s2 ht g2 hc c0 c65 hy hn
    have f0 : y_fr G G [] [] := y_rf e.1
    have go : ∀ {H : aH} {p3 : Option Value}, y_fr G H [] [] → q < t → ((pr_k (y_N sg) t q = 126 ∧ k = 1) ∨ (¬ (pr_k (y_N sg) t q = 126 ∧ k = 1) ∧ (pr_k (y_N sg) t q = 61 ∨ pr_k (y_N sg) t q = 60 ∨ pr_k (y_N sg) t q = 62))) → aOK s_P X (d + 5) a_m80 70 [some (.ref 14), some (.ref 38), some (.int cI), p3] [] H C S K0 := fun f qt w => T70 (y_sq e f rfl rfl) (tx_s_fr s2 f rfl rfl) qt ht ((y_ae f rfl).trans g2) hc c0 c65 w
    have q61 : cI.toInt = 61 → ¬ (pr_k (y_N sg) t q = 126 ∧ k = 1) := fun z w => by have := w.1; omega
    have q60 : cI.toInt = 60 → ¬ (pr_k (y_N sg) t q = 126 ∧ k = 1) := fun z w => by have := w.1; omega
    have q62 : cI.toInt = 62 → ¬ (pr_k (y_N sg) t q = 126 ∧ k = 1) := fun z w => by have := w.1; omega
    cases b with
    | true =>
      refine w_go z_hl [70] [] 40 e.1 ?_
      refine ⟨fun z => fun H hH => ?_, fun z => ⟨fun z2 => fun H hH => ?_, fun z2 => ⟨fun z3 => fun H hH => ?_, fun z3 => ⟨fun _ => fun H hH => ?_, fun z4 => absurd z4 (by decide)⟩⟩⟩⟩
      · have y1 : cI.toInt = ((Int8.ofInt 61).toInt32).toInt := (y_ci .eq _ _).mp z
        rw [c61] at y1
        exact go (y_st f0 hH (by repeat (first | exact w_nil | refine w_cons (Or.inl (y_m rfl)) ?_ | refine w_cons (Or.inr (by assumption)) ?_)) (by repeat (first | exact w_nil | refine w_cons (Or.inl (y_m rfl)) ?_ | refine w_cons (Or.inr (by assumption)) ?_))) (pr_k_t (c := 61) (by decide) (hc.symm.trans y1)) (Or.inr ⟨q61 y1, Or.inl (hc.symm.trans y1)⟩)
      · have y1 : cI.toInt = ((Int8.ofInt 60).toInt32).toInt := (y_ci .eq _ _).mp z2
        rw [c60] at y1
        exact go (y_st f0 hH (by repeat (first | exact w_nil | refine w_cons (Or.inl (y_m rfl)) ?_ | refine w_cons (Or.inr (by assumption)) ?_)) (by repeat (first | exact w_nil | refine w_cons (Or.inl (y_m rfl)) ?_ | refine w_cons (Or.inr (by assumption)) ?_))) (pr_k_t (c := 60) (by decide) (hc.symm.trans y1)) (Or.inr ⟨q60 y1, Or.inr (Or.inl (hc.symm.trans y1))⟩)
      · have y1 : cI.toInt = ((Int8.ofInt 62).toInt32).toInt := (y_ci .eq _ _).mp z3
        rw [c62] at y1
        exact go (y_st f0 hH (by repeat (first | exact w_nil | refine w_cons (Or.inl (y_m rfl)) ?_ | refine w_cons (Or.inr (by assumption)) ?_)) (by repeat (first | exact w_nil | refine w_cons (Or.inl (y_m rfl)) ?_ | refine w_cons (Or.inr (by assumption)) ?_))) (pr_k_t (c := 62) (by decide) (hc.symm.trans y1)) (Or.inr ⟨q62 y1, Or.inr (Or.inr (hc.symm.trans y1))⟩)
      · exact go (y_st f0 hH (by repeat (first | exact w_nil | refine w_cons (Or.inl (y_m rfl)) ?_ | refine w_cons (Or.inr (by assumption)) ?_)) (by repeat (first | exact w_nil | refine w_cons (Or.inl (y_m rfl)) ?_ | refine w_cons (Or.inr (by assumption)) ?_))) (pr_k_t (c := 126) (by decide) (hy rfl).1) (Or.inl (hy rfl))
    | false =>
      refine w_go z_hl [70] [] 40 e.1 ?_
      refine ⟨fun z => fun H hH => ?_, fun z => ⟨fun z2 => fun H hH => ?_, fun z2 => ⟨fun z3 => fun H hH => ?_, fun z3 => ⟨fun z4 => absurd z4 (by decide), fun _ => ⟨by decide, fun H hH => ?_⟩⟩⟩⟩⟩
      · have y1 : cI.toInt = ((Int8.ofInt 61).toInt32).toInt := (y_ci .eq _ _).mp z
        rw [c61] at y1
        exact go (y_st f0 hH (by repeat (first | exact w_nil | refine w_cons (Or.inl (y_m rfl)) ?_ | refine w_cons (Or.inr (by assumption)) ?_)) (by repeat (first | exact w_nil | refine w_cons (Or.inl (y_m rfl)) ?_ | refine w_cons (Or.inr (by assumption)) ?_))) (pr_k_t (c := 61) (by decide) (hc.symm.trans y1)) (Or.inr ⟨q61 y1, Or.inl (hc.symm.trans y1)⟩)
      · have y1 : cI.toInt = ((Int8.ofInt 60).toInt32).toInt := (y_ci .eq _ _).mp z2
        rw [c60] at y1
        exact go (y_st f0 hH (by repeat (first | exact w_nil | refine w_cons (Or.inl (y_m rfl)) ?_ | refine w_cons (Or.inr (by assumption)) ?_)) (by repeat (first | exact w_nil | refine w_cons (Or.inl (y_m rfl)) ?_ | refine w_cons (Or.inr (by assumption)) ?_))) (pr_k_t (c := 60) (by decide) (hc.symm.trans y1)) (Or.inr ⟨q60 y1, Or.inr (Or.inl (hc.symm.trans y1))⟩)
      · have y1 : cI.toInt = ((Int8.ofInt 62).toInt32).toInt := (y_ci .eq _ _).mp z3
        rw [c62] at y1
        exact go (y_st f0 hH (by repeat (first | exact w_nil | refine w_cons (Or.inl (y_m rfl)) ?_ | refine w_cons (Or.inr (by assumption)) ?_)) (by repeat (first | exact w_nil | refine w_cons (Or.inl (y_m rfl)) ?_ | refine w_cons (Or.inr (by assumption)) ?_))) (pr_k_t (c := 62) (by decide) (hc.symm.trans y1)) (Or.inr ⟨q62 y1, Or.inr (Or.inr (hc.symm.trans y1))⟩)
      · have y1 : ¬ (cI.toInt = ((Int8.ofInt 61).toInt32).toInt) := y_cif z
        have y2 : ¬ (cI.toInt = ((Int8.ofInt 60).toInt32).toInt) := y_cif z2
        have y3 : ¬ (cI.toInt = ((Int8.ofInt 62).toInt32).toInt) := y_cif z3
        rw [c61, hc] at y1
        rw [c60, hc] at y2
        rw [c62, hc] at y3
        have f : y_fr G H [] [] := y_st f0 hH (by repeat (first | exact w_nil | refine w_cons (Or.inl (y_m rfl)) ?_ | refine w_cons (Or.inr (by assumption)) ?_)) (by repeat (first | exact w_nil | refine w_cons (Or.inl (y_m rfl)) ?_ | refine w_cons (Or.inr (by assumption)) ?_))
        exact no q H (y_sq e f rfl rfl) (tx_s_fr s2 f rfl rfl) (pr_sy_x ht (hn rfl) (fun w => by rcases w with w | w | w; exact y1 w; exact y2 w; exact y3 w))
  have T27 : ∀ {G : aH} {q k : Nat} {cI : Int32} {fr' : List Int32} (b : Bool), y_fr h G [1538, 4610] [38, 39, 40, 41, 42] → tx_s nd G sg t q → pr_tm (y_N sg) t nd.toInt 0 = (true, q, k) → w_a G 38 = some (0, .inl fr') → cI.toInt = pr_k (y_N sg) t q → 0 ≤ cI.toInt → cI.toInt ≤ 65535 → pr_k (y_N sg) t q = 126 → (b = true → k = 0) → (b = false → k ≠ 0 ∧ (k = 1 → y_N fr' 1 = -1) ∧ (k ≠ 1 → 0 ≤ y_N fr' 1)) → aOK s_P X (d + 5) a_m80 27 [some (.ref 14), some (.ref 38), some (.int cI), none] [.int (y_01 b)] G C S K0 := by
    intro G q k cI fr' b e s2 ht g2 hc c0 c65 h126 hy hn
    have f0 : y_fr G G [] [] := y_rf e.1
    cases b with
    | true =>
      refine w_go z_hl [45] [] 30 e.1 ?_
      refine ⟨fun _ => fun H hH => ?_, fun z => absurd z (by decide)⟩
      have f : y_fr G H [] [] := y_st f0 hH (by repeat (first | exact w_nil | refine w_cons (Or.inl (y_m rfl)) ?_ | refine w_cons (Or.inr (by assumption)) ?_)) (by repeat (first | exact w_nil | refine w_cons (Or.inl (y_m rfl)) ?_ | refine w_cons (Or.inr (by assumption)) ?_))
      exact T45 false (y_sq e f rfl rfl) (tx_s_fr s2 f rfl rfl) ht ((y_ae f rfl).trans g2) hc c0 c65 (fun w => absurd w (by decide)) (fun _ w => by have := hy rfl; omega)
    | false =>
      obtain ⟨k0, k1, k2⟩ := hn rfl
      have i1 : (Int32.ofInt 1).toInt = ((1 : Nat) : Int) := by decide
      have ci1 := y_cl1 i1
      refine w_go z_hl [45] [] 30 e.1 ?_
      refine ⟨fun z => absurd z (by decide), fun _ => ⟨⟨by decide, by decide⟩, fun l hl len bb => ?_⟩⟩
      obtain rfl := y_ai g2 hl
      refine ⟨fun z => fun H hH => ?_, fun z => fun H hH => ?_⟩
      · have y1 : (fr'.getD (Int32.ofInt 1).toNatClampNeg 0).toInt ≠ (Int32.ofInt (-1)).toInt := (y_ci .ne _ _).mp z
        rw [ci1, cn] at y1
        have y2 : y_N fr' 1 ≠ -1 := y1
        have f : y_fr G H [] [] := y_st f0 hH (by repeat (first | exact w_nil | refine w_cons (Or.inl (y_m rfl)) ?_ | refine w_cons (Or.inr (by assumption)) ?_)) (by repeat (first | exact w_nil | refine w_cons (Or.inl (y_m rfl)) ?_ | refine w_cons (Or.inr (by assumption)) ?_))
        exact T45 false (y_sq e f rfl rfl) (tx_s_fr s2 f rfl rfl) ht ((y_ae f rfl).trans g2) hc c0 c65 (fun w => absurd w (by decide)) (fun _ w => y2 (k1 w.2))
      · have y1 : ¬ ((fr'.getD (Int32.ofInt 1).toNatClampNeg 0).toInt ≠ (Int32.ofInt (-1)).toInt) := y_cif z
        rw [ci1, cn] at y1
        have y2 : y_N fr' 1 = -1 := Decidable.not_not.mp y1
        have f : y_fr G H [] [] := y_st f0 hH (by repeat (first | exact w_nil | refine w_cons (Or.inl (y_m rfl)) ?_ | refine w_cons (Or.inr (by assumption)) ?_)) (by repeat (first | exact w_nil | refine w_cons (Or.inl (y_m rfl)) ?_ | refine w_cons (Or.inr (by assumption)) ?_))
        refine T45 true (y_sq e f rfl rfl) (tx_s_fr s2 f rfl rfl) ht ((y_ae f rfl).trans g2) hc c0 c65 (fun _ => ⟨h126, ?_⟩) (fun w => absurd w (by decide))
        rcases Nat.decEq k 1 with w | w
        · have := k2 w
          omega
        · exact w
  have T15 : ∀ {G : aH} {q k : Nat} {cI : Int32} {fr' : List Int32}, y_fr h G [1538, 4610] [38, 39, 40, 41, 42] → tx_s nd G sg t q → pr_tm (y_N sg) t nd.toInt 0 = (true, q, k) → w_a G 38 = some (0, .inl fr') → (k = 0 ∧ fr' = fr) ∨ tx_f fr fr' 0 k → cI.toInt = pr_k (y_N sg) t q → 0 ≤ cI.toInt → cI.toInt ≤ 65535 → aOK s_P X (d + 5) a_m80 15 [some (.ref 14), some (.ref 38), none, none] [.int cI] G C S K0 := by
    intro G q k cI fr' e s2 ht g2 hf hc c0 c65
    have f0 : y_fr G G [] [] := y_rf e.1
    refine w_go z_hl [45] [89] 30 e.1 ?_
    refine ⟨fun z => fun H hH => ?_, fun z => fun H hH => ?_⟩
    · have y1 : cI.toInt ≠ ((Int8.ofInt 126).toInt32).toInt := (y_ci .ne _ _).mp z
      rw [c126, hc] at y1
      have f : y_fr G H [] [] := y_st f0 hH (by repeat (first | exact w_nil | refine w_cons (Or.inl (y_m rfl)) ?_ | refine w_cons (Or.inr (by assumption)) ?_)) (by repeat (first | exact w_nil | refine w_cons (Or.inl (y_m rfl)) ?_ | refine w_cons (Or.inr (by assumption)) ?_))
      exact T45 false (y_sq e f rfl rfl) (tx_s_fr s2 f rfl rfl) ht ((y_ae f rfl).trans g2) hc c0 c65 (fun w => absurd w (by decide)) (fun _ w => y1 w.1)
    · have y1 : ¬ (cI.toInt ≠ ((Int8.ofInt 126).toInt32).toInt) := y_cif z
      rw [c126, hc] at y1
      have y2 : pr_k (y_N sg) t q = 126 := Decidable.not_not.mp y1
      have f : y_fr G H [] [] := y_st f0 hH (by repeat (first | exact w_nil | refine w_cons (Or.inl (y_m rfl)) ?_ | refine w_cons (Or.inr (by assumption)) ?_)) (by repeat (first | exact w_nil | refine w_cons (Or.inl (y_m rfl)) ?_ | refine w_cons (Or.inr (by assumption)) ?_))
      refine c_isNum3 f.1 ((y_ae f rfl).trans g2) (fun H2 f2 => ⟨fun n e => (by cases e), ?_⟩)
      have e3 := y_sq (y_sq e f rfl rfl) f2 rfl rfl
      have s3 := tx_s_fr (tx_s_fr s2 f rfl rfl) f2 rfl rfl
      have g3 := (y_ae f2 rfl).trans ((y_ae f rfl).trans g2)
      rcases hf with ⟨hf, hf'⟩ | ⟨hf, hg, hh, hi⟩
      · rw [decide_eq_true (show y_N fr' 0 = -1 by rw [hf']; exact hf0)]
        exact T27 true e3 s3 ht g3 hc c0 c65 y2 (fun _ => hf) (fun w => absurd w (by decide))
      · have hg' : 0 ≤ y_N fr' 0 := hg
        rw [decide_eq_false (show ¬ (y_N fr' 0 = -1) by omega)]
        refine T27 false e3 s3 ht g3 hc c0 c65 y2 (fun w => absurd w (by decide)) (fun _ => ⟨by omega, fun w => ?_, fun w => ?_⟩)
        · rw [hh w 1 (by decide)]
          exact hf1
        · exact (hi (by omega)).1
  have T6 : ∀ {G : aH} {q k : Nat} {fr' : List Int32} (b : Bool), y_fr h G [1538, 4610] [38, 39, 40, 41, 42] → tx_s nd G sg t q → pr_tm (y_N sg) t nd.toInt 0 = (b, q, k) → w_a G 38 = some (0, .inl fr') → (k = 0 ∧ fr' = fr) ∨ tx_f fr fr' 0 k → aOK s_P X (d + 5) a_m80 6 [some (.ref 14), some (.ref 38), none, none] [.int (y_01 b)] G C S K0 := by
    intro G q k fr' b e s2 ht g2 hf
    cases b with
    | true =>
      refine w_go z_hl [] [82] 30 e.1 ?_
      refine ⟨fun _ => fun H hH => ?_, fun z => absurd z (by decide)⟩
      have f : y_fr G H [] [] := y_st (y_rf e.1) hH (by repeat (first | exact w_nil | refine w_cons (Or.inl (y_m rfl)) ?_ | refine w_cons (Or.inr (by assumption)) ?_)) (by repeat (first | exact w_nil | refine w_cons (Or.inl (y_m rfl)) ?_ | refine w_cons (Or.inr (by assumption)) ?_))
      obtain ⟨sg', z1, z2, z3⟩ := w_arrI f.1 (o := 13) (t := 3) (n := 60) (lo := 0) (hi := 65535) (by decide) rfl
      have kb : 0 ≤ pr_k (y_N sg) t q ∧ pr_k (y_N sg) t q ≤ 65535 := by
        obtain ⟨-, -, -, b1, -, -, -, -, -, -, t40⟩ := tx_s_fr s2 f rfl rfl
        have e4 := w_a_at z1
        rw [b1] at e4
        obtain rfl : sg = sg' := by
          injection e4 with e5
          injection e5 with _ e6
          injection e6
        by_cases w : q < t
        · rw [pr_k_1 w]
          exact z3 _ (z_gd (0 : Int32) (show q < sg.length by omega))
        · rw [show pr_k (y_N sg) t q = 0 from if_neg w]
          decide
      refine c_lkT (tx_s_fr s2 f rfl rfl) (fun r H2 f2 er => ⟨fun n e => (by cases e), ?_⟩)
      exact T15 (y_sq (y_sq e f rfl rfl) f2 rfl rfl) (tx_s_fr (tx_s_fr s2 f rfl rfl) f2 rfl rfl) ht ((y_ae f2 rfl).trans ((y_ae f rfl).trans g2)) hf er (by omega) (by omega)
    | false =>
      refine w_go z_hl [] [82] 30 e.1 ?_
      refine ⟨fun z => absurd z (by decide), fun _ => ⟨by decide, fun H hH => ?_⟩⟩
      have f : y_fr G H [] [] := y_st (y_rf e.1) hH (by repeat (first | exact w_nil | refine w_cons (Or.inl (y_m rfl)) ?_ | refine w_cons (Or.inr (by assumption)) ?_)) (by repeat (first | exact w_nil | refine w_cons (Or.inl (y_m rfl)) ?_ | refine w_cons (Or.inr (by assumption)) ?_))
      exact no q H (y_sq e f rfl rfl) (tx_s_fr s2 f rfl rfl) (pr_sy_n ht)
  refine w_go z_hl [] [81] 20 hr ?_
  intro H hH
  have f : y_fr h H [] [] := y_st (y_rf hr) hH (by repeat (first | exact w_nil | refine w_cons (Or.inl (y_m rfl)) ?_ | refine w_cons (Or.inr (by assumption)) ?_)) (by repeat (first | exact w_nil | refine w_cons (Or.inl (y_m rfl)) ?_ | refine w_cons (Or.inr (by assumption)) ?_))
  refine c_tm3 (d := d) (sd := 0) n0 n10 (by decide) (by decide) (tx_s_fr s f rfl rfl) ((y_ae f rfl).trans gf) (fun b q k H2 fr' f2 s3 ht g3 hf => ⟨fun n e => (by cases e), ?_⟩)
  exact T6 b (y_sq (y_mo f rfl rfl) f2 rfl rfl) s3 ht g3 hf
theorem c_second3 (n0 : 0 ≤ nd.toInt) (n10 : nd.toInt ≤ 10) (s : tx_s nd h sg t p) {rel : Int32} (gr : w_f h 4610 = some (.int rel)) (hK : ∀ (b : Bool) (q k : Nat) (H : aH), y_fr h H [1538] [38, 39, 40, 41, 42] → tx_s nd H sg t q → (rel.toInt = 126 → pr_gv (y_N sg) t nd.toInt p = (b, q, k)) → (rel.toInt ≠ 126 → pr_tm (y_N sg) t nd.toInt p = (b, q, k)) → K0 (some (.int (y_01 b))) H C S) : aOK s_P X (d + 5) a_m90 0 [some (.ref 14), some (.ref 38)] [] h C S K0 := by
  have hr := (tx_s_hr s).1
  have c126 : ((Int8.ofInt 126).toInt32).toInt = 126 := by decide
  obtain ⟨fr, gf, -, -⟩ := c_arr hr (ob := 38) (n := 4) (lo := -1) (hi := 40) rfl
  have T22 : ∀ {G : aH} {b : Bool} {q k pc : Nat}, (pc = 13 ∨ pc = 22) → y_fr h G [1538] [38, 39, 40, 41, 42] → tx_s nd G sg t q → (rel.toInt = 126 → pr_gv (y_N sg) t nd.toInt p = (b, q, k)) → (rel.toInt ≠ 126 → pr_tm (y_N sg) t nd.toInt p = (b, q, k)) → aOK s_P X (d + 5) a_m90 pc [some (.ref 14), some (.ref 38)] [.int (y_01 b)] G C S K0 := by
    intro G b q k pc hpc e s2 h1 h2
    rcases hpc with rfl | rfl
    · refine w_go z_hl [] [] 20 e.1 ?_
      refine ⟨y_01b b, fun H hH => ?_⟩
      have f : y_fr G H [] [] := y_st (y_rf e.1) hH (by repeat (first | exact w_nil | refine w_cons (Or.inl (y_m rfl)) ?_ | refine w_cons (Or.inr (by assumption)) ?_)) (by repeat (first | exact w_nil | refine w_cons (Or.inl (y_m rfl)) ?_ | refine w_cons (Or.inr (by assumption)) ?_))
      exact hK b q k H (y_sq e f rfl rfl) (tx_s_fr s2 f rfl rfl) h1 h2
    · refine w_go z_hl [] [] 20 e.1 ?_
      refine ⟨y_01b b, fun H hH => ?_⟩
      have f : y_fr G H [] [] := y_st (y_rf e.1) hH (by repeat (first | exact w_nil | refine w_cons (Or.inl (y_m rfl)) ?_ | refine w_cons (Or.inr (by assumption)) ?_)) (by repeat (first | exact w_nil | refine w_cons (Or.inl (y_m rfl)) ?_ | refine w_cons (Or.inr (by assumption)) ?_))
      exact hK b q k H (y_sq e f rfl rfl) (tx_s_fr s2 f rfl rfl) h1 h2
  refine w_go z_hl [] [81, 86] 40 hr ?_
  intro x hx _ _
  obtain rfl := y_fi gr hx
  refine ⟨fun z => ⟨by decide, ⟨fun _ => fun H hH => ?_, fun z2 => absurd z2 (by decide)⟩⟩, fun z => ⟨by decide, ⟨fun z2 => absurd z2 (by decide), fun _ => fun H hH => ?_⟩⟩⟩
  · have y1 : rel.toInt ≠ ((Int8.ofInt 126).toInt32).toInt := (y_ci .ne _ _).mp z
    rw [c126] at y1
    have f : y_fr h H [] [] := y_st (y_rf hr) hH (by repeat (first | exact w_nil | refine w_cons (Or.inl (y_m rfl)) ?_ | refine w_cons (Or.inr (by assumption)) ?_)) (by repeat (first | exact w_nil | refine w_cons (Or.inl (y_m rfl)) ?_ | refine w_cons (Or.inr (by assumption)) ?_))
    refine c_tm3 (d := d) (sd := 1) n0 n10 (by decide) (by decide) (tx_s_fr s f rfl rfl) ((y_ae f rfl).trans gf) (fun b q k H2 fr' f2 s3 ht g3 hf => ⟨fun n e => (by cases e), ?_⟩)
    exact T22 (k := k) (Or.inr rfl) (y_sq (y_mo f rfl rfl) f2 rfl rfl) s3 (fun w => absurd w y1) (fun _ => ht)
  · have y1 : ¬ (rel.toInt ≠ ((Int8.ofInt 126).toInt32).toInt) := y_cif z
    rw [c126] at y1
    have f : y_fr h H [] [] := y_st (y_rf hr) hH (by repeat (first | exact w_nil | refine w_cons (Or.inl (y_m rfl)) ?_ | refine w_cons (Or.inr (by assumption)) ?_)) (by repeat (first | exact w_nil | refine w_cons (Or.inl (y_m rfl)) ?_ | refine w_cons (Or.inr (by assumption)) ?_))
    refine c_gv3 (d := d + 1) (sd := 1) n0 n10 (by decide) (by decide) (tx_s_fr s f rfl rfl) ((y_ae f rfl).trans gf) (fun b q k H2 fr' f2 s3 hg g3 hf => ⟨fun n e => (by cases e), ?_⟩)
    exact T22 (k := k) (Or.inl rfl) (y_sq (y_mo f rfl rfl) f2 rfl rfl) s3 (fun _ => hg) (fun w => absurd w y1)
end PFS3
end PT33ica
section PT33icb
/-! ===== v21: parse of the class with saying 3 (laid by wip/tools/mk21f.py) ===== -/
section PPS3
variable {X : aX} {C S d : Nat} {K0 : Option Value → aH → Nat → Nat → Prop} {sg : List Int32} {nd len : Int32} {h : aH}
theorem c_parse3 (hr : w_hr z_D h) (n0 : 0 ≤ nd.toInt) (n10 : nd.toInt ≤ 10) (l0 : 0 ≤ len.toInt) (l60 : len.toInt ≤ 60) (gs : w_a h 13 = some (3, .inl sg)) (hK : ∀ (r : Int32) (H : aH), y_fr h H [1538, 1539, 1540, 4609, 4610] [37, 38, 39, 40, 41, 42] → r.toInt = pr_wr (y_N sg) len.toInt.toNat nd.toInt → (pr_sy (y_N sg) (pr_t len.toInt.toNat) nd.toInt).2 ≤ pr_t len.toInt.toNat → K0 (some (.int r)) H C S) : aOK s_P X (d + 6) a_m78 0 [some (.ref 14), some (.int len), some (.int nd), some (.ref 38), none] [] h C S K0 := by
  have c40 : ((Int8.ofInt 40).toInt32).toInt = 40 := by decide
  have tl := pr_t_le (len := len.toInt.toNat)
  -- the end: whole or not
  have T56 : ∀ {G : aH} {q : Nat} (b : Bool), y_fr h G [1538, 1539, 1540, 4609, 4610] [38, 39, 40, 41, 42] → tx_s nd G sg (pr_t len.toInt.toNat) q → (pr_sy (y_N sg) (pr_t len.toInt.toNat) nd.toInt).2 = q → pr_wh (y_N sg) (pr_t len.toInt.toNat) nd.toInt = b → aOK s_P X (d + 6) a_m78 56 [some (.ref 14), some (.int len), some (.int nd), some (.ref 38), none] [.int (y_01 b)] G C S K0 := by
    intro G q b e s hq hb
    obtain ⟨toI, atI, -, a1, a2, a3, a4, a5, a6, pt, t40⟩ := id s
    have f0 : y_fr G G [] [] := y_rf e.1
    have out : ∀ {H : aH} {r : Int32}, y_fr G H [] [] → r.toInt = pr_wr (y_N sg) len.toInt.toNat nd.toInt → K0 (some (.int r)) H C S := fun f er => hK _ _ (y_mo (y_sq e f rfl rfl) rfl rfl) er (by omega)
    cases b with
    | true =>
      have ew : pr_wr (y_N sg) len.toInt.toNat nd.toInt = if 40 < len.toInt.toNat then 40 else -1 := if_pos hb
      have T97 : ∀ {H : aH}, y_fr G H [] [] → ¬ (40 < len.toInt.toNat) → aOK s_P X (d + 6) a_m78 97 [some (.ref 14), some (.int len), some (.int nd), some (.ref 38), some (.int (y_01 true))] [] H C S K0 := by
        intro H f nl
        refine w_go z_hl [111] [] 30 f.1 ?_
        intro x hx _ _
        obtain rfl := y_fi ((y_fe f rfl).trans a2) hx
        intro H2 h2
        have f2 : y_fr G H2 [] [] := y_st f h2 (by repeat (first | exact w_nil | refine w_cons (Or.inl (y_m rfl)) ?_ | refine w_cons (Or.inr (by assumption)) ?_)) (by repeat (first | exact w_nil | refine w_cons (Or.inl (y_m rfl)) ?_ | refine w_cons (Or.inr (by assumption)) ?_))
        refine y_copy3 (o := 13) (dd := 37) (m := pr_t len.toInt.toNat) (n1 := 60) (n2 := 40) f2.1 a3 rfl rfl (by omega) (by omega) rfl rfl (by decide) (fun H3 f3 => ?_)
        show aOK s_P X (d + 6) a_m78 114 [some (.ref 14), some (.int len), some (.int nd), some (.ref 38), some (.int (y_01 true))] [] H3 C S K0
        have f4 : y_fr G H3 [] [37] := y_sq (y_mo f2 rfl rfl) f3 rfl rfl
        refine w_go z_hl [] [] 30 f3.1 ?_
        intro x hx x0 x40
        obtain rfl := y_fi ((y_fe f4 rfl).trans a2) hx
        refine ⟨rfl, y_zini x0 x40, fun H5 h5 => ?_⟩
        have f5 : y_fr H3 H5 [4609] [] := y_st (y_mo (y_rf f3.1) rfl rfl) h5 (by repeat (first | exact w_nil | refine w_cons (Or.inl (y_m rfl)) ?_ | refine w_cons (Or.inr (by assumption)) ?_)) (by repeat (first | exact w_nil | refine w_cons (Or.inl (y_m rfl)) ?_ | refine w_cons (Or.inr (by assumption)) ?_))
        refine hK _ H5 (y_sq (y_sq (y_mo e rfl rfl) f4 rfl rfl) f5 rfl rfl) ?_ (by omega)
        rw [ew, if_neg nl]
        decide
      refine w_go z_hl [97] [] 40 e.1 ?_
      refine ⟨fun _ => ⟨fun z => absurd z (by decide), fun _ => ?_⟩, fun z => absurd z (by decide)⟩
      intro x hx _ _
      obtain rfl := y_fi a2 hx
      refine ⟨fun z => fun H hH => ?_, fun z => fun H hH => ?_⟩
      · have y1 : len.toInt ≤ toI.toInt := (y_ci .le _ _).mp z
        exact T97 (y_st f0 hH (by repeat (first | exact w_nil | refine w_cons (Or.inl (y_m rfl)) ?_ | refine w_cons (Or.inr (by assumption)) ?_)) (by repeat (first | exact w_nil | refine w_cons (Or.inl (y_m rfl)) ?_ | refine w_cons (Or.inr (by assumption)) ?_))) (by omega)
      · have y1 : ¬ (len.toInt ≤ toI.toInt) := y_cif z
        have lt : 40 < len.toInt.toNat := by
          rcases Nat.lt_or_ge 40 len.toInt.toNat with w | w
          · exact w
          · have et : pr_t len.toInt.toNat = len.toInt.toNat := if_neg (by omega)
            omega
        have et : pr_t len.toInt.toNat = 40 := if_pos lt
        exact out (y_st f0 hH (by repeat (first | exact w_nil | refine w_cons (Or.inl (y_m rfl)) ?_ | refine w_cons (Or.inr (by assumption)) ?_)) (by repeat (first | exact w_nil | refine w_cons (Or.inl (y_m rfl)) ?_ | refine w_cons (Or.inr (by assumption)) ?_))) (by rw [ew, if_pos lt]; omega)
    | false =>
      have ew : pr_wr (y_N sg) len.toInt.toNat nd.toInt = (q : Nat) := by
        unfold pr_wr
        rw [if_neg (by rw [hb]; decide), hq]
      refine w_go z_hl [97] [] 40 e.1 ?_
      refine ⟨fun z => absurd z (by decide), fun _ => ?_⟩
      intro x hx _ _
      obtain rfl := y_fi a4 hx
      intro y hy _ _
      obtain rfl := y_fi a2 hy
      refine ⟨fun z => ⟨fun _ => fun H hH => ?_, fun z2 => absurd z2 (by decide)⟩, fun z => fun H hH => ?_⟩
      · have y1 : toI.toInt ≤ atI.toInt := (y_ci .ge _ _).mp z
        exact out (y_st f0 hH (by repeat (first | exact w_nil | refine w_cons (Or.inl (y_m rfl)) ?_ | refine w_cons (Or.inr (by assumption)) ?_)) (by repeat (first | exact w_nil | refine w_cons (Or.inl (y_m rfl)) ?_ | refine w_cons (Or.inr (by assumption)) ?_))) (by rw [ew]; omega)
      · exact out (y_st f0 hH (by repeat (first | exact w_nil | refine w_cons (Or.inl (y_m rfl)) ?_ | refine w_cons (Or.inr (by assumption)) ?_)) (by repeat (first | exact w_nil | refine w_cons (Or.inl (y_m rfl)) ?_ | refine w_cons (Or.inr (by assumption)) ?_))) (by rw [ew]; exact a5)
  have T37 : ∀ {G : aH} {q : Nat} (b : Bool), y_fr h G [1538, 1539, 1540, 4609, 4610] [38, 39, 40, 41, 42] → tx_s nd G sg (pr_t len.toInt.toNat) q → pr_sy (y_N sg) (pr_t len.toInt.toNat) nd.toInt = (b, q) → aOK s_P X (d + 6) a_m78 37 [some (.ref 14), some (.int len), some (.int nd), some (.ref 38), none] [.int (y_01 b)] G C S K0 := by
    intro G q b e s hs
    obtain ⟨toI, atI, -, a1, a2, a3, a4, a5, a6, pt, t40⟩ := id s
    have f0 : y_fr G G [] [] := y_rf e.1
    cases b with
    | true =>
      refine w_go z_hl [56] [] 40 e.1 ?_
      refine ⟨fun z => absurd z (by decide), fun _ => ?_⟩
      intro x hx _ _
      obtain rfl := y_fi a4 hx
      intro y hy _ _
      obtain rfl := y_fi a2 hy
      refine ⟨fun z => fun H hH => ?_, fun z => fun H hH => ?_⟩
      · have y1 : atI.toInt ≠ toI.toInt := (y_ci .ne _ _).mp z
        have f : y_fr G H [] [] := y_st f0 hH (by repeat (first | exact w_nil | refine w_cons (Or.inl (y_m rfl)) ?_ | refine w_cons (Or.inr (by assumption)) ?_)) (by repeat (first | exact w_nil | refine w_cons (Or.inl (y_m rfl)) ?_ | refine w_cons (Or.inr (by assumption)) ?_))
        refine T56 false (y_sq e f rfl rfl) (tx_s_fr s f rfl rfl) (by rw [hs]) ?_
        unfold pr_wh
        rw [hs]
        show (true && decide (q = pr_t len.toInt.toNat)) = false
        rw [decide_eq_false (by omega)]
        rfl
      · have y1 : ¬ (atI.toInt ≠ toI.toInt) := y_cif z
        have f : y_fr G H [] [] := y_st f0 hH (by repeat (first | exact w_nil | refine w_cons (Or.inl (y_m rfl)) ?_ | refine w_cons (Or.inr (by assumption)) ?_)) (by repeat (first | exact w_nil | refine w_cons (Or.inl (y_m rfl)) ?_ | refine w_cons (Or.inr (by assumption)) ?_))
        refine T56 true (y_sq e f rfl rfl) (tx_s_fr s f rfl rfl) (by rw [hs]) ?_
        unfold pr_wh
        rw [hs]
        show (true && decide (q = pr_t len.toInt.toNat)) = true
        rw [decide_eq_true (by omega)]
        rfl
    | false =>
      refine w_go z_hl [56] [] 40 e.1 ?_
      refine ⟨fun _ => fun H hH => ?_, fun z => absurd z (by decide)⟩
      have f : y_fr G H [] [] := y_st f0 hH (by repeat (first | exact w_nil | refine w_cons (Or.inl (y_m rfl)) ?_ | refine w_cons (Or.inr (by assumption)) ?_)) (by repeat (first | exact w_nil | refine w_cons (Or.inl (y_m rfl)) ?_ | refine w_cons (Or.inr (by assumption)) ?_))
      refine T56 false (y_sq e f rfl rfl) (tx_s_fr s f rfl rfl) (by rw [hs]) ?_
      unfold pr_wh
      rw [hs]
      rfl
  have T29n : ∀ {G : aH} {q : Nat}, y_fr h G [1538, 1539, 1540, 4609, 4610] [38, 39, 40, 41, 42] → tx_s nd G sg (pr_t len.toInt.toNat) q → pr_sy (y_N sg) (pr_t len.toInt.toNat) nd.toInt = (false, q) → aOK s_P X (d + 6) a_m78 29 [some (.ref 14), some (.int len), some (.int nd), some (.ref 38), none] [.int (y_01 false)] G C S K0 := by
    intro G q e s hs
    refine w_go z_hl [56] [] 40 e.1 ?_
    refine ⟨fun _ => fun H hH => ?_, fun z => absurd z (by decide)⟩
    have f : y_fr G H [] [] := y_st (y_rf e.1) hH (by repeat (first | exact w_nil | refine w_cons (Or.inl (y_m rfl)) ?_ | refine w_cons (Or.inr (by assumption)) ?_)) (by repeat (first | exact w_nil | refine w_cons (Or.inl (y_m rfl)) ?_ | refine w_cons (Or.inr (by assumption)) ?_))
    refine T56 false (y_sq e f rfl rfl) (tx_s_fr s f rfl rfl) (by rw [hs]) ?_
    unfold pr_wh
    rw [hs]
    rfl
  have T29 : ∀ {G : aH} {q k : Nat} {rel : Int32}, y_fr h G [1538, 1539, 1540, 4609, 4610] [38, 39, 40, 41, 42] → tx_s nd G sg (pr_t len.toInt.toNat) (q + 1) → pr_tm (y_N sg) (pr_t len.toInt.toNat) nd.toInt 0 = (true, q, k) → w_f G 4610 = some (.int rel) → ((pr_k (y_N sg) (pr_t len.toInt.toNat) q = 126 ∧ k = 1) ∧ rel.toInt = 126) ∨ (¬ (pr_k (y_N sg) (pr_t len.toInt.toNat) q = 126 ∧ k = 1) ∧ (pr_k (y_N sg) (pr_t len.toInt.toNat) q = 61 ∨ pr_k (y_N sg) (pr_t len.toInt.toNat) q = 60 ∨ pr_k (y_N sg) (pr_t len.toInt.toNat) q = 62) ∧ rel.toInt ≠ 126) → aOK s_P X (d + 6) a_m78 29 [some (.ref 14), some (.int len), some (.int nd), some (.ref 38), none] [.int (y_01 true)] G C S K0 := by
    intro G q k rel e s ht gr hw
    refine w_go z_hl [56] [90] 40 e.1 ?_
    refine ⟨fun z => absurd z (by decide), fun _ => fun H hH => ?_⟩
    have f : y_fr G H [] [] := y_st (y_rf e.1) hH (by repeat (first | exact w_nil | refine w_cons (Or.inl (y_m rfl)) ?_ | refine w_cons (Or.inr (by assumption)) ?_)) (by repeat (first | exact w_nil | refine w_cons (Or.inl (y_m rfl)) ?_ | refine w_cons (Or.inr (by assumption)) ?_))
    refine c_second3 (d := d) n0 n10 (tx_s_fr s f rfl rfl) ((y_fe f rfl).trans gr) (fun b r k2 H2 f2 s3 h1 h2 => ⟨fun n e => (by cases e), ?_⟩)
    refine T37 b (y_sq (y_sq e f rfl rfl) f2 rfl rfl) s3 ?_
    rcases hw with ⟨⟨w1, w2⟩, w3⟩ | ⟨w1, w2, w3⟩
    · rw [w2] at ht
      exact pr_sy_b ht w1 (h1 w3)
    · exact pr_sy_c ht w1 w2 (h2 w3)
  have T24 : ∀ {G : aH} {fr : List Int32}, y_fr h G [1538, 1539, 1540, 4609, 4610] [38, 39, 40, 41, 42] → tx_s nd G sg (pr_t len.toInt.toNat) 0 → w_a G 38 = some (0, .inl fr) → (∀ j, j < 4 → y_N fr j = -1) → aOK s_P X (d + 6) a_m78 24 [some (.ref 14), some (.int len), some (.int nd), some (.ref 38), none] [] G C S K0 := by
    intro G fr e s g hf
    refine w_go z_hl [56] [80] 40 e.1 ?_
    intro H hH
    have f : y_fr G H [] [] := y_st (y_rf e.1) hH (by repeat (first | exact w_nil | refine w_cons (Or.inl (y_m rfl)) ?_ | refine w_cons (Or.inr (by assumption)) ?_)) (by repeat (first | exact w_nil | refine w_cons (Or.inl (y_m rfl)) ?_ | refine w_cons (Or.inr (by assumption)) ?_))
    refine c_first3 (d := d) n0 n10 (tx_s_fr s f rfl rfl) ((y_ae f rfl).trans g) (hf 0 (by decide)) (hf 1 (by decide)) (fun q k H2 rel fr' f2 s3 ht gr g3 hw => ⟨fun n e => (by cases e), ?_⟩) (fun q H2 f2 s3 hs => ⟨fun n e => (by cases e), ?_⟩)
    · exact T29 (y_sq (y_sq e f rfl rfl) f2 rfl rfl) s3 ht gr hw
    · exact T29n (y_sq (y_sq e f rfl rfl) f2 rfl rfl) s3 hs
  refine w_go z_hl [56] [79] 60 hr ?_
  refine ⟨rfl, y_zini (by decide) (by decide), ?_⟩
  refine ⟨fun z => ⟨rfl, y_zini (by decide) (by decide), rfl, y_zini n0 n10, fun H hH => ?_⟩, fun z => ⟨rfl, y_zini l0 ?_, rfl, y_zini n0 n10, fun H hH => ?_⟩⟩
  · have y1 : ((Int8.ofInt 40).toInt32).toInt < len.toInt := (y_ci .gt _ _).mp z
    rw [c40] at y1
    have et : pr_t len.toInt.toNat = 40 := if_pos (by omega)
    have f : y_fr h H [1538, 1539, 1540] [] := y_st (y_mo (y_rf hr) rfl rfl) hH (by repeat (first | exact w_nil | refine w_cons (Or.inl (y_m rfl)) ?_ | refine w_cons (Or.inr (by assumption)) ?_)) (by repeat (first | exact w_nil | refine w_cons (Or.inl (y_m rfl)) ?_ | refine w_cons (Or.inr (by assumption)) ?_))
    have s : tx_s nd H sg (pr_t len.toInt.toNat) 0 := ⟨_, _, f.1, (y_ae f rfl).trans gs, hH.2.1 1539 _ rfl, by rw [et]; exact c40, hH.2.1 1538 _ rfl, rfl, hH.2.1 1540 _ rfl, Nat.zero_le _, tl.1⟩
    refine c_clear3 f.1 (fun H2 fr f2 g2 hf => ⟨fun n e => (by cases e), ?_⟩)
    exact T24 (y_sq (y_mo f rfl rfl) f2 rfl rfl) (tx_s_fr s f2 rfl rfl) g2 hf
  · have y1 : ¬ (((Int8.ofInt 40).toInt32).toInt < len.toInt) := y_cif z
    rw [c40] at y1
    show len.toInt ≤ 40
    omega
  · have y1 : ¬ (((Int8.ofInt 40).toInt32).toInt < len.toInt) := y_cif z
    rw [c40] at y1
    have et : pr_t len.toInt.toNat = len.toInt.toNat := if_neg (by omega)
    have f : y_fr h H [1538, 1539, 1540] [] := y_st (y_mo (y_rf hr) rfl rfl) hH (by repeat (first | exact w_nil | refine w_cons (Or.inl (y_m rfl)) ?_ | refine w_cons (Or.inr (by assumption)) ?_)) (by repeat (first | exact w_nil | refine w_cons (Or.inl (y_m rfl)) ?_ | refine w_cons (Or.inr (by assumption)) ?_))
    have s : tx_s nd H sg (pr_t len.toInt.toNat) 0 := ⟨_, _, f.1, (y_ae f rfl).trans gs, hH.2.1 1539 _ rfl, by rw [et]; omega, hH.2.1 1538 _ rfl, rfl, hH.2.1 1540 _ rfl, Nat.zero_le _, tl.1⟩
    refine c_clear3 f.1 (fun H2 fr f2 g2 hf => ⟨fun n e => (by cases e), ?_⟩)
    exact T24 (y_sq (y_mo f rfl rfl) f2 rfl rfl) (tx_s_fr s f2 rfl rfl) g2 hf
end PPS3
end PT33icb
section PT33icc
/-! ===== v21: parseEvent of the class with saying 4 (laid by wip/tools/mk21c.py) ===== -/
section PEV4
variable {X : aX} {C S d : Nat} {K0 : Option Value → aH → Nat → Nat → Prop} {sg : List Int32} {t : Nat} {nd : Int32}
theorem c_evl4 (n0 : 0 ≤ nd.toInt) (n10 : nd.toInt ≤ 10) {pI : Int32} {pa : Nat} (hpa : pI.toInt = pa) (pa4 : pa < 4) : ∀ (m : Nat) (h : aH) (p : Nat) (oI : Int32) (o : Nat) (o4 : Option Value), tx_s nd h sg t p → oI.toInt = o → o ≤ 5 → t - p ≤ m → (∀ (b : Bool) (q : Nat) (H : aH), y_fr h H [1538] [46, 47] → tx_s nd H sg t q → pr_E (y_N sg) t nd.toInt false p o = (b, q) → K0 (some (.int (y_01 b))) H C S) → aOK s_P X (d + 2) a_m87 12 [some (.ref 14), some (.ref 45), some (.int pI), some (.int oI), o4] [] h C S K0 := by
  have c33 : ((Int8.ofInt 33).toInt32).toInt = 33 := by decide
  have c38 : ((Int8.ofInt 38).toInt32).toInt = 38 := by decide
  have c40 : ((Int8.ofInt 40).toInt32).toInt = 40 := by decide
  have c97 : ((Int8.ofInt 97).toInt32).toInt = 97 := by decide
  have c124 : ((Int8.ofInt 124).toInt32).toInt = 124 := by decide
  have c5 : (Int32.ofInt 5).toInt = 5 := by decide
  have z0 : (0 : Int32).toInt = 0 := by decide
  have cn : ((Int8.ofInt 97).toInt32 + nd).toInt = 97 + nd.toInt := by
    rw [Int32.toInt_add, c97]
    exact Int.bmod_eq_of_le (by omega) (by omega)
  intro m
  induction m with
  | zero =>
    intro h p oI o o4 s ho o5 hm hK
    obtain ⟨toI, atI, hr, a1, a2, a3, a4, a5, a6, pt, t40⟩ := id s
    refine w_go z_hl [12] [82] 30 hr ?_
    intro x hx _ _
    obtain rfl := y_fi a4 hx
    intro y hy _ _
    obtain rfl := y_fi a2 hy
    refine ⟨fun _ => ⟨by decide, fun H hH => ?_⟩, fun z => ?_⟩
    · have f : y_fr h H [] [] := y_st (y_rf hr) hH (by repeat (first | exact w_nil | refine w_cons (Or.inl (y_m rfl)) ?_ | refine w_cons (Or.inr (by assumption)) ?_)) (by repeat (first | exact w_nil | refine w_cons (Or.inl (y_m rfl)) ?_ | refine w_cons (Or.inr (by assumption)) ?_))
      have k0 : pr_k (y_N sg) t p = 0 := if_neg (by omega)
      exact hK false p H (y_mo f rfl rfl) (tx_s_fr s f rfl rfl) (pr_bad (by omega) (by omega) (fun w => by have := w.1; omega) (fun w => by have := w.1; omega))
    · have y1 : ¬ (toI.toInt ≤ atI.toInt) := y_cif z
      exfalso
      omega
  | succ m ih =>
    intro h p oI o o4 s ho o5 hm hK
    obtain ⟨toI, atI, hr, a1, a2, a3, a4, a5, a6, pt, t40⟩ := id s
    -- on to the next sign
    have T189 : ∀ {G : aH} {oJ : Int32} {q o' : Nat} {p4 : Option Value}, y_fr h G [1538] [46, 47] → tx_s nd G sg t q → p < q → q < t → oJ.toInt = o' → o' ≤ 5 → pr_E (y_N sg) t nd.toInt false p o = pr_E (y_N sg) t nd.toInt false (q + 1) o' → aOK s_P X (d + 2) a_m87 189 [some (.ref 14), some (.ref 45), some (.int pI), some (.int oJ), p4] [] G C S K0 := by
      intro G oJ q o' p4 e s2 pq qt hoJ o5' hE
      obtain ⟨toJ, atJ, -, b1, b2, b3, b4, b5, b6, -, -⟩ := id s2
      have inc : (atJ + Int32.ofInt 1).toInt = ((q + 1 : Nat) : Int) := by rw [y_inc (by omega), b5]; rfl
      refine w_go z_hl [12] [82] 30 e.1 ?_
      intro x hx _ _
      obtain rfl := y_fi b4 hx
      refine ⟨rfl, y_zini (by show 0 ≤ (atJ + Int32.ofInt 1).toInt; omega) (by show (atJ + Int32.ofInt 1).toInt ≤ 40; omega), fun H hH => ?_⟩
      have f : y_fr G H [1538] [] := y_st (y_mo (y_rf e.1) rfl rfl) hH (by repeat (first | exact w_nil | refine w_cons (Or.inl (y_m rfl)) ?_ | refine w_cons (Or.inr (by assumption)) ?_)) (by repeat (first | exact w_nil | refine w_cons (Or.inl (y_m rfl)) ?_ | refine w_cons (Or.inr (by assumption)) ?_))
      exact ih H (q + 1) _ o' _ (tx_s_at s2 f rfl (hH.2.1 1538 _ rfl) inc (by omega)) hoJ o5' (by omega) (fun b r H' f1 f2 f3 => hK b r H' (y_sq (y_sq e f rfl rfl) f1 rfl rfl) f2 (hE.trans f3))
    have T143 : ∀ {G : aH} {oJ cI : Int32} {q o' : Nat}, y_fr h G [1538] [46, 47] → tx_s nd G sg t q → p < q → q < t → oJ.toInt = o' → o' ≤ 5 → pr_E (y_N sg) t nd.toInt false p o = pr_E (y_N sg) t nd.toInt false (q + 1) o' → aOK s_P X (d + 2) a_m87 143 [some (.ref 14), some (.ref 45), some (.int pI), some (.int oJ), some (.int cI)] [] G C S K0 := by
      intro G oJ cI q o' e s2 pq qt hoJ o5' hE
      have f0 : y_fr G G [] [] := y_rf e.1
      have T168 : ∀ {G2 : aH}, y_fr G G2 [] [46] → aOK s_P X (d + 2) a_m87 168 [some (.ref 14), some (.ref 45), some (.int pI), some (.int oJ), some (.int cI)] [] G2 C S K0 := by
        intro G2 f
        refine w_go z_hl [189] [82] 40 f.1 ?_
        refine ⟨⟨by omega, by omega⟩, fun l hl len bb => ⟨fun _ => ⟨⟨by omega, by omega⟩, y_l32 _, fun H hH => ?_⟩, fun _ => ⟨⟨by omega, by omega⟩, y_l32 _, fun H hH => ?_⟩⟩⟩
        · have f2 : y_fr G H [] [46, 47] := y_st (y_mo f rfl rfl) hH (by repeat (first | exact w_nil | refine w_cons (Or.inl (y_m rfl)) ?_ | refine w_cons (Or.inr (by assumption)) ?_)) (by repeat (first | exact w_nil | refine w_cons (Or.inl (y_m rfl)) ?_ | refine w_cons (Or.inr (by assumption)) ?_))
          exact T189 (y_sq e (y_mo f2 rfl rfl : y_fr G H [1538] [46, 47]) rfl rfl) (tx_s_fr s2 f2 rfl rfl) pq qt hoJ o5' hE
        · have f2 : y_fr G H [] [46, 47] := y_st (y_mo f rfl rfl) hH (by repeat (first | exact w_nil | refine w_cons (Or.inl (y_m rfl)) ?_ | refine w_cons (Or.inr (by assumption)) ?_)) (by repeat (first | exact w_nil | refine w_cons (Or.inl (y_m rfl)) ?_ | refine w_cons (Or.inr (by assumption)) ?_))
          exact T189 (y_sq e (y_mo f2 rfl rfl : y_fr G H [1538] [46, 47]) rfl rfl) (tx_s_fr s2 f2 rfl rfl) pq qt hoJ o5' hE
      refine w_go z_hl [168, 189] [82] 40 e.1 ?_
      refine ⟨fun _ => fun H hH => ?_, fun _ => ⟨⟨by omega, by omega⟩, fun l hl len bb => ⟨fun _ => ⟨⟨by omega, by omega⟩, y_l32 _, fun H hH => ?_⟩, fun _ => ⟨⟨by omega, by omega⟩, y_l32 _, fun H hH => ?_⟩⟩⟩⟩
      · have f2 : y_fr G H [] [] := y_st f0 hH (by repeat (first | exact w_nil | refine w_cons (Or.inl (y_m rfl)) ?_ | refine w_cons (Or.inr (by assumption)) ?_)) (by repeat (first | exact w_nil | refine w_cons (Or.inl (y_m rfl)) ?_ | refine w_cons (Or.inr (by assumption)) ?_))
        exact T189 (y_sq e f2 rfl rfl) (tx_s_fr s2 f2 rfl rfl) pq qt hoJ o5' hE
      · exact T168 (y_st (y_mo f0 rfl rfl) hH (by repeat (first | exact w_nil | refine w_cons (Or.inl (y_m rfl)) ?_ | refine w_cons (Or.inr (by assumption)) ?_)) (by repeat (first | exact w_nil | refine w_cons (Or.inl (y_m rfl)) ?_ | refine w_cons (Or.inr (by assumption)) ?_)))
      · exact T168 (y_st (y_mo f0 rfl rfl) hH (by repeat (first | exact w_nil | refine w_cons (Or.inl (y_m rfl)) ?_ | refine w_cons (Or.inr (by assumption)) ?_)) (by repeat (first | exact w_nil | refine w_cons (Or.inl (y_m rfl)) ?_ | refine w_cons (Or.inr (by assumption)) ?_)))
    have T117 : ∀ {G : aH} {oJ cI : Int32} {q o' : Nat} {p4 : Option Value}, y_fr h G [1538] [] → tx_s nd G sg t q → p < q → oJ.toInt = o' → o' ≤ 5 → cI.toInt = pr_k (y_N sg) t q → pr_E (y_N sg) t nd.toInt false p o = pr_E (y_N sg) t nd.toInt true q o' → ¬ (pr_k (y_N sg) t q = 41 ∧ 0 < o') → aOK s_P X (d + 2) a_m87 117 [some (.ref 14), some (.ref 45), some (.int pI), some (.int oJ), p4] [.int cI] G C S K0 := by
      intro G oJ cI q o' p4 e s2 pq hoJ o5' hc hE h41
      have q40 := (tx_s_hr s2).2.1
      have f0 : y_fr G G [] [] := y_rf e.1
      refine w_go z_hl [143] [82] 40 e.1 ?_
      refine ⟨fun z => fun H hH => ?_, fun z => ⟨fun z2 => fun H hH => ?_, fun z2 => ⟨fun z3 => ⟨by decide, fun H hH => ?_⟩, fun z3 => ⟨by decide, fun H hH => ?_⟩⟩⟩⟩
      · have y1 : cI.toInt = ((Int8.ofInt 38).toInt32).toInt := (y_ci .eq _ _).mp z
        rw [c38, hc] at y1
        have f2 : y_fr G H [] [] := y_st f0 hH (by repeat (first | exact w_nil | refine w_cons (Or.inl (y_m rfl)) ?_ | refine w_cons (Or.inr (by assumption)) ?_)) (by repeat (first | exact w_nil | refine w_cons (Or.inl (y_m rfl)) ?_ | refine w_cons (Or.inr (by assumption)) ?_))
        exact T143 (y_mo (y_sq e f2 rfl rfl) rfl rfl) (tx_s_fr s2 f2 rfl rfl) pq (pr_k_t (by decide) y1) hoJ o5' (hE.trans (pr_op (by omega) (Or.inl y1)))
      · have y1 : cI.toInt = ((Int8.ofInt 124).toInt32).toInt := (y_ci .eq _ _).mp z2
        rw [c124, hc] at y1
        have f2 : y_fr G H [] [] := y_st f0 hH (by repeat (first | exact w_nil | refine w_cons (Or.inl (y_m rfl)) ?_ | refine w_cons (Or.inr (by assumption)) ?_)) (by repeat (first | exact w_nil | refine w_cons (Or.inl (y_m rfl)) ?_ | refine w_cons (Or.inr (by assumption)) ?_))
        exact T143 (y_mo (y_sq e f2 rfl rfl) rfl rfl) (tx_s_fr s2 f2 rfl rfl) pq (pr_k_t (by decide) y1) hoJ o5' (hE.trans (pr_op (by omega) (Or.inr y1)))
      · have y1 : ¬ (cI.toInt = ((Int8.ofInt 38).toInt32).toInt) := y_cif z
        have y2 : ¬ (cI.toInt = ((Int8.ofInt 124).toInt32).toInt) := y_cif z2
        have y3 : oJ.toInt ≠ (0 : Int32).toInt := (y_ci .ne _ _).mp z3
        rw [c38, hc] at y1
        rw [c124, hc] at y2
        rw [z0] at y3
        have f2 : y_fr G H [] [] := y_st f0 hH (by repeat (first | exact w_nil | refine w_cons (Or.inl (y_m rfl)) ?_ | refine w_cons (Or.inr (by assumption)) ?_)) (by repeat (first | exact w_nil | refine w_cons (Or.inl (y_m rfl)) ?_ | refine w_cons (Or.inr (by assumption)) ?_))
        refine hK false q H (y_mo (y_sq e f2 rfl rfl) rfl rfl) (tx_s_fr s2 f2 rfl rfl) (hE.trans ?_)
        rw [pr_end (by omega) h41 y1 y2, decide_eq_false (by omega)]
      · have y1 : ¬ (cI.toInt = ((Int8.ofInt 38).toInt32).toInt) := y_cif z
        have y2 : ¬ (cI.toInt = ((Int8.ofInt 124).toInt32).toInt) := y_cif z2
        have y3 : ¬ (oJ.toInt ≠ (0 : Int32).toInt) := y_cif z3
        rw [c38, hc] at y1
        rw [c124, hc] at y2
        rw [z0] at y3
        have f2 : y_fr G H [] [] := y_st f0 hH (by repeat (first | exact w_nil | refine w_cons (Or.inl (y_m rfl)) ?_ | refine w_cons (Or.inr (by assumption)) ?_)) (by repeat (first | exact w_nil | refine w_cons (Or.inl (y_m rfl)) ?_ | refine w_cons (Or.inr (by assumption)) ?_))
        refine hK true q H (y_mo (y_sq e f2 rfl rfl) rfl rfl) (tx_s_fr s2 f2 rfl rfl) (hE.trans ?_)
        rw [pr_end (by omega) h41 y1 y2, decide_eq_true (by omega)]
    have T112 : ∀ {G : aH} {oJ : Int32} {q o' : Nat} {p3 p4 : Option Value}, y_fr h G [1538] [] → tx_s nd G sg t q → p < q → oJ.toInt = o' → o' ≤ 5 → pr_E (y_N sg) t nd.toInt false p o = pr_E (y_N sg) t nd.toInt true q o' → ¬ (pr_k (y_N sg) t q = 41 ∧ 0 < o') → aOK s_P X (d + 2) a_m87 112 [some (.ref 14), some (.ref 45), some (.int pI), p3, p4] [.int oJ] G C S K0 := by
      intro G oJ q o' p3 p4 e s2 pq hoJ o5' hE h41
      refine w_go z_hl [143] [82] 20 e.1 ?_
      intro H hH
      have f2 : y_fr G H [] [] := y_st (y_rf e.1) hH (by repeat (first | exact w_nil | refine w_cons (Or.inl (y_m rfl)) ?_ | refine w_cons (Or.inr (by assumption)) ?_)) (by repeat (first | exact w_nil | refine w_cons (Or.inl (y_m rfl)) ?_ | refine w_cons (Or.inr (by assumption)) ?_))
      refine c_lkT (tx_s_fr s2 f2 rfl rfl) (fun r H2 f3 er => ⟨fun n e => (by cases e), ?_⟩)
      exact T117 (y_sq (y_sq e f2 rfl rfl) f3 rfl rfl) (tx_s_fr (tx_s_fr s2 f2 rfl rfl) f3 rfl rfl) pq hoJ o5' er hE h41
    have T97 : ∀ {G : aH} {cI : Int32}, y_fr h G [] [] → p < t → 97 ≤ pr_k (y_N sg) t p → pr_k (y_N sg) t p < 97 + nd.toInt → aOK s_P X (d + 2) a_m87 97 [some (.ref 14), some (.ref 45), some (.int pI), some (.int oI), some (.int cI)] [] G C S K0 := by
      intro G cI e ptt h97 h98
      have s2 := tx_s_fr s e rfl rfl
      have inc : (atI + Int32.ofInt 1).toInt = ((p + 1 : Nat) : Int) := by rw [y_inc (by omega), a5]; rfl
      refine w_go z_hl [12] [88] 30 e.1 ?_
      intro x hx _ _
      obtain rfl := y_fi ((y_fe e rfl).trans a4) hx
      refine ⟨rfl, y_zini (by show 0 ≤ (atI + Int32.ofInt 1).toInt; omega) (by show (atI + Int32.ofInt 1).toInt ≤ 40; omega), fun H hH => ?_⟩
      have f : y_fr G H [1538] [] := y_st (y_mo (y_rf e.1) rfl rfl) hH (by repeat (first | exact w_nil | refine w_cons (Or.inl (y_m rfl)) ?_ | refine w_cons (Or.inr (by assumption)) ?_)) (by repeat (first | exact w_nil | refine w_cons (Or.inl (y_m rfl)) ?_ | refine w_cons (Or.inr (by assumption)) ?_))
      have s3 := tx_s_at s2 f rfl (hH.2.1 1538 _ rfl) inc (by omega)
      obtain ⟨k1, k2, k3, k4, k5⟩ := pr_c_p (T := y_N sg) (n := nd.toInt) t40 o (p + 1) (by omega)
      refine c_closeBr (d := d) s3 ho o5 (fun r H2 f2 s4 er => ⟨fun n e => (by cases e), ?_⟩)
      exact T112 (y_sq (y_sq (y_mo e rfl rfl) f rfl rfl) f2 rfl rfl) s4 (by omega) er (by omega) ((pr_let (by omega) h97 h98).trans k4) k5
    have T76 : ∀ {G : aH} {cI : Int32}, y_fr h G [] [] → p < t → cI.toInt = pr_k (y_N sg) t p → pr_k (y_N sg) t p ≠ 33 → ¬ (pr_k (y_N sg) t p = 40 ∧ o < 5) → aOK s_P X (d + 2) a_m87 76 [some (.ref 14), some (.ref 45), some (.int pI), some (.int oI), some (.int cI)] [] G C S K0 := by
      intro G cI e ptt hc h33 h40
      have bad : ∀ {H : aH}, y_fr h H [] [] → ¬ (97 ≤ pr_k (y_N sg) t p ∧ pr_k (y_N sg) t p < 97 + nd.toInt) → K0 (some (.int (y_01 false))) H C S := fun f w => hK false p _ (y_mo f rfl rfl) (tx_s_fr s f rfl rfl) (pr_bad (by omega) h33 h40 w)
      refine w_go z_hl [97] [88] 30 e.1 ?_
      refine ⟨fun z => ⟨by decide, fun H hH => bad (y_st e hH (by repeat (first | exact w_nil | refine w_cons (Or.inl (y_m rfl)) ?_ | refine w_cons (Or.inr (by assumption)) ?_)) (by repeat (first | exact w_nil | refine w_cons (Or.inl (y_m rfl)) ?_ | refine w_cons (Or.inr (by assumption)) ?_))) (fun w => ?_)⟩, fun z => ?_⟩
      · have y1 : cI.toInt < ((Int8.ofInt 97).toInt32).toInt := (y_ci .lt _ _).mp z
        rw [c97, hc] at y1
        have := w.1
        omega
      · have y1 : ¬ (cI.toInt < ((Int8.ofInt 97).toInt32).toInt) := y_cif z
        rw [c97, hc] at y1
        intro x hx _ _
        obtain rfl := y_fi ((y_fe e rfl).trans a6) hx
        refine ⟨fun z2 => fun H hH => ?_, fun z2 => ⟨by decide, fun H hH => bad (y_st e hH (by repeat (first | exact w_nil | refine w_cons (Or.inl (y_m rfl)) ?_ | refine w_cons (Or.inr (by assumption)) ?_)) (by repeat (first | exact w_nil | refine w_cons (Or.inl (y_m rfl)) ?_ | refine w_cons (Or.inr (by assumption)) ?_))) (fun w => ?_)⟩⟩
        · have y2 : cI.toInt < ((Int8.ofInt 97).toInt32 + nd).toInt := (y_ci .lt _ _).mp z2
          rw [cn, hc] at y2
          exact T97 (y_st e hH (by repeat (first | exact w_nil | refine w_cons (Or.inl (y_m rfl)) ?_ | refine w_cons (Or.inr (by assumption)) ?_)) (by repeat (first | exact w_nil | refine w_cons (Or.inl (y_m rfl)) ?_ | refine w_cons (Or.inr (by assumption)) ?_))) ptt (by omega) y2
        · have y2 : ¬ (cI.toInt < ((Int8.ofInt 97).toInt32 + nd).toInt) := y_cif z2
          rw [cn, hc] at y2
          exact y2 w.2
    have T48 : ∀ {G : aH} {cI : Int32} (b : Bool), y_fr h G [] [] → p < t → cI.toInt = (if b then 40 else 33) → pr_E (y_N sg) t nd.toInt false p o = pr_E (y_N sg) t nd.toInt false (p + 1) (o + (if b then 1 else 0)) → o + (if b then 1 else 0) ≤ 5 → aOK s_P X (d + 2) a_m87 48 [some (.ref 14), some (.ref 45), some (.int pI), some (.int oI), some (.int cI)] [] G C S K0 := by
      intro G cI b e ptt hc hE o5'
      have s2 := tx_s_fr s e rfl rfl
      have inc : (atI + Int32.ofInt 1).toInt = ((p + 1 : Nat) : Int) := by rw [y_inc (by omega), a5]; rfl
      cases b with
      | true =>
        have hc' : cI.toInt = 40 := hc
        have ino : (oI + Int32.ofInt 1).toInt = ((o + 1 : Nat) : Int) := by rw [y_inc (by omega), ho]; rfl
        have o6 : o + 1 ≤ 5 := o5'
        refine w_go z_hl [12] [88] 40 e.1 ?_
        refine ⟨fun z => ?_, fun _ => ?_⟩
        · have y1 : cI.toInt ≠ ((Int8.ofInt 40).toInt32).toInt := (y_ci .ne _ _).mp z
          rw [c40] at y1
          exact absurd hc' y1
        · intro x hx _ _
          obtain rfl := y_fi ((y_fe e rfl).trans a4) hx
          refine ⟨rfl, y_zini (by show 0 ≤ (atI + Int32.ofInt 1).toInt; omega) (by show (atI + Int32.ofInt 1).toInt ≤ 40; omega), fun H hH => ?_⟩
          have f : y_fr G H [1538] [] := y_st (y_mo (y_rf e.1) rfl rfl) hH (by repeat (first | exact w_nil | refine w_cons (Or.inl (y_m rfl)) ?_ | refine w_cons (Or.inr (by assumption)) ?_)) (by repeat (first | exact w_nil | refine w_cons (Or.inl (y_m rfl)) ?_ | refine w_cons (Or.inr (by assumption)) ?_))
          exact ih H (p + 1) _ (o + 1) _ (tx_s_at s2 f rfl (hH.2.1 1538 _ rfl) inc (by omega)) ino o6 (by omega) (fun b r H' f1 f2 f3 => hK b r H' (y_sq (y_mo (y_sq (y_mo e rfl rfl) f rfl rfl : y_fr h H [1538] []) rfl rfl) f1 rfl rfl) f2 (hE.trans f3))
      | false =>
        have hc' : cI.toInt = 33 := hc
        have ino : (oI + Int32.ofInt 0).toInt = (o : Nat) := by rw [show Int32.ofInt 0 = (0 : Int32) by decide, Int32.add_zero]; exact ho
        refine w_go z_hl [12] [88] 40 e.1 ?_
        refine ⟨fun _ => ?_, fun z => ?_⟩
        · intro x hx _ _
          obtain rfl := y_fi ((y_fe e rfl).trans a4) hx
          refine ⟨rfl, y_zini (by show 0 ≤ (atI + Int32.ofInt 1).toInt; omega) (by show (atI + Int32.ofInt 1).toInt ≤ 40; omega), fun H hH => ?_⟩
          have f : y_fr G H [1538] [] := y_st (y_mo (y_rf e.1) rfl rfl) hH (by repeat (first | exact w_nil | refine w_cons (Or.inl (y_m rfl)) ?_ | refine w_cons (Or.inr (by assumption)) ?_)) (by repeat (first | exact w_nil | refine w_cons (Or.inl (y_m rfl)) ?_ | refine w_cons (Or.inr (by assumption)) ?_))
          exact ih H (p + 1) _ o _ (tx_s_at s2 f rfl (hH.2.1 1538 _ rfl) inc (by omega)) ino o5 (by omega) (fun b r H' f1 f2 f3 => hK b r H' (y_sq (y_mo (y_sq (y_mo e rfl rfl) f rfl rfl : y_fr h H [1538] []) rfl rfl) f1 rfl rfl) f2 (hE.trans f3))
        · have y1 : ¬ (cI.toInt ≠ ((Int8.ofInt 40).toInt32).toInt) := y_cif z
          rw [c40] at y1
          exfalso
          omega
    have T27 : ∀ {G : aH} {cI : Int32}, y_fr h G [] [] → p < t → cI.toInt = pr_k (y_N sg) t p → aOK s_P X (d + 2) a_m87 27 [some (.ref 14), some (.ref 45), some (.int pI), some (.int oI), o4] [.int cI] G C S K0 := by
      intro G cI e ptt hc
      refine w_go z_hl [48, 76] [88] 40 e.1 ?_
      refine ⟨fun z => fun H hH => ?_, fun z => ⟨fun z2 => fun H hH => ?_, fun z2 => ⟨fun z3 => fun H hH => ?_, fun z3 => fun H hH => ?_⟩⟩⟩
      · have y1 : cI.toInt = ((Int8.ofInt 33).toInt32).toInt := (y_ci .eq _ _).mp z
        rw [c33] at y1
        exact T48 false (y_st e hH (by repeat (first | exact w_nil | refine w_cons (Or.inl (y_m rfl)) ?_ | refine w_cons (Or.inr (by assumption)) ?_)) (by repeat (first | exact w_nil | refine w_cons (Or.inl (y_m rfl)) ?_ | refine w_cons (Or.inr (by assumption)) ?_))) ptt y1 (pr_bang (by omega) (hc.symm.trans y1)) o5
      · have y1 : ¬ (cI.toInt = ((Int8.ofInt 33).toInt32).toInt) := y_cif z
        have y2 : cI.toInt ≠ ((Int8.ofInt 40).toInt32).toInt := (y_ci .ne _ _).mp z2
        rw [c33, hc] at y1
        rw [c40, hc] at y2
        exact T76 (y_st e hH (by repeat (first | exact w_nil | refine w_cons (Or.inl (y_m rfl)) ?_ | refine w_cons (Or.inr (by assumption)) ?_)) (by repeat (first | exact w_nil | refine w_cons (Or.inl (y_m rfl)) ?_ | refine w_cons (Or.inr (by assumption)) ?_))) ptt hc y1 (fun w => y2 w.1)
      · have y1 : ¬ (cI.toInt = ((Int8.ofInt 33).toInt32).toInt) := y_cif z
        have y3 : (Int32.ofInt 5).toInt ≤ oI.toInt := (y_ci .ge _ _).mp z3
        rw [c33, hc] at y1
        rw [c5] at y3
        exact T76 (y_st e hH (by repeat (first | exact w_nil | refine w_cons (Or.inl (y_m rfl)) ?_ | refine w_cons (Or.inr (by assumption)) ?_)) (by repeat (first | exact w_nil | refine w_cons (Or.inl (y_m rfl)) ?_ | refine w_cons (Or.inr (by assumption)) ?_))) ptt hc y1 (fun w => by have := w.2; omega)
      · have y2 : ¬ (cI.toInt ≠ ((Int8.ofInt 40).toInt32).toInt) := y_cif z2
        have y3 : ¬ ((Int32.ofInt 5).toInt ≤ oI.toInt) := y_cif z3
        rw [c40] at y2
        rw [c5] at y3
        have y4 : cI.toInt = 40 := Decidable.not_not.mp y2
        exact T48 true (y_st e hH (by repeat (first | exact w_nil | refine w_cons (Or.inl (y_m rfl)) ?_ | refine w_cons (Or.inr (by assumption)) ?_)) (by repeat (first | exact w_nil | refine w_cons (Or.inl (y_m rfl)) ?_ | refine w_cons (Or.inr (by assumption)) ?_))) ptt y4 (pr_open (by omega) (hc.symm.trans y4) (by omega)) (by show o + 1 ≤ 5; omega)
    refine w_go z_hl [12] [82] 30 hr ?_
    intro x hx _ _
    obtain rfl := y_fi a4 hx
    intro y hy _ _
    obtain rfl := y_fi a2 hy
    refine ⟨fun z => ⟨by decide, fun H hH => ?_⟩, fun z => fun H hH => ?_⟩
    · have y1 : toI.toInt ≤ atI.toInt := (y_ci .ge _ _).mp z
      have f : y_fr h H [] [] := y_st (y_rf hr) hH (by repeat (first | exact w_nil | refine w_cons (Or.inl (y_m rfl)) ?_ | refine w_cons (Or.inr (by assumption)) ?_)) (by repeat (first | exact w_nil | refine w_cons (Or.inl (y_m rfl)) ?_ | refine w_cons (Or.inr (by assumption)) ?_))
      have k0 : pr_k (y_N sg) t p = 0 := if_neg (by omega)
      exact hK false p H (y_mo f rfl rfl) (tx_s_fr s f rfl rfl) (pr_bad (by omega) (by omega) (fun w => by have := w.1; omega) (fun w => by have := w.1; omega))
    · have y1 : ¬ (toI.toInt ≤ atI.toInt) := y_cif z
      have f : y_fr h H [] [] := y_st (y_rf hr) hH (by repeat (first | exact w_nil | refine w_cons (Or.inl (y_m rfl)) ?_ | refine w_cons (Or.inr (by assumption)) ?_)) (by repeat (first | exact w_nil | refine w_cons (Or.inl (y_m rfl)) ?_ | refine w_cons (Or.inr (by assumption)) ?_))
      refine c_lkT (tx_s_fr s f rfl rfl) (fun r H2 f2 er => ⟨fun n e => (by cases e), ?_⟩)
      exact T27 (y_sq f f2 rfl rfl) (by omega) er
theorem c_ev4 {h : aH} {p : Nat} (n0 : 0 ≤ nd.toInt) (n10 : nd.toInt ≤ 10) {pI : Int32} {pa : Nat} (hpa : pI.toInt = pa) (pa4 : pa < 4) (s : tx_s nd h sg t p) {fr : List Int32} (gf : w_a h 45 = some (0, .inl fr)) (hK : ∀ (b : Bool) (q : Nat) (aI : Int32) (H : aH), y_fr h H [1538] [45, 46, 47] → tx_s nd H sg t q → pr_E (y_N sg) t nd.toInt false p 0 = (b, q) → w_a H 45 = some (0, .inl (fr.set pa aI)) → 0 ≤ aI.toInt → K0 (some (.int (y_01 b))) H C S) : aOK s_P X (d + 2) a_m87 0 [some (.ref 14), some (.ref 45), some (.int pI), none, none] [] h C S K0 := by
  obtain ⟨toI, atI, hr, a1, a2, a3, a4, a5, a6, pt, t40⟩ := id s
  have cp := y_cl1 hpa
  refine w_go z_hl [12] [] 30 hr ?_
  intro x hx _ _
  obtain rfl := y_fi a4 hx
  refine ⟨⟨by omega, by omega⟩, ⟨by omega, by omega⟩, fun l hl len bb => fun H hH => ?_⟩
  obtain rfl := y_ai gf hl
  have w := hH.2.2.1 45 _ rfl
  rw [cp] at w
  have f : y_fr h H [] [45] := y_st (y_mo (y_rf hr) rfl rfl) hH (by repeat (first | exact w_nil | refine w_cons (Or.inl (y_m rfl)) ?_ | refine w_cons (Or.inr (by assumption)) ?_)) (by repeat (first | exact w_nil | refine w_cons (Or.inl (y_m rfl)) ?_ | refine w_cons (Or.inr (by assumption)) ?_))
  exact c_evl4 (d := d) n0 n10 hpa pa4 40 H p _ 0 _ (tx_s_fr s f rfl rfl) (by decide) (by decide) (by omega) (fun b q H' f1 f2 f3 => hK b q atI H' (y_sq (y_mo f rfl rfl) f1 rfl rfl) f2 f3 ((y_ae f1 rfl).trans w) (by omega))
end PEV4
end PT33icc
section PT33icd
/-! ===== v21: parseGiven, parseRate, parseTerm of the class with saying 4 (laid by wip/tools/mk21d.py) ===== -/
section PPT4
variable {X : aX} {C S d : Nat} {K0 : Option Value → aH → Nat → Nat → Prop} {sg : List Int32} {t p : Nat} {nd : Int32} {h : aH}
theorem c_gv4 (n0 : 0 ≤ nd.toInt) (n10 : nd.toInt ≤ 10) {sI : Int32} {sd : Nat} (hs : sI.toInt = sd) (hs2 : sd < 2) (s : tx_s nd h sg t p) {fr : List Int32} (gf : w_a h 45 = some (0, .inl fr)) (hK : ∀ (b : Bool) (q k : Nat) (H : aH) (fr' : List Int32), y_fr h H [1538] [45, 46, 47] → tx_s nd H sg t q → pr_gv (y_N sg) t nd.toInt p = (b, q, k) → w_a H 45 = some (0, .inl fr') → tx_f fr fr' sd k → K0 (some (.int (y_01 b))) H C S) : aOK s_P X (d + 3) a_m86 0 [some (.ref 14), some (.ref 45), some (.int sI)] [] h C S K0 := by
  obtain ⟨toI, atI, hr, a1, a2, a3, a4, a5, a6, pt, t40⟩ := id s
  obtain ⟨fr0, f1, fl, -⟩ := c_arr hr (ob := 45) (n := 4) (lo := -1) (hi := 40) rfl
  obtain rfl := y_ai gf f1
  have c47 : ((Int8.ofInt 47).toInt32).toInt = 47 := by decide
  have m1 : (Int32.ofInt 2 * sI).toInt = ((2 * sd : Nat) : Int) := y_mulS (m := 2) _ (by decide) hs rfl (by omega)
  have m2 : (Int32.ofInt 2 * sI + Int32.ofInt 1).toInt = ((2 * sd + 1 : Nat) : Int) := y_addS _ m1 (n := 1) (by decide) rfl (by omega)
  have T44 : ∀ {G : aH} {b : Bool} {q k : Nat} {fr' : List Int32}, y_fr h G [1538] [45, 46, 47] → tx_s nd G sg t q → pr_gv (y_N sg) t nd.toInt p = (b, q, k) → w_a G 45 = some (0, .inl fr') → tx_f fr fr' sd k → aOK s_P X (d + 3) a_m86 44 [some (.ref 14), some (.ref 45), some (.int sI)] [.int (y_01 b)] G C S K0 := by
    intro G b q k fr' e s2 hg g2 hf
    refine w_go z_hl [] [] 20 e.1 ?_
    refine ⟨y_01b b, fun H hH => ?_⟩
    have f : y_fr G H [] [] := y_st (y_rf e.1) hH (by repeat (first | exact w_nil | refine w_cons (Or.inl (y_m rfl)) ?_ | refine w_cons (Or.inr (by assumption)) ?_)) (by repeat (first | exact w_nil | refine w_cons (Or.inl (y_m rfl)) ?_ | refine w_cons (Or.inr (by assumption)) ?_))
    exact hK b q k H fr' (y_sq e f rfl rfl) (tx_s_fr s2 f rfl rfl) hg ((y_ae f rfl).trans g2) hf
  have T24 : ∀ {G : aH} {q : Nat} {aI : Int32}, y_fr h G [1538] [45, 46, 47] → tx_s nd G sg t q → q < t → pr_E (y_N sg) t nd.toInt false p 0 = (true, q) → pr_k (y_N sg) t q = 47 → w_a G 45 = some (0, .inl (fr.set (2 * sd) aI)) → 0 ≤ aI.toInt → aOK s_P X (d + 3) a_m86 24 [some (.ref 14), some (.ref 45), some (.int sI)] [] G C S K0 := by
    intro G q aI e s2 qt hE h47 g2 ha
    obtain ⟨toJ, atJ, -, b1, b2, b3, b4, b5, b6, -, -⟩ := id s2
    have inc : (atJ + Int32.ofInt 1).toInt = ((q + 1 : Nat) : Int) := by rw [y_inc (by omega), b5]; rfl
    refine w_go z_hl [] [87] 30 e.1 ?_
    intro x hx _ _
    obtain rfl := y_fi b4 hx
    refine ⟨rfl, y_zini (by show 0 ≤ (atJ + Int32.ofInt 1).toInt; omega) (by show (atJ + Int32.ofInt 1).toInt ≤ 40; omega), fun H hH => ?_⟩
    have f : y_fr G H [1538] [] := y_st (y_mo (y_rf e.1) rfl rfl) hH (by repeat (first | exact w_nil | refine w_cons (Or.inl (y_m rfl)) ?_ | refine w_cons (Or.inr (by assumption)) ?_)) (by repeat (first | exact w_nil | refine w_cons (Or.inl (y_m rfl)) ?_ | refine w_cons (Or.inr (by assumption)) ?_))
    refine c_ev4 (d := d) n0 n10 m2 (by omega) (tx_s_at s2 f rfl (hH.2.1 1538 _ rfl) inc (by omega)) ((y_ae f rfl).trans g2) (fun b r aJ H2 f2 s3 hE2 g3 ha2 => ⟨fun n e => (by cases e), ?_⟩)
    exact T44 (k := 2) (y_sq (y_sq e f rfl rfl) f2 rfl rfl) s3 (pr_gv_2 hE h47 hE2) g3 (tx_f_2 fl ha ha2 hs2)
  have T17 : ∀ {G : aH} {q : Nat} {aI cI : Int32}, y_fr h G [1538] [45, 46, 47] → tx_s nd G sg t q → cI.toInt = pr_k (y_N sg) t q → pr_E (y_N sg) t nd.toInt false p 0 = (true, q) → w_a G 45 = some (0, .inl (fr.set (2 * sd) aI)) → 0 ≤ aI.toInt → aOK s_P X (d + 3) a_m86 17 [some (.ref 14), some (.ref 45), some (.int sI)] [.int cI] G C S K0 := by
    intro G q aI cI e s2 hc hE g2 ha
    refine w_go z_hl [24] [] 30 e.1 ?_
    refine ⟨fun z => fun H hH => ?_, fun z => ⟨by decide, fun H hH => ?_⟩⟩
    · have y1 : cI.toInt = ((Int8.ofInt 47).toInt32).toInt := (y_ci .eq _ _).mp z
      rw [c47, hc] at y1
      have f : y_fr G H [] [] := y_st (y_rf e.1) hH (by repeat (first | exact w_nil | refine w_cons (Or.inl (y_m rfl)) ?_ | refine w_cons (Or.inr (by assumption)) ?_)) (by repeat (first | exact w_nil | refine w_cons (Or.inl (y_m rfl)) ?_ | refine w_cons (Or.inr (by assumption)) ?_))
      exact T24 (y_sq e f rfl rfl) (tx_s_fr s2 f rfl rfl) (pr_k_t (by decide) y1) hE y1 ((y_ae f rfl).trans g2) ha
    · have y1 : ¬ (cI.toInt = ((Int8.ofInt 47).toInt32).toInt) := y_cif z
      rw [c47, hc] at y1
      have f : y_fr G H [] [] := y_st (y_rf e.1) hH (by repeat (first | exact w_nil | refine w_cons (Or.inl (y_m rfl)) ?_ | refine w_cons (Or.inr (by assumption)) ?_)) (by repeat (first | exact w_nil | refine w_cons (Or.inl (y_m rfl)) ?_ | refine w_cons (Or.inr (by assumption)) ?_))
      exact hK true q 1 H _ (y_sq e f rfl rfl) (tx_s_fr s2 f rfl rfl) (pr_gv_1 hE y1) ((y_ae f rfl).trans g2) (tx_f_1 fl ha hs2)
  have T8 : ∀ {G : aH} {q : Nat} {aI : Int32} (b : Bool), y_fr h G [1538] [45, 46, 47] → tx_s nd G sg t q → pr_E (y_N sg) t nd.toInt false p 0 = (b, q) → w_a G 45 = some (0, .inl (fr.set (2 * sd) aI)) → 0 ≤ aI.toInt → aOK s_P X (d + 3) a_m86 8 [some (.ref 14), some (.ref 45), some (.int sI)] [.int (y_01 b)] G C S K0 := by
    intro G q aI b e s2 hE g2 ha
    cases b with
    | true =>
      refine w_go z_hl [24] [82] 30 e.1 ?_
      refine ⟨fun _ => fun H hH => ?_, fun z => absurd z (by decide)⟩
      have f : y_fr G H [] [] := y_st (y_rf e.1) hH (by repeat (first | exact w_nil | refine w_cons (Or.inl (y_m rfl)) ?_ | refine w_cons (Or.inr (by assumption)) ?_)) (by repeat (first | exact w_nil | refine w_cons (Or.inl (y_m rfl)) ?_ | refine w_cons (Or.inr (by assumption)) ?_))
      refine c_lkT (tx_s_fr s2 f rfl rfl) (fun r H2 f2 er => ⟨fun n e => (by cases e), ?_⟩)
      exact T17 (y_sq (y_sq e f rfl rfl) f2 rfl rfl) (tx_s_fr (tx_s_fr s2 f rfl rfl) f2 rfl rfl) er hE ((y_ae f2 rfl).trans ((y_ae f rfl).trans g2)) ha
    | false =>
      refine w_go z_hl [24] [82] 30 e.1 ?_
      refine ⟨fun z => absurd z (by decide), fun _ => ⟨by decide, fun H hH => ?_⟩⟩
      have f : y_fr G H [] [] := y_st (y_rf e.1) hH (by repeat (first | exact w_nil | refine w_cons (Or.inl (y_m rfl)) ?_ | refine w_cons (Or.inr (by assumption)) ?_)) (by repeat (first | exact w_nil | refine w_cons (Or.inl (y_m rfl)) ?_ | refine w_cons (Or.inr (by assumption)) ?_))
      exact hK false q 1 H _ (y_sq e f rfl rfl) (tx_s_fr s2 f rfl rfl) (pr_gv_n hE) ((y_ae f rfl).trans g2) (tx_f_1 fl ha hs2)
  refine w_go z_hl [] [87] 30 hr ?_
  intro H hH
  have f : y_fr h H [] [] := y_st (y_rf hr) hH (by repeat (first | exact w_nil | refine w_cons (Or.inl (y_m rfl)) ?_ | refine w_cons (Or.inr (by assumption)) ?_)) (by repeat (first | exact w_nil | refine w_cons (Or.inl (y_m rfl)) ?_ | refine w_cons (Or.inr (by assumption)) ?_))
  refine c_ev4 (d := d) n0 n10 m1 (by omega) (tx_s_fr s f rfl rfl) ((y_ae f rfl).trans gf) (fun b q aI H2 f2 s3 hE g3 ha => ⟨fun n e => (by cases e), ?_⟩)
  exact T8 b (y_sq (y_mo f rfl rfl) f2 rfl rfl) s3 hE g3 ha
theorem c_rt4 {sI : Int32} {sd : Nat} (hs : sI.toInt = sd) (hs2 : sd < 2) (s : tx_s nd h sg t p) (hK : ∀ (b : Bool) (q : Nat) (H : aH), y_fr h H [1538] [48, 49] → tx_s nd H sg t q → pr_rt (y_N sg) t p = (b, q, 0) → K0 (some (.int (y_01 b))) H C S) : aOK s_P X (d + 2) a_m84 0 [some (.ref 14), some (.ref 45), some (.int sI)] [] h C S K0 := by
  obtain ⟨toI, atI, hr, a1, a2, a3, a4, a5, a6, pt, t40⟩ := id s
  have c58 : ((Int8.ofInt 58).toInt32).toInt = 58 := by decide
  have c48 : ((Int8.ofInt 48).toInt32).toInt = 48 := by decide
  have T61 : ∀ {G : aH} {q : Nat} {r : Int32}, y_fr h G [1538] [48] → tx_s nd G sg t q → pr_rt (y_N sg) t p = (true, q, 0) → aOK s_P X (d + 2) a_m84 61 [some (.ref 14), some (.ref 45), some (.int sI)] [.int r, .int sI, .ref 51] G C S K0 := by
    intro G q r e s2 hg
    refine w_go z_hl [] [] 20 e.1 ?_
    refine ⟨⟨by omega, by omega⟩, y_l32 _, fun l hl len bb => ⟨by decide, fun H hH => ?_⟩⟩
    have f : y_fr G H [] [49] := y_st (y_mo (y_rf e.1) rfl rfl) hH (by repeat (first | exact w_nil | refine w_cons (Or.inl (y_m rfl)) ?_ | refine w_cons (Or.inr (by assumption)) ?_)) (by repeat (first | exact w_nil | refine w_cons (Or.inl (y_m rfl)) ?_ | refine w_cons (Or.inr (by assumption)) ?_))
    exact hK true q H (y_sq (y_mo e rfl rfl) f rfl rfl) (tx_s_fr s2 f rfl rfl) hg
  have T45 : ∀ {G : aH} {cI : Int32}, y_fr h G [1538] [48] → tx_s nd G sg t (pr_dq (y_N sg) t 8 p + 1) → pr_k (y_N sg) t (pr_dq (y_N sg) t 8 p) = 58 → pr_dg (y_N sg) t (pr_dq (y_N sg) t 8 p + 1) → cI.toInt = pr_k (y_N sg) t (pr_dq (y_N sg) t 8 p + 1) → aOK s_P X (d + 2) a_m84 45 [some (.ref 14), some (.ref 45), some (.int sI)] [.int cI] G C S K0 := by
    intro G cI e s2 h58 hd hc
    have hd1 := hd.1
    have hd2 := hd.2
    refine w_go z_hl [] [85] 30 e.1 ?_
    refine ⟨fun z => fun H hH => ?_, fun z => ⟨by decide, fun H hH => ?_⟩⟩
    · have y1 : cI.toInt ≠ ((Int8.ofInt 48).toInt32).toInt := (y_ci .ne _ _).mp z
      rw [c48, hc] at y1
      have f : y_fr G H [] [] := y_st (y_rf e.1) hH (by repeat (first | exact w_nil | refine w_cons (Or.inl (y_m rfl)) ?_ | refine w_cons (Or.inr (by assumption)) ?_)) (by repeat (first | exact w_nil | refine w_cons (Or.inl (y_m rfl)) ?_ | refine w_cons (Or.inr (by assumption)) ?_))
      refine c_number (d := d) (tx_s_fr s2 f rfl rfl) (fun r H2 f2 s3 => ⟨fun n e => (by cases e), ?_⟩)
      exact T61 (y_sq (y_sq e f rfl rfl) f2 rfl rfl) s3 (pr_rt_1 h58 ⟨by omega, hd2⟩)
    · have y1 : ¬ (cI.toInt ≠ ((Int8.ofInt 48).toInt32).toInt) := y_cif z
      rw [c48, hc] at y1
      have f : y_fr G H [] [] := y_st (y_rf e.1) hH (by repeat (first | exact w_nil | refine w_cons (Or.inl (y_m rfl)) ?_ | refine w_cons (Or.inr (by assumption)) ?_)) (by repeat (first | exact w_nil | refine w_cons (Or.inl (y_m rfl)) ?_ | refine w_cons (Or.inr (by assumption)) ?_))
      exact hK false _ H (y_mo (y_sq e f rfl rfl) rfl rfl) (tx_s_fr s2 f rfl rfl) (pr_rt_0 h58 (fun w => by have := w.1; omega))
  have T38 : ∀ {G : aH} (b : Bool), y_fr h G [1538] [48] → tx_s nd G sg t (pr_dq (y_N sg) t 8 p + 1) → pr_k (y_N sg) t (pr_dq (y_N sg) t 8 p) = 58 → (b = true → pr_dg (y_N sg) t (pr_dq (y_N sg) t 8 p + 1)) → (b = false → ¬ pr_dg (y_N sg) t (pr_dq (y_N sg) t 8 p + 1)) → aOK s_P X (d + 2) a_m84 38 [some (.ref 14), some (.ref 45), some (.int sI)] [.int (y_01 b)] G C S K0 := by
    intro G b e s2 h58 hy hn
    cases b with
    | true =>
      refine w_go z_hl [] [82] 30 e.1 ?_
      refine ⟨fun z => absurd z (by decide), fun _ => fun H hH => ?_⟩
      have f : y_fr G H [] [] := y_st (y_rf e.1) hH (by repeat (first | exact w_nil | refine w_cons (Or.inl (y_m rfl)) ?_ | refine w_cons (Or.inr (by assumption)) ?_)) (by repeat (first | exact w_nil | refine w_cons (Or.inl (y_m rfl)) ?_ | refine w_cons (Or.inr (by assumption)) ?_))
      refine c_lkT (tx_s_fr s2 f rfl rfl) (fun r H2 f2 er => ⟨fun n e => (by cases e), ?_⟩)
      exact T45 (y_sq (y_sq e f rfl rfl) f2 rfl rfl) (tx_s_fr (tx_s_fr s2 f rfl rfl) f2 rfl rfl) h58 (hy rfl) er
    | false =>
      refine w_go z_hl [] [82] 30 e.1 ?_
      refine ⟨fun _ => ⟨by decide, fun H hH => ?_⟩, fun z => absurd z (by decide)⟩
      have f : y_fr G H [] [] := y_st (y_rf e.1) hH (by repeat (first | exact w_nil | refine w_cons (Or.inl (y_m rfl)) ?_ | refine w_cons (Or.inr (by assumption)) ?_)) (by repeat (first | exact w_nil | refine w_cons (Or.inl (y_m rfl)) ?_ | refine w_cons (Or.inr (by assumption)) ?_))
      exact hK false _ H (y_mo (y_sq e f rfl rfl) rfl rfl) (tx_s_fr s2 f rfl rfl) (pr_rt_0 h58 (fun w => hn rfl ⟨by have := w.1; omega, w.2⟩))
  have T35 : ∀ {G : aH} {cI : Int32}, y_fr h G [1538] [48] → tx_s nd G sg t (pr_dq (y_N sg) t 8 p + 1) → pr_k (y_N sg) t (pr_dq (y_N sg) t 8 p) = 58 → cI.toInt = pr_k (y_N sg) t (pr_dq (y_N sg) t 8 p + 1) → aOK s_P X (d + 2) a_m84 35 [some (.ref 14), some (.ref 45), some (.int sI)] [.int cI] G C S K0 := by
    intro G cI e s2 h58 hc
    refine w_go z_hl [] [83] 20 e.1 ?_
    intro H hH
    have f : y_fr G H [] [] := y_st (y_rf e.1) hH (by repeat (first | exact w_nil | refine w_cons (Or.inl (y_m rfl)) ?_ | refine w_cons (Or.inr (by assumption)) ?_)) (by repeat (first | exact w_nil | refine w_cons (Or.inl (y_m rfl)) ?_ | refine w_cons (Or.inr (by assumption)) ?_))
    refine c_isDg (c := cI) f.1 (fun H2 f2 w => ⟨fun n e => (by cases e), ?_⟩) (fun H2 f2 w => ⟨fun n e => (by cases e), ?_⟩)
    · exact T38 true (y_sq (y_sq e f rfl rfl) f2 rfl rfl) (tx_s_fr (tx_s_fr s2 f rfl rfl) f2 rfl rfl) h58 (fun _ => ⟨by omega, by omega⟩) (fun z => absurd z (by decide))
    · exact T38 false (y_sq (y_sq e f rfl rfl) f2 rfl rfl) (tx_s_fr (tx_s_fr s2 f rfl rfl) f2 rfl rfl) h58 (fun z => absurd z (by decide)) (fun _ z => w ⟨by have := z.1; omega, by have := z.2; omega⟩)
  have T14 : ∀ {G : aH} {cI : Int32}, y_fr h G [1538] [48] → tx_s nd G sg t (pr_dq (y_N sg) t 8 p) → cI.toInt = pr_k (y_N sg) t (pr_dq (y_N sg) t 8 p) → aOK s_P X (d + 2) a_m84 14 [some (.ref 14), some (.ref 45), some (.int sI)] [.int cI] G C S K0 := by
    intro G cI e s2 hc
    obtain ⟨toJ, atJ, -, b1, b2, b3, b4, b5, b6, qt, -⟩ := id s2
    refine w_go z_hl [] [82] 40 e.1 ?_
    refine ⟨fun z => ?_, fun z => ⟨by decide, fun H hH => ?_⟩⟩
    · have y1 : cI.toInt = ((Int8.ofInt 58).toInt32).toInt := (y_ci .eq _ _).mp z
      rw [c58, hc] at y1
      have qt' := pr_k_t (by decide) y1
      have inc : (atJ + Int32.ofInt 1).toInt = ((pr_dq (y_N sg) t 8 p + 1 : Nat) : Int) := by rw [y_inc (by omega), b5]; rfl
      intro x hx _ _
      obtain rfl := y_fi b4 hx
      refine ⟨rfl, y_zini (by show 0 ≤ (atJ + Int32.ofInt 1).toInt; omega) (by show (atJ + Int32.ofInt 1).toInt ≤ 40; omega), fun H hH => ?_⟩
      have f : y_fr G H [1538] [] := y_st (y_mo (y_rf e.1) rfl rfl) hH (by repeat (first | exact w_nil | refine w_cons (Or.inl (y_m rfl)) ?_ | refine w_cons (Or.inr (by assumption)) ?_)) (by repeat (first | exact w_nil | refine w_cons (Or.inl (y_m rfl)) ?_ | refine w_cons (Or.inr (by assumption)) ?_))
      have s3 := tx_s_at s2 f rfl (hH.2.1 1538 _ rfl) inc (by omega)
      refine c_lkT s3 (fun r H2 f2 er => ⟨fun n e => (by cases e), ?_⟩)
      exact T35 (y_sq (y_sq e f rfl rfl) f2 rfl rfl) (tx_s_fr s3 f2 rfl rfl) y1 er
    · have y1 : ¬ (cI.toInt = ((Int8.ofInt 58).toInt32).toInt) := y_cif z
      rw [c58, hc] at y1
      have f : y_fr G H [] [] := y_st (y_rf e.1) hH (by repeat (first | exact w_nil | refine w_cons (Or.inl (y_m rfl)) ?_ | refine w_cons (Or.inr (by assumption)) ?_)) (by repeat (first | exact w_nil | refine w_cons (Or.inl (y_m rfl)) ?_ | refine w_cons (Or.inr (by assumption)) ?_))
      exact hK false _ H (y_mo (y_sq e f rfl rfl) rfl rfl) (tx_s_fr s2 f rfl rfl) (pr_rt_n y1)
  have T9 : ∀ {G : aH} {r : Int32}, y_fr h G [1538] [] → tx_s nd G sg t (pr_dq (y_N sg) t 8 p) → aOK s_P X (d + 2) a_m84 9 [some (.ref 14), some (.ref 45), some (.int sI)] [.int r, .int sI, .ref 50] G C S K0 := by
    intro G r e s2
    refine w_go z_hl [] [82] 30 e.1 ?_
    refine ⟨⟨by omega, by omega⟩, y_l32 _, fun l hl len bb => fun H hH => ?_⟩
    have f : y_fr G H [] [48] := y_st (y_mo (y_rf e.1) rfl rfl) hH (by repeat (first | exact w_nil | refine w_cons (Or.inl (y_m rfl)) ?_ | refine w_cons (Or.inr (by assumption)) ?_)) (by repeat (first | exact w_nil | refine w_cons (Or.inl (y_m rfl)) ?_ | refine w_cons (Or.inr (by assumption)) ?_))
    refine c_lkT (tx_s_fr s2 f rfl rfl) (fun r H2 f2 er => ⟨fun n e => (by cases e), ?_⟩)
    exact T14 (y_sq (y_sq (y_mo e rfl rfl) f rfl rfl) f2 rfl rfl) (tx_s_fr (tx_s_fr s2 f rfl rfl) f2 rfl rfl) er
  refine w_go z_hl [] [85] 30 hr ?_
  intro H hH
  have f : y_fr h H [] [] := y_st (y_rf hr) hH (by repeat (first | exact w_nil | refine w_cons (Or.inl (y_m rfl)) ?_ | refine w_cons (Or.inr (by assumption)) ?_)) (by repeat (first | exact w_nil | refine w_cons (Or.inl (y_m rfl)) ?_ | refine w_cons (Or.inr (by assumption)) ?_))
  refine c_number (d := d) (tx_s_fr s f rfl rfl) (fun r H2 f2 s3 => ⟨fun n e => (by cases e), ?_⟩)
  exact T9 (y_sq (y_mo f rfl rfl) f2 rfl rfl) s3
end PPT4
end PT33icd
section PT33ice
/-! ===== v21: clear, parseTerm, parseFirst, parseSecond of the class with saying 4 (laid by wip/tools/mk21e.py) ===== -/
section PFS4
variable {X : aX} {C S d : Nat} {K0 : Option Value → aH → Nat → Nat → Prop} {sg : List Int32} {t p : Nat} {nd : Int32} {h : aH}
theorem c_clearl4 : ∀ (m : Nat) (h : aH) (iI : Int32) (i : Nat) (fr : List Int32), w_hr z_D h → iI.toInt = i → i + m = 4 → w_a h 45 = some (0, .inl fr) → fr.length = 4 → (∀ j, j < i → y_N fr j = -1) → (∀ (H : aH) (fr' : List Int32), y_fr h H [] [45, 46, 47] → w_a H 45 = some (0, .inl fr') → (∀ j, j < 4 → y_N fr' j = -1) → K0 none H C S) → aOK s_P X d a_m79 13 [some (.ref 45), some (.int iI)] [] h C S K0 := by
  have c4 : (Int32.ofInt 4).toInt = 4 := by decide
  intro m
  induction m with
  | zero =>
    intro h iI i fr hr hi hm g len hf hK
    have ei : i = 4 := by omega
    rw [ei] at hf
    refine w_go z_hl [13] [] 30 hr ?_
    refine ⟨fun _ => fun H hH => ?_, fun z => ?_⟩
    · have f : y_fr h H [] [] := y_st (y_rf hr) hH (by repeat (first | exact w_nil | refine w_cons (Or.inl (y_m rfl)) ?_ | refine w_cons (Or.inr (by assumption)) ?_)) (by repeat (first | exact w_nil | refine w_cons (Or.inl (y_m rfl)) ?_ | refine w_cons (Or.inr (by assumption)) ?_))
      exact hK H fr (y_mo f rfl rfl) ((y_ae f rfl).trans g) hf
    · have y1 : ¬ ((Int32.ofInt 4).toInt ≤ iI.toInt) := y_cif z
      rw [c4] at y1
      exfalso
      omega
  | succ m ih =>
    intro h iI i fr hr hi hm g len hf hK
    have ink : (iI + Int32.ofInt 1).toInt = ((i + 1 : Nat) : Int) := by rw [y_inc (by omega), hi]; rfl
    have ci := y_cl1 hi
    refine w_go z_hl [13] [] 60 hr ?_
    refine ⟨fun z => ?_, fun z => ?_⟩
    · have y1 : (Int32.ofInt 4).toInt ≤ iI.toInt := (y_ci .ge _ _).mp z
      rw [c4] at y1
      exfalso
      omega
    · refine ⟨⟨by omega, by omega⟩, by decide, fun l hl len1 bb => ?_⟩
      obtain rfl := y_ai g hl
      refine ⟨⟨by omega, by omega⟩, y_l32 _, fun l2 hl2 len2 bb2 => ⟨⟨by omega, by omega⟩, y_l32 _, fun l3 hl3 len3 bb3 => fun H hH => ?_⟩⟩
      have w := hH.2.2.1 45 _ rfl
      rw [ci] at w
      have f : y_fr h H [] [45, 46, 47] := y_st (y_mo (y_rf hr) rfl rfl) hH (by repeat (first | exact w_nil | refine w_cons (Or.inl (y_m rfl)) ?_ | refine w_cons (Or.inr (by assumption)) ?_)) (by repeat (first | exact w_nil | refine w_cons (Or.inl (y_m rfl)) ?_ | refine w_cons (Or.inr (by assumption)) ?_))
      refine ih H _ (i + 1) _ f.1 ink (by omega) w (by rw [List.length_set]; exact len) (fun j hj => ?_) (fun H' fr' f1 f2 f3 => hK H' fr' (y_sq f f1 rfl rfl) f2 f3)
      rw [y_Nset (by omega)]
      by_cases y : j = i
      · rw [if_pos y]
        decide
      · rw [if_neg y]
        exact hf j (by omega)
theorem c_clear4 (hr : w_hr z_D h) (hK : ∀ (H : aH) (fr : List Int32), y_fr h H [5505, 5506] [45, 46, 47] → w_a H 45 = some (0, .inl fr) → (∀ j, j < 4 → y_N fr j = -1) → K0 none H C S) : aOK s_P X d a_m79 0 [some (.ref 45), none] [] h C S K0 := by
  refine w_go z_hl [13] [] 30 hr ?_
  refine ⟨rfl, y_zini (by decide) (by decide), rfl, y_zini (by decide) (by decide), fun H hH => ?_⟩
  have f : y_fr h H [5505, 5506] [] := y_st (y_mo (y_rf hr) rfl rfl) hH (by repeat (first | exact w_nil | refine w_cons (Or.inl (y_m rfl)) ?_ | refine w_cons (Or.inr (by assumption)) ?_)) (by repeat (first | exact w_nil | refine w_cons (Or.inl (y_m rfl)) ?_ | refine w_cons (Or.inr (by assumption)) ?_))
  obtain ⟨fr, f1, fl, -⟩ := c_arr f.1 (ob := 45) (n := 4) (lo := -1) (hi := 40) rfl
  exact c_clearl4 4 H _ 0 fr f.1 (by decide) rfl f1 fl (fun j hj => absurd hj (Nat.not_lt_zero j)) (fun H' fr' e1 e2 e3 => hK H' fr' (y_sq (y_mo f rfl rfl) e1 rfl rfl) e2 e3)
theorem c_tm4 (n0 : 0 ≤ nd.toInt) (n10 : nd.toInt ≤ 10) {sI : Int32} {sd : Nat} (hs : sI.toInt = sd) (hs2 : sd < 2) (s : tx_s nd h sg t p) {fr : List Int32} (gf : w_a h 45 = some (0, .inl fr)) (hK : ∀ (b : Bool) (q k : Nat) (H : aH) (fr' : List Int32), y_fr h H [1538] [45, 46, 47, 48, 49] → tx_s nd H sg t q → pr_tm (y_N sg) t nd.toInt p = (b, q, k) → w_a H 45 = some (0, .inl fr') → (k = 0 ∧ fr' = fr) ∨ tx_f fr fr' sd k → K0 (some (.int (y_01 b))) H C S) : aOK s_P X (d + 4) a_m81 0 [some (.ref 14), some (.ref 45), some (.int sI)] [] h C S K0 := by
  have hr := (tx_s_hr s).1
  have T25 : ∀ {G : aH} {b : Bool} {q k : Nat} {pc : Nat} {fr' : List Int32}, (pc = 16 ∨ pc = 25) → y_fr h G [1538] [45, 46, 47, 48, 49] → tx_s nd G sg t q → pr_tm (y_N sg) t nd.toInt p = (b, q, k) → w_a G 45 = some (0, .inl fr') → (k = 0 ∧ fr' = fr) ∨ tx_f fr fr' sd k → aOK s_P X (d + 4) a_m81 pc [some (.ref 14), some (.ref 45), some (.int sI)] [.int (y_01 b)] G C S K0 := by
    intro G b q k pc fr' hpc e s2 hg g2 hf
    rcases hpc with rfl | rfl
    · refine w_go z_hl [] [] 20 e.1 ?_
      refine ⟨y_01b b, fun H hH => ?_⟩
      have f : y_fr G H [] [] := y_st (y_rf e.1) hH (by repeat (first | exact w_nil | refine w_cons (Or.inl (y_m rfl)) ?_ | refine w_cons (Or.inr (by assumption)) ?_)) (by repeat (first | exact w_nil | refine w_cons (Or.inl (y_m rfl)) ?_ | refine w_cons (Or.inr (by assumption)) ?_))
      exact hK b q k H fr' (y_sq e f rfl rfl) (tx_s_fr s2 f rfl rfl) hg ((y_ae f rfl).trans g2) hf
    · refine w_go z_hl [] [] 20 e.1 ?_
      refine ⟨y_01b b, fun H hH => ?_⟩
      have f : y_fr G H [] [] := y_st (y_rf e.1) hH (by repeat (first | exact w_nil | refine w_cons (Or.inl (y_m rfl)) ?_ | refine w_cons (Or.inr (by assumption)) ?_)) (by repeat (first | exact w_nil | refine w_cons (Or.inl (y_m rfl)) ?_ | refine w_cons (Or.inr (by assumption)) ?_))
      exact hK b q k H fr' (y_sq e f rfl rfl) (tx_s_fr s2 f rfl rfl) hg ((y_ae f rfl).trans g2) hf
  have T7 : ∀ {G : aH} (b : Bool), y_fr h G [] [] → (b = true → pr_dg (y_N sg) t p) → (b = false → ¬ pr_dg (y_N sg) t p) → aOK s_P X (d + 4) a_m81 7 [some (.ref 14), some (.ref 45), some (.int sI)] [.int (y_01 b)] G C S K0 := by
    intro G b e hy hn
    cases b with
    | true =>
      refine w_go z_hl [] [84, 86] 30 e.1 ?_
      refine ⟨fun z => absurd z (by decide), fun _ => fun H hH => ?_⟩
      have f : y_fr h H [] [] := y_st e hH (by repeat (first | exact w_nil | refine w_cons (Or.inl (y_m rfl)) ?_ | refine w_cons (Or.inr (by assumption)) ?_)) (by repeat (first | exact w_nil | refine w_cons (Or.inl (y_m rfl)) ?_ | refine w_cons (Or.inr (by assumption)) ?_))
      refine c_rt4 (d := d + 1) hs hs2 (tx_s_fr s f rfl rfl) (fun b q H2 f2 s3 hg => ⟨fun n e => (by cases e), ?_⟩)
      exact T25 (k := 0) (Or.inl rfl) (y_sq (y_mo f rfl rfl) f2 rfl rfl) s3 (by rw [pr_tm_1 (hy rfl)]; exact hg) ((y_ae f2 rfl).trans ((y_ae f rfl).trans gf)) (Or.inl ⟨rfl, rfl⟩)
    | false =>
      refine w_go z_hl [] [84, 86] 30 e.1 ?_
      refine ⟨fun _ => fun H hH => ?_, fun z => absurd z (by decide)⟩
      have f : y_fr h H [] [] := y_st e hH (by repeat (first | exact w_nil | refine w_cons (Or.inl (y_m rfl)) ?_ | refine w_cons (Or.inr (by assumption)) ?_)) (by repeat (first | exact w_nil | refine w_cons (Or.inl (y_m rfl)) ?_ | refine w_cons (Or.inr (by assumption)) ?_))
      refine c_gv4 (d := d) n0 n10 hs hs2 (tx_s_fr s f rfl rfl) ((y_ae f rfl).trans gf) (fun b q k H2 fr' f2 s3 hg g3 hf => ⟨fun n e => (by cases e), ?_⟩)
      exact T25 (Or.inr rfl) (y_sq (y_mo f rfl rfl) f2 rfl rfl) s3 (by rw [pr_tm_0 (hn rfl)]; exact hg) g3 (Or.inr hf)
  have T4 : ∀ {G : aH} {cI : Int32}, y_fr h G [] [] → cI.toInt = pr_k (y_N sg) t p → aOK s_P X (d + 4) a_m81 4 [some (.ref 14), some (.ref 45), some (.int sI)] [.int cI] G C S K0 := by
    intro G cI e hc
    refine w_go z_hl [] [83] 20 e.1 ?_
    intro H hH
    have f : y_fr h H [] [] := y_st e hH (by repeat (first | exact w_nil | refine w_cons (Or.inl (y_m rfl)) ?_ | refine w_cons (Or.inr (by assumption)) ?_)) (by repeat (first | exact w_nil | refine w_cons (Or.inl (y_m rfl)) ?_ | refine w_cons (Or.inr (by assumption)) ?_))
    refine c_isDg (c := cI) f.1 (fun H2 f2 w => ⟨fun n e => (by cases e), ?_⟩) (fun H2 f2 w => ⟨fun n e => (by cases e), ?_⟩)
    · exact T7 true (y_sq f f2 rfl rfl) (fun _ => ⟨by omega, by omega⟩) (fun z => absurd z (by decide))
    · exact T7 false (y_sq f f2 rfl rfl) (fun z => absurd z (by decide)) (fun _ z => w ⟨by have := z.1; omega, by have := z.2; omega⟩)
  refine w_go z_hl [] [82] 20 hr ?_
  intro H hH
  have f : y_fr h H [] [] := y_st (y_rf hr) hH (by repeat (first | exact w_nil | refine w_cons (Or.inl (y_m rfl)) ?_ | refine w_cons (Or.inr (by assumption)) ?_)) (by repeat (first | exact w_nil | refine w_cons (Or.inl (y_m rfl)) ?_ | refine w_cons (Or.inr (by assumption)) ?_))
  refine c_lkT (tx_s_fr s f rfl rfl) (fun r H2 f2 er => ⟨fun n e => (by cases e), ?_⟩)
  exact T4 (y_sq f f2 rfl rfl) er
theorem c_isNum4 (hr : w_hr z_D h) {fr : List Int32} (gf : w_a h 45 = some (0, .inl fr)) (hK : ∀ (H : aH), y_fr h H [] [] → K0 (some (.int (y_01 (decide (y_N fr 0 = -1))))) H C S) : aOK s_P X d a_m89 0 [some (.ref 45), some (.int (Int32.ofInt 0))] [] h C S K0 := by
  have m1 : (Int32.ofInt 2 * Int32.ofInt 0).toInt = ((0 : Nat) : Int) := by decide
  have cm := y_cl1 m1
  have cn : (Int32.ofInt (-1)).toInt = -1 := by decide
  refine w_go z_hl [] [] 30 hr ?_
  refine ⟨⟨by decide, by decide⟩, fun l hl len bb => ?_⟩
  obtain rfl := y_ai gf hl
  refine ⟨fun z => ⟨by decide, fun H hH => ?_⟩, fun z => ⟨by decide, fun H hH => ?_⟩⟩
  · have y1 : (fr.getD (Int32.ofInt 2 * Int32.ofInt 0).toNatClampNeg 0).toInt ≠ (Int32.ofInt (-1)).toInt := (y_ci .ne _ _).mp z
    rw [cm, cn] at y1
    have w := hK H (y_st (y_rf hr) hH (by repeat (first | exact w_nil | refine w_cons (Or.inl (y_m rfl)) ?_ | refine w_cons (Or.inr (by assumption)) ?_)) (by repeat (first | exact w_nil | refine w_cons (Or.inl (y_m rfl)) ?_ | refine w_cons (Or.inr (by assumption)) ?_)))
    rw [decide_eq_false (show ¬ (y_N fr 0 = -1) from y1)] at w
    exact w
  · have y1 : ¬ ((fr.getD (Int32.ofInt 2 * Int32.ofInt 0).toNatClampNeg 0).toInt ≠ (Int32.ofInt (-1)).toInt) := y_cif z
    rw [cm, cn] at y1
    have w := hK H (y_st (y_rf hr) hH (by repeat (first | exact w_nil | refine w_cons (Or.inl (y_m rfl)) ?_ | refine w_cons (Or.inr (by assumption)) ?_)) (by repeat (first | exact w_nil | refine w_cons (Or.inl (y_m rfl)) ?_ | refine w_cons (Or.inr (by assumption)) ?_)))
    rw [decide_eq_true (show y_N fr 0 = -1 from Decidable.not_not.mp y1)] at w
    exact w
theorem c_first4 (n0 : 0 ≤ nd.toInt) (n10 : nd.toInt ≤ 10) (s : tx_s nd h sg t 0) {fr : List Int32} (gf : w_a h 45 = some (0, .inl fr)) (hf0 : y_N fr 0 = -1) (hf1 : y_N fr 1 = -1) (yes : ∀ (q k : Nat) (H : aH) (rel : Int32) (fr' : List Int32), y_fr h H [1538, 5506] [45, 46, 47, 48, 49] → tx_s nd H sg t (q + 1) → pr_tm (y_N sg) t nd.toInt 0 = (true, q, k) → w_f H 5506 = some (.int rel) → w_a H 45 = some (0, .inl fr') → ((pr_k (y_N sg) t q = 126 ∧ k = 1) ∧ rel.toInt = 126) ∨ (¬ (pr_k (y_N sg) t q = 126 ∧ k = 1) ∧ (pr_k (y_N sg) t q = 61 ∨ pr_k (y_N sg) t q = 60 ∨ pr_k (y_N sg) t q = 62) ∧ rel.toInt ≠ 126) → K0 (some (.int (y_01 true))) H C S) (no : ∀ (q : Nat) (H : aH), y_fr h H [1538, 5506] [45, 46, 47, 48, 49] → tx_s nd H sg t q → pr_sy (y_N sg) t nd.toInt = (false, q) → K0 (some (.int (y_01 false))) H C S) : aOK s_P X (d + 5) a_m80 0 [some (.ref 14), some (.ref 45), none, none] [] h C S K0 := by
  have hr := (tx_s_hr s).1
  have c126 : ((Int8.ofInt 126).toInt32).toInt = 126 := by decide
  have c61 : ((Int8.ofInt 61).toInt32).toInt = 61 := by decide
  have c60 : ((Int8.ofInt 60).toInt32).toInt = 60 := by decide
  have c62 : ((Int8.ofInt 62).toInt32).toInt = 62 := by decide
  have cn : (Int32.ofInt (-1)).toInt = -1 := by decide
  have T70 : ∀ {G : aH} {q k : Nat} {cI : Int32} {p3 : Option Value} {fr' : List Int32}, y_fr h G [1538, 5506] [45, 46, 47, 48, 49] → tx_s nd G sg t q → q < t → pr_tm (y_N sg) t nd.toInt 0 = (true, q, k) → w_a G 45 = some (0, .inl fr') → cI.toInt = pr_k (y_N sg) t q → 0 ≤ cI.toInt → cI.toInt ≤ 65535 → ((pr_k (y_N sg) t q = 126 ∧ k = 1) ∨ (¬ (pr_k (y_N sg) t q = 126 ∧ k = 1) ∧ (pr_k (y_N sg) t q = 61 ∨ pr_k (y_N sg) t q = 60 ∨ pr_k (y_N sg) t q = 62))) → aOK s_P X (d + 5) a_m80 70 [some (.ref 14), some (.ref 45), some (.int cI), p3] [] G C S K0 := by
    intro G q k cI p3 fr' e s2 qt ht g2 hc c0 c65 hw
    obtain ⟨toJ, atJ, -, b1, b2, b3, b4, b5, b6, -, t40⟩ := id s2
    have inc : (atJ + Int32.ofInt 1).toInt = ((q + 1 : Nat) : Int) := by rw [y_inc (by omega), b5]; rfl
    refine w_go z_hl [] [] 40 e.1 ?_
    refine ⟨y_fitC c0 c65, y_zini c0 c65, ?_⟩
    intro x hx _ _
    obtain rfl := y_fi b4 hx
    refine ⟨rfl, y_zini (by show 0 ≤ (atJ + Int32.ofInt 1).toInt; omega) (by show (atJ + Int32.ofInt 1).toInt ≤ 40; omega), by decide, fun H hH => ?_⟩
    have f : y_fr G H [1538, 5506] [] := y_st (y_mo (y_rf e.1) rfl rfl) hH (by repeat (first | exact w_nil | refine w_cons (Or.inl (y_m rfl)) ?_ | refine w_cons (Or.inr (by assumption)) ?_)) (by repeat (first | exact w_nil | refine w_cons (Or.inl (y_m rfl)) ?_ | refine w_cons (Or.inr (by assumption)) ?_))
    have s3 : tx_s nd H sg t (q + 1) := ⟨toJ, _, f.1, (y_ae f rfl).trans b1, (y_fe f rfl).trans b2, b3, hH.2.1 1538 _ rfl, inc, (y_fe f rfl).trans b6, by omega, t40⟩
    refine yes q k H cI fr' (y_sq e f rfl rfl) s3 ht (hH.2.1 5506 _ rfl) ((y_ae f rfl).trans g2) ?_
    rcases hw with w | ⟨w, w2⟩
    · exact Or.inl ⟨w, by rw [hc]; exact w.1⟩
    · refine Or.inr ⟨w, w2, ?_⟩
      rw [hc]
      rcases w2 with w3 | w3 | w3
      · omega
      · omega
      · omega
  have T45 : ∀ {G : aH} {q k : Nat} {cI : Int32} {fr' : List Int32} (b : Bool), y_fr h G [1538, 5506] [45, 46, 47, 48, 49] → tx_s nd G sg t q → pr_tm (y_N sg) t nd.toInt 0 = (true, q, k) → w_a G 45 = some (0, .inl fr') → cI.toInt = pr_k (y_N sg) t q → 0 ≤ cI.toInt → cI.toInt ≤ 65535 → (b = true → pr_k (y_N sg) t q = 126 ∧ k = 1) → (b = false → ¬ (pr_k (y_N sg) t q = 126 ∧ k = 1)) → aOK s_P X (d + 5) a_m80 45 [some (.ref 14), some (.ref 45), some (.int cI), none] [.int (y_01 b)] G C S K0 := by
    intro G q k cI fr' b e s2 ht g2 hc c0 c65 hy hn
    have f0 : y_fr G G [] [] := y_rf e.1
    have go : ∀ {H : aH} {p3 : Option Value}, y_fr G H [] [] → q < t → ((pr_k (y_N sg) t q = 126 ∧ k = 1) ∨ (¬ (pr_k (y_N sg) t q = 126 ∧ k = 1) ∧ (pr_k (y_N sg) t q = 61 ∨ pr_k (y_N sg) t q = 60 ∨ pr_k (y_N sg) t q = 62))) → aOK s_P X (d + 5) a_m80 70 [some (.ref 14), some (.ref 45), some (.int cI), p3] [] H C S K0 := fun f qt w => T70 (y_sq e f rfl rfl) (tx_s_fr s2 f rfl rfl) qt ht ((y_ae f rfl).trans g2) hc c0 c65 w
    have q61 : cI.toInt = 61 → ¬ (pr_k (y_N sg) t q = 126 ∧ k = 1) := fun z w => by have := w.1; omega
    have q60 : cI.toInt = 60 → ¬ (pr_k (y_N sg) t q = 126 ∧ k = 1) := fun z w => by have := w.1; omega
    have q62 : cI.toInt = 62 → ¬ (pr_k (y_N sg) t q = 126 ∧ k = 1) := fun z w => by have := w.1; omega
    cases b with
    | true =>
      refine w_go z_hl [70] [] 40 e.1 ?_
      refine ⟨fun z => fun H hH => ?_, fun z => ⟨fun z2 => fun H hH => ?_, fun z2 => ⟨fun z3 => fun H hH => ?_, fun z3 => ⟨fun _ => fun H hH => ?_, fun z4 => absurd z4 (by decide)⟩⟩⟩⟩
      · have y1 : cI.toInt = ((Int8.ofInt 61).toInt32).toInt := (y_ci .eq _ _).mp z
        rw [c61] at y1
        exact go (y_st f0 hH (by repeat (first | exact w_nil | refine w_cons (Or.inl (y_m rfl)) ?_ | refine w_cons (Or.inr (by assumption)) ?_)) (by repeat (first | exact w_nil | refine w_cons (Or.inl (y_m rfl)) ?_ | refine w_cons (Or.inr (by assumption)) ?_))) (pr_k_t (c := 61) (by decide) (hc.symm.trans y1)) (Or.inr ⟨q61 y1, Or.inl (hc.symm.trans y1)⟩)
      · have y1 : cI.toInt = ((Int8.ofInt 60).toInt32).toInt := (y_ci .eq _ _).mp z2
        rw [c60] at y1
        exact go (y_st f0 hH (by repeat (first | exact w_nil | refine w_cons (Or.inl (y_m rfl)) ?_ | refine w_cons (Or.inr (by assumption)) ?_)) (by repeat (first | exact w_nil | refine w_cons (Or.inl (y_m rfl)) ?_ | refine w_cons (Or.inr (by assumption)) ?_))) (pr_k_t (c := 60) (by decide) (hc.symm.trans y1)) (Or.inr ⟨q60 y1, Or.inr (Or.inl (hc.symm.trans y1))⟩)
      · have y1 : cI.toInt = ((Int8.ofInt 62).toInt32).toInt := (y_ci .eq _ _).mp z3
        rw [c62] at y1
        exact go (y_st f0 hH (by repeat (first | exact w_nil | refine w_cons (Or.inl (y_m rfl)) ?_ | refine w_cons (Or.inr (by assumption)) ?_)) (by repeat (first | exact w_nil | refine w_cons (Or.inl (y_m rfl)) ?_ | refine w_cons (Or.inr (by assumption)) ?_))) (pr_k_t (c := 62) (by decide) (hc.symm.trans y1)) (Or.inr ⟨q62 y1, Or.inr (Or.inr (hc.symm.trans y1))⟩)
      · exact go (y_st f0 hH (by repeat (first | exact w_nil | refine w_cons (Or.inl (y_m rfl)) ?_ | refine w_cons (Or.inr (by assumption)) ?_)) (by repeat (first | exact w_nil | refine w_cons (Or.inl (y_m rfl)) ?_ | refine w_cons (Or.inr (by assumption)) ?_))) (pr_k_t (c := 126) (by decide) (hy rfl).1) (Or.inl (hy rfl))
    | false =>
      refine w_go z_hl [70] [] 40 e.1 ?_
      refine ⟨fun z => fun H hH => ?_, fun z => ⟨fun z2 => fun H hH => ?_, fun z2 => ⟨fun z3 => fun H hH => ?_, fun z3 => ⟨fun z4 => absurd z4 (by decide), fun _ => ⟨by decide, fun H hH => ?_⟩⟩⟩⟩⟩
      · have y1 : cI.toInt = ((Int8.ofInt 61).toInt32).toInt := (y_ci .eq _ _).mp z
        rw [c61] at y1
        exact go (y_st f0 hH (by repeat (first | exact w_nil | refine w_cons (Or.inl (y_m rfl)) ?_ | refine w_cons (Or.inr (by assumption)) ?_)) (by repeat (first | exact w_nil | refine w_cons (Or.inl (y_m rfl)) ?_ | refine w_cons (Or.inr (by assumption)) ?_))) (pr_k_t (c := 61) (by decide) (hc.symm.trans y1)) (Or.inr ⟨q61 y1, Or.inl (hc.symm.trans y1)⟩)
      · have y1 : cI.toInt = ((Int8.ofInt 60).toInt32).toInt := (y_ci .eq _ _).mp z2
        rw [c60] at y1
        exact go (y_st f0 hH (by repeat (first | exact w_nil | refine w_cons (Or.inl (y_m rfl)) ?_ | refine w_cons (Or.inr (by assumption)) ?_)) (by repeat (first | exact w_nil | refine w_cons (Or.inl (y_m rfl)) ?_ | refine w_cons (Or.inr (by assumption)) ?_))) (pr_k_t (c := 60) (by decide) (hc.symm.trans y1)) (Or.inr ⟨q60 y1, Or.inr (Or.inl (hc.symm.trans y1))⟩)
      · have y1 : cI.toInt = ((Int8.ofInt 62).toInt32).toInt := (y_ci .eq _ _).mp z3
        rw [c62] at y1
        exact go (y_st f0 hH (by repeat (first | exact w_nil | refine w_cons (Or.inl (y_m rfl)) ?_ | refine w_cons (Or.inr (by assumption)) ?_)) (by repeat (first | exact w_nil | refine w_cons (Or.inl (y_m rfl)) ?_ | refine w_cons (Or.inr (by assumption)) ?_))) (pr_k_t (c := 62) (by decide) (hc.symm.trans y1)) (Or.inr ⟨q62 y1, Or.inr (Or.inr (hc.symm.trans y1))⟩)
      · have y1 : ¬ (cI.toInt = ((Int8.ofInt 61).toInt32).toInt) := y_cif z
        have y2 : ¬ (cI.toInt = ((Int8.ofInt 60).toInt32).toInt) := y_cif z2
        have y3 : ¬ (cI.toInt = ((Int8.ofInt 62).toInt32).toInt) := y_cif z3
        rw [c61, hc] at y1
        rw [c60, hc] at y2
        rw [c62, hc] at y3
        have f : y_fr G H [] [] := y_st f0 hH (by repeat (first | exact w_nil | refine w_cons (Or.inl (y_m rfl)) ?_ | refine w_cons (Or.inr (by assumption)) ?_)) (by repeat (first | exact w_nil | refine w_cons (Or.inl (y_m rfl)) ?_ | refine w_cons (Or.inr (by assumption)) ?_))
        exact no q H (y_sq e f rfl rfl) (tx_s_fr s2 f rfl rfl) (pr_sy_x ht (hn rfl) (fun w => by rcases w with w | w | w; exact y1 w; exact y2 w; exact y3 w))
  have T27 : ∀ {G : aH} {q k : Nat} {cI : Int32} {fr' : List Int32} (b : Bool), y_fr h G [1538, 5506] [45, 46, 47, 48, 49] → tx_s nd G sg t q → pr_tm (y_N sg) t nd.toInt 0 = (true, q, k) → w_a G 45 = some (0, .inl fr') → cI.toInt = pr_k (y_N sg) t q → 0 ≤ cI.toInt → cI.toInt ≤ 65535 → pr_k (y_N sg) t q = 126 → (b = true → k = 0) → (b = false → k ≠ 0 ∧ (k = 1 → y_N fr' 1 = -1) ∧ (k ≠ 1 → 0 ≤ y_N fr' 1)) → aOK s_P X (d + 5) a_m80 27 [some (.ref 14), some (.ref 45), some (.int cI), none] [.int (y_01 b)] G C S K0 := by
    intro G q k cI fr' b e s2 ht g2 hc c0 c65 h126 hy hn
    have f0 : y_fr G G [] [] := y_rf e.1
    cases b with
    | true =>
      refine w_go z_hl [45] [] 30 e.1 ?_
      refine ⟨fun _ => fun H hH => ?_, fun z => absurd z (by decide)⟩
      have f : y_fr G H [] [] := y_st f0 hH (by repeat (first | exact w_nil | refine w_cons (Or.inl (y_m rfl)) ?_ | refine w_cons (Or.inr (by assumption)) ?_)) (by repeat (first | exact w_nil | refine w_cons (Or.inl (y_m rfl)) ?_ | refine w_cons (Or.inr (by assumption)) ?_))
      exact T45 false (y_sq e f rfl rfl) (tx_s_fr s2 f rfl rfl) ht ((y_ae f rfl).trans g2) hc c0 c65 (fun w => absurd w (by decide)) (fun _ w => by have := hy rfl; omega)
    | false =>
      obtain ⟨k0, k1, k2⟩ := hn rfl
      have i1 : (Int32.ofInt 1).toInt = ((1 : Nat) : Int) := by decide
      have ci1 := y_cl1 i1
      refine w_go z_hl [45] [] 30 e.1 ?_
      refine ⟨fun z => absurd z (by decide), fun _ => ⟨⟨by decide, by decide⟩, fun l hl len bb => ?_⟩⟩
      obtain rfl := y_ai g2 hl
      refine ⟨fun z => fun H hH => ?_, fun z => fun H hH => ?_⟩
      · have y1 : (fr'.getD (Int32.ofInt 1).toNatClampNeg 0).toInt ≠ (Int32.ofInt (-1)).toInt := (y_ci .ne _ _).mp z
        rw [ci1, cn] at y1
        have y2 : y_N fr' 1 ≠ -1 := y1
        have f : y_fr G H [] [] := y_st f0 hH (by repeat (first | exact w_nil | refine w_cons (Or.inl (y_m rfl)) ?_ | refine w_cons (Or.inr (by assumption)) ?_)) (by repeat (first | exact w_nil | refine w_cons (Or.inl (y_m rfl)) ?_ | refine w_cons (Or.inr (by assumption)) ?_))
        exact T45 false (y_sq e f rfl rfl) (tx_s_fr s2 f rfl rfl) ht ((y_ae f rfl).trans g2) hc c0 c65 (fun w => absurd w (by decide)) (fun _ w => y2 (k1 w.2))
      · have y1 : ¬ ((fr'.getD (Int32.ofInt 1).toNatClampNeg 0).toInt ≠ (Int32.ofInt (-1)).toInt) := y_cif z
        rw [ci1, cn] at y1
        have y2 : y_N fr' 1 = -1 := Decidable.not_not.mp y1
        have f : y_fr G H [] [] := y_st f0 hH (by repeat (first | exact w_nil | refine w_cons (Or.inl (y_m rfl)) ?_ | refine w_cons (Or.inr (by assumption)) ?_)) (by repeat (first | exact w_nil | refine w_cons (Or.inl (y_m rfl)) ?_ | refine w_cons (Or.inr (by assumption)) ?_))
        refine T45 true (y_sq e f rfl rfl) (tx_s_fr s2 f rfl rfl) ht ((y_ae f rfl).trans g2) hc c0 c65 (fun _ => ⟨h126, ?_⟩) (fun w => absurd w (by decide))
        rcases Nat.decEq k 1 with w | w
        · have := k2 w
          omega
        · exact w
  have T15 : ∀ {G : aH} {q k : Nat} {cI : Int32} {fr' : List Int32}, y_fr h G [1538, 5506] [45, 46, 47, 48, 49] → tx_s nd G sg t q → pr_tm (y_N sg) t nd.toInt 0 = (true, q, k) → w_a G 45 = some (0, .inl fr') → (k = 0 ∧ fr' = fr) ∨ tx_f fr fr' 0 k → cI.toInt = pr_k (y_N sg) t q → 0 ≤ cI.toInt → cI.toInt ≤ 65535 → aOK s_P X (d + 5) a_m80 15 [some (.ref 14), some (.ref 45), none, none] [.int cI] G C S K0 := by
    intro G q k cI fr' e s2 ht g2 hf hc c0 c65
    have f0 : y_fr G G [] [] := y_rf e.1
    refine w_go z_hl [45] [89] 30 e.1 ?_
    refine ⟨fun z => fun H hH => ?_, fun z => fun H hH => ?_⟩
    · have y1 : cI.toInt ≠ ((Int8.ofInt 126).toInt32).toInt := (y_ci .ne _ _).mp z
      rw [c126, hc] at y1
      have f : y_fr G H [] [] := y_st f0 hH (by repeat (first | exact w_nil | refine w_cons (Or.inl (y_m rfl)) ?_ | refine w_cons (Or.inr (by assumption)) ?_)) (by repeat (first | exact w_nil | refine w_cons (Or.inl (y_m rfl)) ?_ | refine w_cons (Or.inr (by assumption)) ?_))
      exact T45 false (y_sq e f rfl rfl) (tx_s_fr s2 f rfl rfl) ht ((y_ae f rfl).trans g2) hc c0 c65 (fun w => absurd w (by decide)) (fun _ w => y1 w.1)
    · have y1 : ¬ (cI.toInt ≠ ((Int8.ofInt 126).toInt32).toInt) := y_cif z
      rw [c126, hc] at y1
      have y2 : pr_k (y_N sg) t q = 126 := Decidable.not_not.mp y1
      have f : y_fr G H [] [] := y_st f0 hH (by repeat (first | exact w_nil | refine w_cons (Or.inl (y_m rfl)) ?_ | refine w_cons (Or.inr (by assumption)) ?_)) (by repeat (first | exact w_nil | refine w_cons (Or.inl (y_m rfl)) ?_ | refine w_cons (Or.inr (by assumption)) ?_))
      refine c_isNum4 f.1 ((y_ae f rfl).trans g2) (fun H2 f2 => ⟨fun n e => (by cases e), ?_⟩)
      have e3 := y_sq (y_sq e f rfl rfl) f2 rfl rfl
      have s3 := tx_s_fr (tx_s_fr s2 f rfl rfl) f2 rfl rfl
      have g3 := (y_ae f2 rfl).trans ((y_ae f rfl).trans g2)
      rcases hf with ⟨hf, hf'⟩ | ⟨hf, hg, hh, hi⟩
      · rw [decide_eq_true (show y_N fr' 0 = -1 by rw [hf']; exact hf0)]
        exact T27 true e3 s3 ht g3 hc c0 c65 y2 (fun _ => hf) (fun w => absurd w (by decide))
      · have hg' : 0 ≤ y_N fr' 0 := hg
        rw [decide_eq_false (show ¬ (y_N fr' 0 = -1) by omega)]
        refine T27 false e3 s3 ht g3 hc c0 c65 y2 (fun w => absurd w (by decide)) (fun _ => ⟨by omega, fun w => ?_, fun w => ?_⟩)
        · rw [hh w 1 (by decide)]
          exact hf1
        · exact (hi (by omega)).1
  have T6 : ∀ {G : aH} {q k : Nat} {fr' : List Int32} (b : Bool), y_fr h G [1538, 5506] [45, 46, 47, 48, 49] → tx_s nd G sg t q → pr_tm (y_N sg) t nd.toInt 0 = (b, q, k) → w_a G 45 = some (0, .inl fr') → (k = 0 ∧ fr' = fr) ∨ tx_f fr fr' 0 k → aOK s_P X (d + 5) a_m80 6 [some (.ref 14), some (.ref 45), none, none] [.int (y_01 b)] G C S K0 := by
    intro G q k fr' b e s2 ht g2 hf
    cases b with
    | true =>
      refine w_go z_hl [] [82] 30 e.1 ?_
      refine ⟨fun _ => fun H hH => ?_, fun z => absurd z (by decide)⟩
      have f : y_fr G H [] [] := y_st (y_rf e.1) hH (by repeat (first | exact w_nil | refine w_cons (Or.inl (y_m rfl)) ?_ | refine w_cons (Or.inr (by assumption)) ?_)) (by repeat (first | exact w_nil | refine w_cons (Or.inl (y_m rfl)) ?_ | refine w_cons (Or.inr (by assumption)) ?_))
      obtain ⟨sg', z1, z2, z3⟩ := w_arrI f.1 (o := 13) (t := 3) (n := 60) (lo := 0) (hi := 65535) (by decide) rfl
      have kb : 0 ≤ pr_k (y_N sg) t q ∧ pr_k (y_N sg) t q ≤ 65535 := by
        obtain ⟨-, -, -, b1, -, -, -, -, -, -, t40⟩ := tx_s_fr s2 f rfl rfl
        have e4 := w_a_at z1
        rw [b1] at e4
        obtain rfl : sg = sg' := by
          injection e4 with e5
          injection e5 with _ e6
          injection e6
        by_cases w : q < t
        · rw [pr_k_1 w]
          exact z3 _ (z_gd (0 : Int32) (show q < sg.length by omega))
        · rw [show pr_k (y_N sg) t q = 0 from if_neg w]
          decide
      refine c_lkT (tx_s_fr s2 f rfl rfl) (fun r H2 f2 er => ⟨fun n e => (by cases e), ?_⟩)
      exact T15 (y_sq (y_sq e f rfl rfl) f2 rfl rfl) (tx_s_fr (tx_s_fr s2 f rfl rfl) f2 rfl rfl) ht ((y_ae f2 rfl).trans ((y_ae f rfl).trans g2)) hf er (by omega) (by omega)
    | false =>
      refine w_go z_hl [] [82] 30 e.1 ?_
      refine ⟨fun z => absurd z (by decide), fun _ => ⟨by decide, fun H hH => ?_⟩⟩
      have f : y_fr G H [] [] := y_st (y_rf e.1) hH (by repeat (first | exact w_nil | refine w_cons (Or.inl (y_m rfl)) ?_ | refine w_cons (Or.inr (by assumption)) ?_)) (by repeat (first | exact w_nil | refine w_cons (Or.inl (y_m rfl)) ?_ | refine w_cons (Or.inr (by assumption)) ?_))
      exact no q H (y_sq e f rfl rfl) (tx_s_fr s2 f rfl rfl) (pr_sy_n ht)
  refine w_go z_hl [] [81] 20 hr ?_
  intro H hH
  have f : y_fr h H [] [] := y_st (y_rf hr) hH (by repeat (first | exact w_nil | refine w_cons (Or.inl (y_m rfl)) ?_ | refine w_cons (Or.inr (by assumption)) ?_)) (by repeat (first | exact w_nil | refine w_cons (Or.inl (y_m rfl)) ?_ | refine w_cons (Or.inr (by assumption)) ?_))
  refine c_tm4 (d := d) (sd := 0) n0 n10 (by decide) (by decide) (tx_s_fr s f rfl rfl) ((y_ae f rfl).trans gf) (fun b q k H2 fr' f2 s3 ht g3 hf => ⟨fun n e => (by cases e), ?_⟩)
  exact T6 b (y_sq (y_mo f rfl rfl) f2 rfl rfl) s3 ht g3 hf
theorem c_second4 (n0 : 0 ≤ nd.toInt) (n10 : nd.toInt ≤ 10) (s : tx_s nd h sg t p) {rel : Int32} (gr : w_f h 5506 = some (.int rel)) (hK : ∀ (b : Bool) (q k : Nat) (H : aH), y_fr h H [1538] [45, 46, 47, 48, 49] → tx_s nd H sg t q → (rel.toInt = 126 → pr_gv (y_N sg) t nd.toInt p = (b, q, k)) → (rel.toInt ≠ 126 → pr_tm (y_N sg) t nd.toInt p = (b, q, k)) → K0 (some (.int (y_01 b))) H C S) : aOK s_P X (d + 5) a_m90 0 [some (.ref 14), some (.ref 45)] [] h C S K0 := by
  have hr := (tx_s_hr s).1
  have c126 : ((Int8.ofInt 126).toInt32).toInt = 126 := by decide
  obtain ⟨fr, gf, -, -⟩ := c_arr hr (ob := 45) (n := 4) (lo := -1) (hi := 40) rfl
  have T22 : ∀ {G : aH} {b : Bool} {q k pc : Nat}, (pc = 13 ∨ pc = 22) → y_fr h G [1538] [45, 46, 47, 48, 49] → tx_s nd G sg t q → (rel.toInt = 126 → pr_gv (y_N sg) t nd.toInt p = (b, q, k)) → (rel.toInt ≠ 126 → pr_tm (y_N sg) t nd.toInt p = (b, q, k)) → aOK s_P X (d + 5) a_m90 pc [some (.ref 14), some (.ref 45)] [.int (y_01 b)] G C S K0 := by
    intro G b q k pc hpc e s2 h1 h2
    rcases hpc with rfl | rfl
    · refine w_go z_hl [] [] 20 e.1 ?_
      refine ⟨y_01b b, fun H hH => ?_⟩
      have f : y_fr G H [] [] := y_st (y_rf e.1) hH (by repeat (first | exact w_nil | refine w_cons (Or.inl (y_m rfl)) ?_ | refine w_cons (Or.inr (by assumption)) ?_)) (by repeat (first | exact w_nil | refine w_cons (Or.inl (y_m rfl)) ?_ | refine w_cons (Or.inr (by assumption)) ?_))
      exact hK b q k H (y_sq e f rfl rfl) (tx_s_fr s2 f rfl rfl) h1 h2
    · refine w_go z_hl [] [] 20 e.1 ?_
      refine ⟨y_01b b, fun H hH => ?_⟩
      have f : y_fr G H [] [] := y_st (y_rf e.1) hH (by repeat (first | exact w_nil | refine w_cons (Or.inl (y_m rfl)) ?_ | refine w_cons (Or.inr (by assumption)) ?_)) (by repeat (first | exact w_nil | refine w_cons (Or.inl (y_m rfl)) ?_ | refine w_cons (Or.inr (by assumption)) ?_))
      exact hK b q k H (y_sq e f rfl rfl) (tx_s_fr s2 f rfl rfl) h1 h2
  refine w_go z_hl [] [81, 86] 40 hr ?_
  intro x hx _ _
  obtain rfl := y_fi gr hx
  refine ⟨fun z => ⟨by decide, ⟨fun _ => fun H hH => ?_, fun z2 => absurd z2 (by decide)⟩⟩, fun z => ⟨by decide, ⟨fun z2 => absurd z2 (by decide), fun _ => fun H hH => ?_⟩⟩⟩
  · have y1 : rel.toInt ≠ ((Int8.ofInt 126).toInt32).toInt := (y_ci .ne _ _).mp z
    rw [c126] at y1
    have f : y_fr h H [] [] := y_st (y_rf hr) hH (by repeat (first | exact w_nil | refine w_cons (Or.inl (y_m rfl)) ?_ | refine w_cons (Or.inr (by assumption)) ?_)) (by repeat (first | exact w_nil | refine w_cons (Or.inl (y_m rfl)) ?_ | refine w_cons (Or.inr (by assumption)) ?_))
    refine c_tm4 (d := d) (sd := 1) n0 n10 (by decide) (by decide) (tx_s_fr s f rfl rfl) ((y_ae f rfl).trans gf) (fun b q k H2 fr' f2 s3 ht g3 hf => ⟨fun n e => (by cases e), ?_⟩)
    exact T22 (k := k) (Or.inr rfl) (y_sq (y_mo f rfl rfl) f2 rfl rfl) s3 (fun w => absurd w y1) (fun _ => ht)
  · have y1 : ¬ (rel.toInt ≠ ((Int8.ofInt 126).toInt32).toInt) := y_cif z
    rw [c126] at y1
    have f : y_fr h H [] [] := y_st (y_rf hr) hH (by repeat (first | exact w_nil | refine w_cons (Or.inl (y_m rfl)) ?_ | refine w_cons (Or.inr (by assumption)) ?_)) (by repeat (first | exact w_nil | refine w_cons (Or.inl (y_m rfl)) ?_ | refine w_cons (Or.inr (by assumption)) ?_))
    refine c_gv4 (d := d + 1) (sd := 1) n0 n10 (by decide) (by decide) (tx_s_fr s f rfl rfl) ((y_ae f rfl).trans gf) (fun b q k H2 fr' f2 s3 hg g3 hf => ⟨fun n e => (by cases e), ?_⟩)
    exact T22 (k := k) (Or.inl rfl) (y_sq (y_mo f rfl rfl) f2 rfl rfl) s3 (fun _ => hg) (fun w => absurd w y1)
end PFS4
end PT33ice
section PT33icf
/-! ===== v21: parse of the class with saying 4 (laid by wip/tools/mk21f.py) ===== -/
section PPS4
variable {X : aX} {C S d : Nat} {K0 : Option Value → aH → Nat → Nat → Prop} {sg : List Int32} {nd len : Int32} {h : aH}
theorem c_parse4 (hr : w_hr z_D h) (n0 : 0 ≤ nd.toInt) (n10 : nd.toInt ≤ 10) (l0 : 0 ≤ len.toInt) (l60 : len.toInt ≤ 60) (gs : w_a h 13 = some (3, .inl sg)) (hK : ∀ (r : Int32) (H : aH), y_fr h H [1538, 1539, 1540, 5505, 5506] [44, 45, 46, 47, 48, 49] → r.toInt = pr_wr (y_N sg) len.toInt.toNat nd.toInt → (pr_sy (y_N sg) (pr_t len.toInt.toNat) nd.toInt).2 ≤ pr_t len.toInt.toNat → K0 (some (.int r)) H C S) : aOK s_P X (d + 6) a_m78 0 [some (.ref 14), some (.int len), some (.int nd), some (.ref 45), none] [] h C S K0 := by
  have c40 : ((Int8.ofInt 40).toInt32).toInt = 40 := by decide
  have tl := pr_t_le (len := len.toInt.toNat)
  -- the end: whole or not
  have T56 : ∀ {G : aH} {q : Nat} (b : Bool), y_fr h G [1538, 1539, 1540, 5505, 5506] [45, 46, 47, 48, 49] → tx_s nd G sg (pr_t len.toInt.toNat) q → (pr_sy (y_N sg) (pr_t len.toInt.toNat) nd.toInt).2 = q → pr_wh (y_N sg) (pr_t len.toInt.toNat) nd.toInt = b → aOK s_P X (d + 6) a_m78 56 [some (.ref 14), some (.int len), some (.int nd), some (.ref 45), none] [.int (y_01 b)] G C S K0 := by
    intro G q b e s hq hb
    obtain ⟨toI, atI, -, a1, a2, a3, a4, a5, a6, pt, t40⟩ := id s
    have f0 : y_fr G G [] [] := y_rf e.1
    have out : ∀ {H : aH} {r : Int32}, y_fr G H [] [] → r.toInt = pr_wr (y_N sg) len.toInt.toNat nd.toInt → K0 (some (.int r)) H C S := fun f er => hK _ _ (y_mo (y_sq e f rfl rfl) rfl rfl) er (by omega)
    cases b with
    | true =>
      have ew : pr_wr (y_N sg) len.toInt.toNat nd.toInt = if 40 < len.toInt.toNat then 40 else -1 := if_pos hb
      have T97 : ∀ {H : aH}, y_fr G H [] [] → ¬ (40 < len.toInt.toNat) → aOK s_P X (d + 6) a_m78 97 [some (.ref 14), some (.int len), some (.int nd), some (.ref 45), some (.int (y_01 true))] [] H C S K0 := by
        intro H f nl
        refine w_go z_hl [111] [] 30 f.1 ?_
        intro x hx _ _
        obtain rfl := y_fi ((y_fe f rfl).trans a2) hx
        intro H2 h2
        have f2 : y_fr G H2 [] [] := y_st f h2 (by repeat (first | exact w_nil | refine w_cons (Or.inl (y_m rfl)) ?_ | refine w_cons (Or.inr (by assumption)) ?_)) (by repeat (first | exact w_nil | refine w_cons (Or.inl (y_m rfl)) ?_ | refine w_cons (Or.inr (by assumption)) ?_))
        refine y_copy3 (o := 13) (dd := 44) (m := pr_t len.toInt.toNat) (n1 := 60) (n2 := 40) f2.1 a3 rfl rfl (by omega) (by omega) rfl rfl (by decide) (fun H3 f3 => ?_)
        show aOK s_P X (d + 6) a_m78 114 [some (.ref 14), some (.int len), some (.int nd), some (.ref 45), some (.int (y_01 true))] [] H3 C S K0
        have f4 : y_fr G H3 [] [44] := y_sq (y_mo f2 rfl rfl) f3 rfl rfl
        refine w_go z_hl [] [] 30 f3.1 ?_
        intro x hx x0 x40
        obtain rfl := y_fi ((y_fe f4 rfl).trans a2) hx
        refine ⟨rfl, y_zini x0 x40, fun H5 h5 => ?_⟩
        have f5 : y_fr H3 H5 [5505] [] := y_st (y_mo (y_rf f3.1) rfl rfl) h5 (by repeat (first | exact w_nil | refine w_cons (Or.inl (y_m rfl)) ?_ | refine w_cons (Or.inr (by assumption)) ?_)) (by repeat (first | exact w_nil | refine w_cons (Or.inl (y_m rfl)) ?_ | refine w_cons (Or.inr (by assumption)) ?_))
        refine hK _ H5 (y_sq (y_sq (y_mo e rfl rfl) f4 rfl rfl) f5 rfl rfl) ?_ (by omega)
        rw [ew, if_neg nl]
        decide
      refine w_go z_hl [97] [] 40 e.1 ?_
      refine ⟨fun _ => ⟨fun z => absurd z (by decide), fun _ => ?_⟩, fun z => absurd z (by decide)⟩
      intro x hx _ _
      obtain rfl := y_fi a2 hx
      refine ⟨fun z => fun H hH => ?_, fun z => fun H hH => ?_⟩
      · have y1 : len.toInt ≤ toI.toInt := (y_ci .le _ _).mp z
        exact T97 (y_st f0 hH (by repeat (first | exact w_nil | refine w_cons (Or.inl (y_m rfl)) ?_ | refine w_cons (Or.inr (by assumption)) ?_)) (by repeat (first | exact w_nil | refine w_cons (Or.inl (y_m rfl)) ?_ | refine w_cons (Or.inr (by assumption)) ?_))) (by omega)
      · have y1 : ¬ (len.toInt ≤ toI.toInt) := y_cif z
        have lt : 40 < len.toInt.toNat := by
          rcases Nat.lt_or_ge 40 len.toInt.toNat with w | w
          · exact w
          · have et : pr_t len.toInt.toNat = len.toInt.toNat := if_neg (by omega)
            omega
        have et : pr_t len.toInt.toNat = 40 := if_pos lt
        exact out (y_st f0 hH (by repeat (first | exact w_nil | refine w_cons (Or.inl (y_m rfl)) ?_ | refine w_cons (Or.inr (by assumption)) ?_)) (by repeat (first | exact w_nil | refine w_cons (Or.inl (y_m rfl)) ?_ | refine w_cons (Or.inr (by assumption)) ?_))) (by rw [ew, if_pos lt]; omega)
    | false =>
      have ew : pr_wr (y_N sg) len.toInt.toNat nd.toInt = (q : Nat) := by
        unfold pr_wr
        rw [if_neg (by rw [hb]; decide), hq]
      refine w_go z_hl [97] [] 40 e.1 ?_
      refine ⟨fun z => absurd z (by decide), fun _ => ?_⟩
      intro x hx _ _
      obtain rfl := y_fi a4 hx
      intro y hy _ _
      obtain rfl := y_fi a2 hy
      refine ⟨fun z => ⟨fun _ => fun H hH => ?_, fun z2 => absurd z2 (by decide)⟩, fun z => fun H hH => ?_⟩
      · have y1 : toI.toInt ≤ atI.toInt := (y_ci .ge _ _).mp z
        exact out (y_st f0 hH (by repeat (first | exact w_nil | refine w_cons (Or.inl (y_m rfl)) ?_ | refine w_cons (Or.inr (by assumption)) ?_)) (by repeat (first | exact w_nil | refine w_cons (Or.inl (y_m rfl)) ?_ | refine w_cons (Or.inr (by assumption)) ?_))) (by rw [ew]; omega)
      · exact out (y_st f0 hH (by repeat (first | exact w_nil | refine w_cons (Or.inl (y_m rfl)) ?_ | refine w_cons (Or.inr (by assumption)) ?_)) (by repeat (first | exact w_nil | refine w_cons (Or.inl (y_m rfl)) ?_ | refine w_cons (Or.inr (by assumption)) ?_))) (by rw [ew]; exact a5)
  have T37 : ∀ {G : aH} {q : Nat} (b : Bool), y_fr h G [1538, 1539, 1540, 5505, 5506] [45, 46, 47, 48, 49] → tx_s nd G sg (pr_t len.toInt.toNat) q → pr_sy (y_N sg) (pr_t len.toInt.toNat) nd.toInt = (b, q) → aOK s_P X (d + 6) a_m78 37 [some (.ref 14), some (.int len), some (.int nd), some (.ref 45), none] [.int (y_01 b)] G C S K0 := by
    intro G q b e s hs
    obtain ⟨toI, atI, -, a1, a2, a3, a4, a5, a6, pt, t40⟩ := id s
    have f0 : y_fr G G [] [] := y_rf e.1
    cases b with
    | true =>
      refine w_go z_hl [56] [] 40 e.1 ?_
      refine ⟨fun z => absurd z (by decide), fun _ => ?_⟩
      intro x hx _ _
      obtain rfl := y_fi a4 hx
      intro y hy _ _
      obtain rfl := y_fi a2 hy
      refine ⟨fun z => fun H hH => ?_, fun z => fun H hH => ?_⟩
      · have y1 : atI.toInt ≠ toI.toInt := (y_ci .ne _ _).mp z
        have f : y_fr G H [] [] := y_st f0 hH (by repeat (first | exact w_nil | refine w_cons (Or.inl (y_m rfl)) ?_ | refine w_cons (Or.inr (by assumption)) ?_)) (by repeat (first | exact w_nil | refine w_cons (Or.inl (y_m rfl)) ?_ | refine w_cons (Or.inr (by assumption)) ?_))
        refine T56 false (y_sq e f rfl rfl) (tx_s_fr s f rfl rfl) (by rw [hs]) ?_
        unfold pr_wh
        rw [hs]
        show (true && decide (q = pr_t len.toInt.toNat)) = false
        rw [decide_eq_false (by omega)]
        rfl
      · have y1 : ¬ (atI.toInt ≠ toI.toInt) := y_cif z
        have f : y_fr G H [] [] := y_st f0 hH (by repeat (first | exact w_nil | refine w_cons (Or.inl (y_m rfl)) ?_ | refine w_cons (Or.inr (by assumption)) ?_)) (by repeat (first | exact w_nil | refine w_cons (Or.inl (y_m rfl)) ?_ | refine w_cons (Or.inr (by assumption)) ?_))
        refine T56 true (y_sq e f rfl rfl) (tx_s_fr s f rfl rfl) (by rw [hs]) ?_
        unfold pr_wh
        rw [hs]
        show (true && decide (q = pr_t len.toInt.toNat)) = true
        rw [decide_eq_true (by omega)]
        rfl
    | false =>
      refine w_go z_hl [56] [] 40 e.1 ?_
      refine ⟨fun _ => fun H hH => ?_, fun z => absurd z (by decide)⟩
      have f : y_fr G H [] [] := y_st f0 hH (by repeat (first | exact w_nil | refine w_cons (Or.inl (y_m rfl)) ?_ | refine w_cons (Or.inr (by assumption)) ?_)) (by repeat (first | exact w_nil | refine w_cons (Or.inl (y_m rfl)) ?_ | refine w_cons (Or.inr (by assumption)) ?_))
      refine T56 false (y_sq e f rfl rfl) (tx_s_fr s f rfl rfl) (by rw [hs]) ?_
      unfold pr_wh
      rw [hs]
      rfl
  have T29n : ∀ {G : aH} {q : Nat}, y_fr h G [1538, 1539, 1540, 5505, 5506] [45, 46, 47, 48, 49] → tx_s nd G sg (pr_t len.toInt.toNat) q → pr_sy (y_N sg) (pr_t len.toInt.toNat) nd.toInt = (false, q) → aOK s_P X (d + 6) a_m78 29 [some (.ref 14), some (.int len), some (.int nd), some (.ref 45), none] [.int (y_01 false)] G C S K0 := by
    intro G q e s hs
    refine w_go z_hl [56] [] 40 e.1 ?_
    refine ⟨fun _ => fun H hH => ?_, fun z => absurd z (by decide)⟩
    have f : y_fr G H [] [] := y_st (y_rf e.1) hH (by repeat (first | exact w_nil | refine w_cons (Or.inl (y_m rfl)) ?_ | refine w_cons (Or.inr (by assumption)) ?_)) (by repeat (first | exact w_nil | refine w_cons (Or.inl (y_m rfl)) ?_ | refine w_cons (Or.inr (by assumption)) ?_))
    refine T56 false (y_sq e f rfl rfl) (tx_s_fr s f rfl rfl) (by rw [hs]) ?_
    unfold pr_wh
    rw [hs]
    rfl
  have T29 : ∀ {G : aH} {q k : Nat} {rel : Int32}, y_fr h G [1538, 1539, 1540, 5505, 5506] [45, 46, 47, 48, 49] → tx_s nd G sg (pr_t len.toInt.toNat) (q + 1) → pr_tm (y_N sg) (pr_t len.toInt.toNat) nd.toInt 0 = (true, q, k) → w_f G 5506 = some (.int rel) → ((pr_k (y_N sg) (pr_t len.toInt.toNat) q = 126 ∧ k = 1) ∧ rel.toInt = 126) ∨ (¬ (pr_k (y_N sg) (pr_t len.toInt.toNat) q = 126 ∧ k = 1) ∧ (pr_k (y_N sg) (pr_t len.toInt.toNat) q = 61 ∨ pr_k (y_N sg) (pr_t len.toInt.toNat) q = 60 ∨ pr_k (y_N sg) (pr_t len.toInt.toNat) q = 62) ∧ rel.toInt ≠ 126) → aOK s_P X (d + 6) a_m78 29 [some (.ref 14), some (.int len), some (.int nd), some (.ref 45), none] [.int (y_01 true)] G C S K0 := by
    intro G q k rel e s ht gr hw
    refine w_go z_hl [56] [90] 40 e.1 ?_
    refine ⟨fun z => absurd z (by decide), fun _ => fun H hH => ?_⟩
    have f : y_fr G H [] [] := y_st (y_rf e.1) hH (by repeat (first | exact w_nil | refine w_cons (Or.inl (y_m rfl)) ?_ | refine w_cons (Or.inr (by assumption)) ?_)) (by repeat (first | exact w_nil | refine w_cons (Or.inl (y_m rfl)) ?_ | refine w_cons (Or.inr (by assumption)) ?_))
    refine c_second4 (d := d) n0 n10 (tx_s_fr s f rfl rfl) ((y_fe f rfl).trans gr) (fun b r k2 H2 f2 s3 h1 h2 => ⟨fun n e => (by cases e), ?_⟩)
    refine T37 b (y_sq (y_sq e f rfl rfl) f2 rfl rfl) s3 ?_
    rcases hw with ⟨⟨w1, w2⟩, w3⟩ | ⟨w1, w2, w3⟩
    · rw [w2] at ht
      exact pr_sy_b ht w1 (h1 w3)
    · exact pr_sy_c ht w1 w2 (h2 w3)
  have T24 : ∀ {G : aH} {fr : List Int32}, y_fr h G [1538, 1539, 1540, 5505, 5506] [45, 46, 47, 48, 49] → tx_s nd G sg (pr_t len.toInt.toNat) 0 → w_a G 45 = some (0, .inl fr) → (∀ j, j < 4 → y_N fr j = -1) → aOK s_P X (d + 6) a_m78 24 [some (.ref 14), some (.int len), some (.int nd), some (.ref 45), none] [] G C S K0 := by
    intro G fr e s g hf
    refine w_go z_hl [56] [80] 40 e.1 ?_
    intro H hH
    have f : y_fr G H [] [] := y_st (y_rf e.1) hH (by repeat (first | exact w_nil | refine w_cons (Or.inl (y_m rfl)) ?_ | refine w_cons (Or.inr (by assumption)) ?_)) (by repeat (first | exact w_nil | refine w_cons (Or.inl (y_m rfl)) ?_ | refine w_cons (Or.inr (by assumption)) ?_))
    refine c_first4 (d := d) n0 n10 (tx_s_fr s f rfl rfl) ((y_ae f rfl).trans g) (hf 0 (by decide)) (hf 1 (by decide)) (fun q k H2 rel fr' f2 s3 ht gr g3 hw => ⟨fun n e => (by cases e), ?_⟩) (fun q H2 f2 s3 hs => ⟨fun n e => (by cases e), ?_⟩)
    · exact T29 (y_sq (y_sq e f rfl rfl) f2 rfl rfl) s3 ht gr hw
    · exact T29n (y_sq (y_sq e f rfl rfl) f2 rfl rfl) s3 hs
  refine w_go z_hl [56] [79] 60 hr ?_
  refine ⟨rfl, y_zini (by decide) (by decide), ?_⟩
  refine ⟨fun z => ⟨rfl, y_zini (by decide) (by decide), rfl, y_zini n0 n10, fun H hH => ?_⟩, fun z => ⟨rfl, y_zini l0 ?_, rfl, y_zini n0 n10, fun H hH => ?_⟩⟩
  · have y1 : ((Int8.ofInt 40).toInt32).toInt < len.toInt := (y_ci .gt _ _).mp z
    rw [c40] at y1
    have et : pr_t len.toInt.toNat = 40 := if_pos (by omega)
    have f : y_fr h H [1538, 1539, 1540] [] := y_st (y_mo (y_rf hr) rfl rfl) hH (by repeat (first | exact w_nil | refine w_cons (Or.inl (y_m rfl)) ?_ | refine w_cons (Or.inr (by assumption)) ?_)) (by repeat (first | exact w_nil | refine w_cons (Or.inl (y_m rfl)) ?_ | refine w_cons (Or.inr (by assumption)) ?_))
    have s : tx_s nd H sg (pr_t len.toInt.toNat) 0 := ⟨_, _, f.1, (y_ae f rfl).trans gs, hH.2.1 1539 _ rfl, by rw [et]; exact c40, hH.2.1 1538 _ rfl, rfl, hH.2.1 1540 _ rfl, Nat.zero_le _, tl.1⟩
    refine c_clear4 f.1 (fun H2 fr f2 g2 hf => ⟨fun n e => (by cases e), ?_⟩)
    exact T24 (y_sq (y_mo f rfl rfl) f2 rfl rfl) (tx_s_fr s f2 rfl rfl) g2 hf
  · have y1 : ¬ (((Int8.ofInt 40).toInt32).toInt < len.toInt) := y_cif z
    rw [c40] at y1
    show len.toInt ≤ 40
    omega
  · have y1 : ¬ (((Int8.ofInt 40).toInt32).toInt < len.toInt) := y_cif z
    rw [c40] at y1
    have et : pr_t len.toInt.toNat = len.toInt.toNat := if_neg (by omega)
    have f : y_fr h H [1538, 1539, 1540] [] := y_st (y_mo (y_rf hr) rfl rfl) hH (by repeat (first | exact w_nil | refine w_cons (Or.inl (y_m rfl)) ?_ | refine w_cons (Or.inr (by assumption)) ?_)) (by repeat (first | exact w_nil | refine w_cons (Or.inl (y_m rfl)) ?_ | refine w_cons (Or.inr (by assumption)) ?_))
    have s : tx_s nd H sg (pr_t len.toInt.toNat) 0 := ⟨_, _, f.1, (y_ae f rfl).trans gs, hH.2.1 1539 _ rfl, by rw [et]; omega, hH.2.1 1538 _ rfl, rfl, hH.2.1 1540 _ rfl, Nat.zero_le _, tl.1⟩
    refine c_clear4 f.1 (fun H2 fr f2 g2 hf => ⟨fun n e => (by cases e), ?_⟩)
    exact T24 (y_sq (y_mo f rfl rfl) f2 rfl rfl) (tx_s_fr s f2 rfl rfl) g2 hf
end PPS4
end PT33icf
section PT33icg
/-! ===== v21: parseEvent of the class with saying 5 (laid by wip/tools/mk21c.py) ===== -/
section PEV5
variable {X : aX} {C S d : Nat} {K0 : Option Value → aH → Nat → Nat → Prop} {sg : List Int32} {t : Nat} {nd : Int32}
theorem c_evl5 (n0 : 0 ≤ nd.toInt) (n10 : nd.toInt ≤ 10) {pI : Int32} {pa : Nat} (hpa : pI.toInt = pa) (pa4 : pa < 4) : ∀ (m : Nat) (h : aH) (p : Nat) (oI : Int32) (o : Nat) (o4 : Option Value), tx_s nd h sg t p → oI.toInt = o → o ≤ 5 → t - p ≤ m → (∀ (b : Bool) (q : Nat) (H : aH), y_fr h H [1538] [53, 54] → tx_s nd H sg t q → pr_E (y_N sg) t nd.toInt false p o = (b, q) → K0 (some (.int (y_01 b))) H C S) → aOK s_P X (d + 2) a_m87 12 [some (.ref 14), some (.ref 52), some (.int pI), some (.int oI), o4] [] h C S K0 := by
  have c33 : ((Int8.ofInt 33).toInt32).toInt = 33 := by decide
  have c38 : ((Int8.ofInt 38).toInt32).toInt = 38 := by decide
  have c40 : ((Int8.ofInt 40).toInt32).toInt = 40 := by decide
  have c97 : ((Int8.ofInt 97).toInt32).toInt = 97 := by decide
  have c124 : ((Int8.ofInt 124).toInt32).toInt = 124 := by decide
  have c5 : (Int32.ofInt 5).toInt = 5 := by decide
  have z0 : (0 : Int32).toInt = 0 := by decide
  have cn : ((Int8.ofInt 97).toInt32 + nd).toInt = 97 + nd.toInt := by
    rw [Int32.toInt_add, c97]
    exact Int.bmod_eq_of_le (by omega) (by omega)
  intro m
  induction m with
  | zero =>
    intro h p oI o o4 s ho o5 hm hK
    obtain ⟨toI, atI, hr, a1, a2, a3, a4, a5, a6, pt, t40⟩ := id s
    refine w_go z_hl [12] [82] 30 hr ?_
    intro x hx _ _
    obtain rfl := y_fi a4 hx
    intro y hy _ _
    obtain rfl := y_fi a2 hy
    refine ⟨fun _ => ⟨by decide, fun H hH => ?_⟩, fun z => ?_⟩
    · have f : y_fr h H [] [] := y_st (y_rf hr) hH (by repeat (first | exact w_nil | refine w_cons (Or.inl (y_m rfl)) ?_ | refine w_cons (Or.inr (by assumption)) ?_)) (by repeat (first | exact w_nil | refine w_cons (Or.inl (y_m rfl)) ?_ | refine w_cons (Or.inr (by assumption)) ?_))
      have k0 : pr_k (y_N sg) t p = 0 := if_neg (by omega)
      exact hK false p H (y_mo f rfl rfl) (tx_s_fr s f rfl rfl) (pr_bad (by omega) (by omega) (fun w => by have := w.1; omega) (fun w => by have := w.1; omega))
    · have y1 : ¬ (toI.toInt ≤ atI.toInt) := y_cif z
      exfalso
      omega
  | succ m ih =>
    intro h p oI o o4 s ho o5 hm hK
    obtain ⟨toI, atI, hr, a1, a2, a3, a4, a5, a6, pt, t40⟩ := id s
    -- on to the next sign
    have T189 : ∀ {G : aH} {oJ : Int32} {q o' : Nat} {p4 : Option Value}, y_fr h G [1538] [53, 54] → tx_s nd G sg t q → p < q → q < t → oJ.toInt = o' → o' ≤ 5 → pr_E (y_N sg) t nd.toInt false p o = pr_E (y_N sg) t nd.toInt false (q + 1) o' → aOK s_P X (d + 2) a_m87 189 [some (.ref 14), some (.ref 52), some (.int pI), some (.int oJ), p4] [] G C S K0 := by
      intro G oJ q o' p4 e s2 pq qt hoJ o5' hE
      obtain ⟨toJ, atJ, -, b1, b2, b3, b4, b5, b6, -, -⟩ := id s2
      have inc : (atJ + Int32.ofInt 1).toInt = ((q + 1 : Nat) : Int) := by rw [y_inc (by omega), b5]; rfl
      refine w_go z_hl [12] [82] 30 e.1 ?_
      intro x hx _ _
      obtain rfl := y_fi b4 hx
      refine ⟨rfl, y_zini (by show 0 ≤ (atJ + Int32.ofInt 1).toInt; omega) (by show (atJ + Int32.ofInt 1).toInt ≤ 40; omega), fun H hH => ?_⟩
      have f : y_fr G H [1538] [] := y_st (y_mo (y_rf e.1) rfl rfl) hH (by repeat (first | exact w_nil | refine w_cons (Or.inl (y_m rfl)) ?_ | refine w_cons (Or.inr (by assumption)) ?_)) (by repeat (first | exact w_nil | refine w_cons (Or.inl (y_m rfl)) ?_ | refine w_cons (Or.inr (by assumption)) ?_))
      exact ih H (q + 1) _ o' _ (tx_s_at s2 f rfl (hH.2.1 1538 _ rfl) inc (by omega)) hoJ o5' (by omega) (fun b r H' f1 f2 f3 => hK b r H' (y_sq (y_sq e f rfl rfl) f1 rfl rfl) f2 (hE.trans f3))
    have T143 : ∀ {G : aH} {oJ cI : Int32} {q o' : Nat}, y_fr h G [1538] [53, 54] → tx_s nd G sg t q → p < q → q < t → oJ.toInt = o' → o' ≤ 5 → pr_E (y_N sg) t nd.toInt false p o = pr_E (y_N sg) t nd.toInt false (q + 1) o' → aOK s_P X (d + 2) a_m87 143 [some (.ref 14), some (.ref 52), some (.int pI), some (.int oJ), some (.int cI)] [] G C S K0 := by
      intro G oJ cI q o' e s2 pq qt hoJ o5' hE
      have f0 : y_fr G G [] [] := y_rf e.1
      have T168 : ∀ {G2 : aH}, y_fr G G2 [] [53] → aOK s_P X (d + 2) a_m87 168 [some (.ref 14), some (.ref 52), some (.int pI), some (.int oJ), some (.int cI)] [] G2 C S K0 := by
        intro G2 f
        refine w_go z_hl [189] [82] 40 f.1 ?_
        refine ⟨⟨by omega, by omega⟩, fun l hl len bb => ⟨fun _ => ⟨⟨by omega, by omega⟩, y_l32 _, fun H hH => ?_⟩, fun _ => ⟨⟨by omega, by omega⟩, y_l32 _, fun H hH => ?_⟩⟩⟩
        · have f2 : y_fr G H [] [53, 54] := y_st (y_mo f rfl rfl) hH (by repeat (first | exact w_nil | refine w_cons (Or.inl (y_m rfl)) ?_ | refine w_cons (Or.inr (by assumption)) ?_)) (by repeat (first | exact w_nil | refine w_cons (Or.inl (y_m rfl)) ?_ | refine w_cons (Or.inr (by assumption)) ?_))
          exact T189 (y_sq e (y_mo f2 rfl rfl : y_fr G H [1538] [53, 54]) rfl rfl) (tx_s_fr s2 f2 rfl rfl) pq qt hoJ o5' hE
        · have f2 : y_fr G H [] [53, 54] := y_st (y_mo f rfl rfl) hH (by repeat (first | exact w_nil | refine w_cons (Or.inl (y_m rfl)) ?_ | refine w_cons (Or.inr (by assumption)) ?_)) (by repeat (first | exact w_nil | refine w_cons (Or.inl (y_m rfl)) ?_ | refine w_cons (Or.inr (by assumption)) ?_))
          exact T189 (y_sq e (y_mo f2 rfl rfl : y_fr G H [1538] [53, 54]) rfl rfl) (tx_s_fr s2 f2 rfl rfl) pq qt hoJ o5' hE
      refine w_go z_hl [168, 189] [82] 40 e.1 ?_
      refine ⟨fun _ => fun H hH => ?_, fun _ => ⟨⟨by omega, by omega⟩, fun l hl len bb => ⟨fun _ => ⟨⟨by omega, by omega⟩, y_l32 _, fun H hH => ?_⟩, fun _ => ⟨⟨by omega, by omega⟩, y_l32 _, fun H hH => ?_⟩⟩⟩⟩
      · have f2 : y_fr G H [] [] := y_st f0 hH (by repeat (first | exact w_nil | refine w_cons (Or.inl (y_m rfl)) ?_ | refine w_cons (Or.inr (by assumption)) ?_)) (by repeat (first | exact w_nil | refine w_cons (Or.inl (y_m rfl)) ?_ | refine w_cons (Or.inr (by assumption)) ?_))
        exact T189 (y_sq e f2 rfl rfl) (tx_s_fr s2 f2 rfl rfl) pq qt hoJ o5' hE
      · exact T168 (y_st (y_mo f0 rfl rfl) hH (by repeat (first | exact w_nil | refine w_cons (Or.inl (y_m rfl)) ?_ | refine w_cons (Or.inr (by assumption)) ?_)) (by repeat (first | exact w_nil | refine w_cons (Or.inl (y_m rfl)) ?_ | refine w_cons (Or.inr (by assumption)) ?_)))
      · exact T168 (y_st (y_mo f0 rfl rfl) hH (by repeat (first | exact w_nil | refine w_cons (Or.inl (y_m rfl)) ?_ | refine w_cons (Or.inr (by assumption)) ?_)) (by repeat (first | exact w_nil | refine w_cons (Or.inl (y_m rfl)) ?_ | refine w_cons (Or.inr (by assumption)) ?_)))
    have T117 : ∀ {G : aH} {oJ cI : Int32} {q o' : Nat} {p4 : Option Value}, y_fr h G [1538] [] → tx_s nd G sg t q → p < q → oJ.toInt = o' → o' ≤ 5 → cI.toInt = pr_k (y_N sg) t q → pr_E (y_N sg) t nd.toInt false p o = pr_E (y_N sg) t nd.toInt true q o' → ¬ (pr_k (y_N sg) t q = 41 ∧ 0 < o') → aOK s_P X (d + 2) a_m87 117 [some (.ref 14), some (.ref 52), some (.int pI), some (.int oJ), p4] [.int cI] G C S K0 := by
      intro G oJ cI q o' p4 e s2 pq hoJ o5' hc hE h41
      have q40 := (tx_s_hr s2).2.1
      have f0 : y_fr G G [] [] := y_rf e.1
      refine w_go z_hl [143] [82] 40 e.1 ?_
      refine ⟨fun z => fun H hH => ?_, fun z => ⟨fun z2 => fun H hH => ?_, fun z2 => ⟨fun z3 => ⟨by decide, fun H hH => ?_⟩, fun z3 => ⟨by decide, fun H hH => ?_⟩⟩⟩⟩
      · have y1 : cI.toInt = ((Int8.ofInt 38).toInt32).toInt := (y_ci .eq _ _).mp z
        rw [c38, hc] at y1
        have f2 : y_fr G H [] [] := y_st f0 hH (by repeat (first | exact w_nil | refine w_cons (Or.inl (y_m rfl)) ?_ | refine w_cons (Or.inr (by assumption)) ?_)) (by repeat (first | exact w_nil | refine w_cons (Or.inl (y_m rfl)) ?_ | refine w_cons (Or.inr (by assumption)) ?_))
        exact T143 (y_mo (y_sq e f2 rfl rfl) rfl rfl) (tx_s_fr s2 f2 rfl rfl) pq (pr_k_t (by decide) y1) hoJ o5' (hE.trans (pr_op (by omega) (Or.inl y1)))
      · have y1 : cI.toInt = ((Int8.ofInt 124).toInt32).toInt := (y_ci .eq _ _).mp z2
        rw [c124, hc] at y1
        have f2 : y_fr G H [] [] := y_st f0 hH (by repeat (first | exact w_nil | refine w_cons (Or.inl (y_m rfl)) ?_ | refine w_cons (Or.inr (by assumption)) ?_)) (by repeat (first | exact w_nil | refine w_cons (Or.inl (y_m rfl)) ?_ | refine w_cons (Or.inr (by assumption)) ?_))
        exact T143 (y_mo (y_sq e f2 rfl rfl) rfl rfl) (tx_s_fr s2 f2 rfl rfl) pq (pr_k_t (by decide) y1) hoJ o5' (hE.trans (pr_op (by omega) (Or.inr y1)))
      · have y1 : ¬ (cI.toInt = ((Int8.ofInt 38).toInt32).toInt) := y_cif z
        have y2 : ¬ (cI.toInt = ((Int8.ofInt 124).toInt32).toInt) := y_cif z2
        have y3 : oJ.toInt ≠ (0 : Int32).toInt := (y_ci .ne _ _).mp z3
        rw [c38, hc] at y1
        rw [c124, hc] at y2
        rw [z0] at y3
        have f2 : y_fr G H [] [] := y_st f0 hH (by repeat (first | exact w_nil | refine w_cons (Or.inl (y_m rfl)) ?_ | refine w_cons (Or.inr (by assumption)) ?_)) (by repeat (first | exact w_nil | refine w_cons (Or.inl (y_m rfl)) ?_ | refine w_cons (Or.inr (by assumption)) ?_))
        refine hK false q H (y_mo (y_sq e f2 rfl rfl) rfl rfl) (tx_s_fr s2 f2 rfl rfl) (hE.trans ?_)
        rw [pr_end (by omega) h41 y1 y2, decide_eq_false (by omega)]
      · have y1 : ¬ (cI.toInt = ((Int8.ofInt 38).toInt32).toInt) := y_cif z
        have y2 : ¬ (cI.toInt = ((Int8.ofInt 124).toInt32).toInt) := y_cif z2
        have y3 : ¬ (oJ.toInt ≠ (0 : Int32).toInt) := y_cif z3
        rw [c38, hc] at y1
        rw [c124, hc] at y2
        rw [z0] at y3
        have f2 : y_fr G H [] [] := y_st f0 hH (by repeat (first | exact w_nil | refine w_cons (Or.inl (y_m rfl)) ?_ | refine w_cons (Or.inr (by assumption)) ?_)) (by repeat (first | exact w_nil | refine w_cons (Or.inl (y_m rfl)) ?_ | refine w_cons (Or.inr (by assumption)) ?_))
        refine hK true q H (y_mo (y_sq e f2 rfl rfl) rfl rfl) (tx_s_fr s2 f2 rfl rfl) (hE.trans ?_)
        rw [pr_end (by omega) h41 y1 y2, decide_eq_true (by omega)]
    have T112 : ∀ {G : aH} {oJ : Int32} {q o' : Nat} {p3 p4 : Option Value}, y_fr h G [1538] [] → tx_s nd G sg t q → p < q → oJ.toInt = o' → o' ≤ 5 → pr_E (y_N sg) t nd.toInt false p o = pr_E (y_N sg) t nd.toInt true q o' → ¬ (pr_k (y_N sg) t q = 41 ∧ 0 < o') → aOK s_P X (d + 2) a_m87 112 [some (.ref 14), some (.ref 52), some (.int pI), p3, p4] [.int oJ] G C S K0 := by
      intro G oJ q o' p3 p4 e s2 pq hoJ o5' hE h41
      refine w_go z_hl [143] [82] 20 e.1 ?_
      intro H hH
      have f2 : y_fr G H [] [] := y_st (y_rf e.1) hH (by repeat (first | exact w_nil | refine w_cons (Or.inl (y_m rfl)) ?_ | refine w_cons (Or.inr (by assumption)) ?_)) (by repeat (first | exact w_nil | refine w_cons (Or.inl (y_m rfl)) ?_ | refine w_cons (Or.inr (by assumption)) ?_))
      refine c_lkT (tx_s_fr s2 f2 rfl rfl) (fun r H2 f3 er => ⟨fun n e => (by cases e), ?_⟩)
      exact T117 (y_sq (y_sq e f2 rfl rfl) f3 rfl rfl) (tx_s_fr (tx_s_fr s2 f2 rfl rfl) f3 rfl rfl) pq hoJ o5' er hE h41
    have T97 : ∀ {G : aH} {cI : Int32}, y_fr h G [] [] → p < t → 97 ≤ pr_k (y_N sg) t p → pr_k (y_N sg) t p < 97 + nd.toInt → aOK s_P X (d + 2) a_m87 97 [some (.ref 14), some (.ref 52), some (.int pI), some (.int oI), some (.int cI)] [] G C S K0 := by
      intro G cI e ptt h97 h98
      have s2 := tx_s_fr s e rfl rfl
      have inc : (atI + Int32.ofInt 1).toInt = ((p + 1 : Nat) : Int) := by rw [y_inc (by omega), a5]; rfl
      refine w_go z_hl [12] [88] 30 e.1 ?_
      intro x hx _ _
      obtain rfl := y_fi ((y_fe e rfl).trans a4) hx
      refine ⟨rfl, y_zini (by show 0 ≤ (atI + Int32.ofInt 1).toInt; omega) (by show (atI + Int32.ofInt 1).toInt ≤ 40; omega), fun H hH => ?_⟩
      have f : y_fr G H [1538] [] := y_st (y_mo (y_rf e.1) rfl rfl) hH (by repeat (first | exact w_nil | refine w_cons (Or.inl (y_m rfl)) ?_ | refine w_cons (Or.inr (by assumption)) ?_)) (by repeat (first | exact w_nil | refine w_cons (Or.inl (y_m rfl)) ?_ | refine w_cons (Or.inr (by assumption)) ?_))
      have s3 := tx_s_at s2 f rfl (hH.2.1 1538 _ rfl) inc (by omega)
      obtain ⟨k1, k2, k3, k4, k5⟩ := pr_c_p (T := y_N sg) (n := nd.toInt) t40 o (p + 1) (by omega)
      refine c_closeBr (d := d) s3 ho o5 (fun r H2 f2 s4 er => ⟨fun n e => (by cases e), ?_⟩)
      exact T112 (y_sq (y_sq (y_mo e rfl rfl) f rfl rfl) f2 rfl rfl) s4 (by omega) er (by omega) ((pr_let (by omega) h97 h98).trans k4) k5
    have T76 : ∀ {G : aH} {cI : Int32}, y_fr h G [] [] → p < t → cI.toInt = pr_k (y_N sg) t p → pr_k (y_N sg) t p ≠ 33 → ¬ (pr_k (y_N sg) t p = 40 ∧ o < 5) → aOK s_P X (d + 2) a_m87 76 [some (.ref 14), some (.ref 52), some (.int pI), some (.int oI), some (.int cI)] [] G C S K0 := by
      intro G cI e ptt hc h33 h40
      have bad : ∀ {H : aH}, y_fr h H [] [] → ¬ (97 ≤ pr_k (y_N sg) t p ∧ pr_k (y_N sg) t p < 97 + nd.toInt) → K0 (some (.int (y_01 false))) H C S := fun f w => hK false p _ (y_mo f rfl rfl) (tx_s_fr s f rfl rfl) (pr_bad (by omega) h33 h40 w)
      refine w_go z_hl [97] [88] 30 e.1 ?_
      refine ⟨fun z => ⟨by decide, fun H hH => bad (y_st e hH (by repeat (first | exact w_nil | refine w_cons (Or.inl (y_m rfl)) ?_ | refine w_cons (Or.inr (by assumption)) ?_)) (by repeat (first | exact w_nil | refine w_cons (Or.inl (y_m rfl)) ?_ | refine w_cons (Or.inr (by assumption)) ?_))) (fun w => ?_)⟩, fun z => ?_⟩
      · have y1 : cI.toInt < ((Int8.ofInt 97).toInt32).toInt := (y_ci .lt _ _).mp z
        rw [c97, hc] at y1
        have := w.1
        omega
      · have y1 : ¬ (cI.toInt < ((Int8.ofInt 97).toInt32).toInt) := y_cif z
        rw [c97, hc] at y1
        intro x hx _ _
        obtain rfl := y_fi ((y_fe e rfl).trans a6) hx
        refine ⟨fun z2 => fun H hH => ?_, fun z2 => ⟨by decide, fun H hH => bad (y_st e hH (by repeat (first | exact w_nil | refine w_cons (Or.inl (y_m rfl)) ?_ | refine w_cons (Or.inr (by assumption)) ?_)) (by repeat (first | exact w_nil | refine w_cons (Or.inl (y_m rfl)) ?_ | refine w_cons (Or.inr (by assumption)) ?_))) (fun w => ?_)⟩⟩
        · have y2 : cI.toInt < ((Int8.ofInt 97).toInt32 + nd).toInt := (y_ci .lt _ _).mp z2
          rw [cn, hc] at y2
          exact T97 (y_st e hH (by repeat (first | exact w_nil | refine w_cons (Or.inl (y_m rfl)) ?_ | refine w_cons (Or.inr (by assumption)) ?_)) (by repeat (first | exact w_nil | refine w_cons (Or.inl (y_m rfl)) ?_ | refine w_cons (Or.inr (by assumption)) ?_))) ptt (by omega) y2
        · have y2 : ¬ (cI.toInt < ((Int8.ofInt 97).toInt32 + nd).toInt) := y_cif z2
          rw [cn, hc] at y2
          exact y2 w.2
    have T48 : ∀ {G : aH} {cI : Int32} (b : Bool), y_fr h G [] [] → p < t → cI.toInt = (if b then 40 else 33) → pr_E (y_N sg) t nd.toInt false p o = pr_E (y_N sg) t nd.toInt false (p + 1) (o + (if b then 1 else 0)) → o + (if b then 1 else 0) ≤ 5 → aOK s_P X (d + 2) a_m87 48 [some (.ref 14), some (.ref 52), some (.int pI), some (.int oI), some (.int cI)] [] G C S K0 := by
      intro G cI b e ptt hc hE o5'
      have s2 := tx_s_fr s e rfl rfl
      have inc : (atI + Int32.ofInt 1).toInt = ((p + 1 : Nat) : Int) := by rw [y_inc (by omega), a5]; rfl
      cases b with
      | true =>
        have hc' : cI.toInt = 40 := hc
        have ino : (oI + Int32.ofInt 1).toInt = ((o + 1 : Nat) : Int) := by rw [y_inc (by omega), ho]; rfl
        have o6 : o + 1 ≤ 5 := o5'
        refine w_go z_hl [12] [88] 40 e.1 ?_
        refine ⟨fun z => ?_, fun _ => ?_⟩
        · have y1 : cI.toInt ≠ ((Int8.ofInt 40).toInt32).toInt := (y_ci .ne _ _).mp z
          rw [c40] at y1
          exact absurd hc' y1
        · intro x hx _ _
          obtain rfl := y_fi ((y_fe e rfl).trans a4) hx
          refine ⟨rfl, y_zini (by show 0 ≤ (atI + Int32.ofInt 1).toInt; omega) (by show (atI + Int32.ofInt 1).toInt ≤ 40; omega), fun H hH => ?_⟩
          have f : y_fr G H [1538] [] := y_st (y_mo (y_rf e.1) rfl rfl) hH (by repeat (first | exact w_nil | refine w_cons (Or.inl (y_m rfl)) ?_ | refine w_cons (Or.inr (by assumption)) ?_)) (by repeat (first | exact w_nil | refine w_cons (Or.inl (y_m rfl)) ?_ | refine w_cons (Or.inr (by assumption)) ?_))
          exact ih H (p + 1) _ (o + 1) _ (tx_s_at s2 f rfl (hH.2.1 1538 _ rfl) inc (by omega)) ino o6 (by omega) (fun b r H' f1 f2 f3 => hK b r H' (y_sq (y_mo (y_sq (y_mo e rfl rfl) f rfl rfl : y_fr h H [1538] []) rfl rfl) f1 rfl rfl) f2 (hE.trans f3))
      | false =>
        have hc' : cI.toInt = 33 := hc
        have ino : (oI + Int32.ofInt 0).toInt = (o : Nat) := by rw [show Int32.ofInt 0 = (0 : Int32) by decide, Int32.add_zero]; exact ho
        refine w_go z_hl [12] [88] 40 e.1 ?_
        refine ⟨fun _ => ?_, fun z => ?_⟩
        · intro x hx _ _
          obtain rfl := y_fi ((y_fe e rfl).trans a4) hx
          refine ⟨rfl, y_zini (by show 0 ≤ (atI + Int32.ofInt 1).toInt; omega) (by show (atI + Int32.ofInt 1).toInt ≤ 40; omega), fun H hH => ?_⟩
          have f : y_fr G H [1538] [] := y_st (y_mo (y_rf e.1) rfl rfl) hH (by repeat (first | exact w_nil | refine w_cons (Or.inl (y_m rfl)) ?_ | refine w_cons (Or.inr (by assumption)) ?_)) (by repeat (first | exact w_nil | refine w_cons (Or.inl (y_m rfl)) ?_ | refine w_cons (Or.inr (by assumption)) ?_))
          exact ih H (p + 1) _ o _ (tx_s_at s2 f rfl (hH.2.1 1538 _ rfl) inc (by omega)) ino o5 (by omega) (fun b r H' f1 f2 f3 => hK b r H' (y_sq (y_mo (y_sq (y_mo e rfl rfl) f rfl rfl : y_fr h H [1538] []) rfl rfl) f1 rfl rfl) f2 (hE.trans f3))
        · have y1 : ¬ (cI.toInt ≠ ((Int8.ofInt 40).toInt32).toInt) := y_cif z
          rw [c40] at y1
          exfalso
          omega
    have T27 : ∀ {G : aH} {cI : Int32}, y_fr h G [] [] → p < t → cI.toInt = pr_k (y_N sg) t p → aOK s_P X (d + 2) a_m87 27 [some (.ref 14), some (.ref 52), some (.int pI), some (.int oI), o4] [.int cI] G C S K0 := by
      intro G cI e ptt hc
      refine w_go z_hl [48, 76] [88] 40 e.1 ?_
      refine ⟨fun z => fun H hH => ?_, fun z => ⟨fun z2 => fun H hH => ?_, fun z2 => ⟨fun z3 => fun H hH => ?_, fun z3 => fun H hH => ?_⟩⟩⟩
      · have y1 : cI.toInt = ((Int8.ofInt 33).toInt32).toInt := (y_ci .eq _ _).mp z
        rw [c33] at y1
        exact T48 false (y_st e hH (by repeat (first | exact w_nil | refine w_cons (Or.inl (y_m rfl)) ?_ | refine w_cons (Or.inr (by assumption)) ?_)) (by repeat (first | exact w_nil | refine w_cons (Or.inl (y_m rfl)) ?_ | refine w_cons (Or.inr (by assumption)) ?_))) ptt y1 (pr_bang (by omega) (hc.symm.trans y1)) o5
      · have y1 : ¬ (cI.toInt = ((Int8.ofInt 33).toInt32).toInt) := y_cif z
        have y2 : cI.toInt ≠ ((Int8.ofInt 40).toInt32).toInt := (y_ci .ne _ _).mp z2
        rw [c33, hc] at y1
        rw [c40, hc] at y2
        exact T76 (y_st e hH (by repeat (first | exact w_nil | refine w_cons (Or.inl (y_m rfl)) ?_ | refine w_cons (Or.inr (by assumption)) ?_)) (by repeat (first | exact w_nil | refine w_cons (Or.inl (y_m rfl)) ?_ | refine w_cons (Or.inr (by assumption)) ?_))) ptt hc y1 (fun w => y2 w.1)
      · have y1 : ¬ (cI.toInt = ((Int8.ofInt 33).toInt32).toInt) := y_cif z
        have y3 : (Int32.ofInt 5).toInt ≤ oI.toInt := (y_ci .ge _ _).mp z3
        rw [c33, hc] at y1
        rw [c5] at y3
        exact T76 (y_st e hH (by repeat (first | exact w_nil | refine w_cons (Or.inl (y_m rfl)) ?_ | refine w_cons (Or.inr (by assumption)) ?_)) (by repeat (first | exact w_nil | refine w_cons (Or.inl (y_m rfl)) ?_ | refine w_cons (Or.inr (by assumption)) ?_))) ptt hc y1 (fun w => by have := w.2; omega)
      · have y2 : ¬ (cI.toInt ≠ ((Int8.ofInt 40).toInt32).toInt) := y_cif z2
        have y3 : ¬ ((Int32.ofInt 5).toInt ≤ oI.toInt) := y_cif z3
        rw [c40] at y2
        rw [c5] at y3
        have y4 : cI.toInt = 40 := Decidable.not_not.mp y2
        exact T48 true (y_st e hH (by repeat (first | exact w_nil | refine w_cons (Or.inl (y_m rfl)) ?_ | refine w_cons (Or.inr (by assumption)) ?_)) (by repeat (first | exact w_nil | refine w_cons (Or.inl (y_m rfl)) ?_ | refine w_cons (Or.inr (by assumption)) ?_))) ptt y4 (pr_open (by omega) (hc.symm.trans y4) (by omega)) (by show o + 1 ≤ 5; omega)
    refine w_go z_hl [12] [82] 30 hr ?_
    intro x hx _ _
    obtain rfl := y_fi a4 hx
    intro y hy _ _
    obtain rfl := y_fi a2 hy
    refine ⟨fun z => ⟨by decide, fun H hH => ?_⟩, fun z => fun H hH => ?_⟩
    · have y1 : toI.toInt ≤ atI.toInt := (y_ci .ge _ _).mp z
      have f : y_fr h H [] [] := y_st (y_rf hr) hH (by repeat (first | exact w_nil | refine w_cons (Or.inl (y_m rfl)) ?_ | refine w_cons (Or.inr (by assumption)) ?_)) (by repeat (first | exact w_nil | refine w_cons (Or.inl (y_m rfl)) ?_ | refine w_cons (Or.inr (by assumption)) ?_))
      have k0 : pr_k (y_N sg) t p = 0 := if_neg (by omega)
      exact hK false p H (y_mo f rfl rfl) (tx_s_fr s f rfl rfl) (pr_bad (by omega) (by omega) (fun w => by have := w.1; omega) (fun w => by have := w.1; omega))
    · have y1 : ¬ (toI.toInt ≤ atI.toInt) := y_cif z
      have f : y_fr h H [] [] := y_st (y_rf hr) hH (by repeat (first | exact w_nil | refine w_cons (Or.inl (y_m rfl)) ?_ | refine w_cons (Or.inr (by assumption)) ?_)) (by repeat (first | exact w_nil | refine w_cons (Or.inl (y_m rfl)) ?_ | refine w_cons (Or.inr (by assumption)) ?_))
      refine c_lkT (tx_s_fr s f rfl rfl) (fun r H2 f2 er => ⟨fun n e => (by cases e), ?_⟩)
      exact T27 (y_sq f f2 rfl rfl) (by omega) er
theorem c_ev5 {h : aH} {p : Nat} (n0 : 0 ≤ nd.toInt) (n10 : nd.toInt ≤ 10) {pI : Int32} {pa : Nat} (hpa : pI.toInt = pa) (pa4 : pa < 4) (s : tx_s nd h sg t p) {fr : List Int32} (gf : w_a h 52 = some (0, .inl fr)) (hK : ∀ (b : Bool) (q : Nat) (aI : Int32) (H : aH), y_fr h H [1538] [52, 53, 54] → tx_s nd H sg t q → pr_E (y_N sg) t nd.toInt false p 0 = (b, q) → w_a H 52 = some (0, .inl (fr.set pa aI)) → 0 ≤ aI.toInt → K0 (some (.int (y_01 b))) H C S) : aOK s_P X (d + 2) a_m87 0 [some (.ref 14), some (.ref 52), some (.int pI), none, none] [] h C S K0 := by
  obtain ⟨toI, atI, hr, a1, a2, a3, a4, a5, a6, pt, t40⟩ := id s
  have cp := y_cl1 hpa
  refine w_go z_hl [12] [] 30 hr ?_
  intro x hx _ _
  obtain rfl := y_fi a4 hx
  refine ⟨⟨by omega, by omega⟩, ⟨by omega, by omega⟩, fun l hl len bb => fun H hH => ?_⟩
  obtain rfl := y_ai gf hl
  have w := hH.2.2.1 52 _ rfl
  rw [cp] at w
  have f : y_fr h H [] [52] := y_st (y_mo (y_rf hr) rfl rfl) hH (by repeat (first | exact w_nil | refine w_cons (Or.inl (y_m rfl)) ?_ | refine w_cons (Or.inr (by assumption)) ?_)) (by repeat (first | exact w_nil | refine w_cons (Or.inl (y_m rfl)) ?_ | refine w_cons (Or.inr (by assumption)) ?_))
  exact c_evl5 (d := d) n0 n10 hpa pa4 40 H p _ 0 _ (tx_s_fr s f rfl rfl) (by decide) (by decide) (by omega) (fun b q H' f1 f2 f3 => hK b q atI H' (y_sq (y_mo f rfl rfl) f1 rfl rfl) f2 f3 ((y_ae f1 rfl).trans w) (by omega))
end PEV5
end PT33icg
section PT33ich
/-! ===== v21: parseGiven, parseRate, parseTerm of the class with saying 5 (laid by wip/tools/mk21d.py) ===== -/
section PPT5
variable {X : aX} {C S d : Nat} {K0 : Option Value → aH → Nat → Nat → Prop} {sg : List Int32} {t p : Nat} {nd : Int32} {h : aH}
theorem c_gv5 (n0 : 0 ≤ nd.toInt) (n10 : nd.toInt ≤ 10) {sI : Int32} {sd : Nat} (hs : sI.toInt = sd) (hs2 : sd < 2) (s : tx_s nd h sg t p) {fr : List Int32} (gf : w_a h 52 = some (0, .inl fr)) (hK : ∀ (b : Bool) (q k : Nat) (H : aH) (fr' : List Int32), y_fr h H [1538] [52, 53, 54] → tx_s nd H sg t q → pr_gv (y_N sg) t nd.toInt p = (b, q, k) → w_a H 52 = some (0, .inl fr') → tx_f fr fr' sd k → K0 (some (.int (y_01 b))) H C S) : aOK s_P X (d + 3) a_m86 0 [some (.ref 14), some (.ref 52), some (.int sI)] [] h C S K0 := by
  obtain ⟨toI, atI, hr, a1, a2, a3, a4, a5, a6, pt, t40⟩ := id s
  obtain ⟨fr0, f1, fl, -⟩ := c_arr hr (ob := 52) (n := 4) (lo := -1) (hi := 40) rfl
  obtain rfl := y_ai gf f1
  have c47 : ((Int8.ofInt 47).toInt32).toInt = 47 := by decide
  have m1 : (Int32.ofInt 2 * sI).toInt = ((2 * sd : Nat) : Int) := y_mulS (m := 2) _ (by decide) hs rfl (by omega)
  have m2 : (Int32.ofInt 2 * sI + Int32.ofInt 1).toInt = ((2 * sd + 1 : Nat) : Int) := y_addS _ m1 (n := 1) (by decide) rfl (by omega)
  have T44 : ∀ {G : aH} {b : Bool} {q k : Nat} {fr' : List Int32}, y_fr h G [1538] [52, 53, 54] → tx_s nd G sg t q → pr_gv (y_N sg) t nd.toInt p = (b, q, k) → w_a G 52 = some (0, .inl fr') → tx_f fr fr' sd k → aOK s_P X (d + 3) a_m86 44 [some (.ref 14), some (.ref 52), some (.int sI)] [.int (y_01 b)] G C S K0 := by
    intro G b q k fr' e s2 hg g2 hf
    refine w_go z_hl [] [] 20 e.1 ?_
    refine ⟨y_01b b, fun H hH => ?_⟩
    have f : y_fr G H [] [] := y_st (y_rf e.1) hH (by repeat (first | exact w_nil | refine w_cons (Or.inl (y_m rfl)) ?_ | refine w_cons (Or.inr (by assumption)) ?_)) (by repeat (first | exact w_nil | refine w_cons (Or.inl (y_m rfl)) ?_ | refine w_cons (Or.inr (by assumption)) ?_))
    exact hK b q k H fr' (y_sq e f rfl rfl) (tx_s_fr s2 f rfl rfl) hg ((y_ae f rfl).trans g2) hf
  have T24 : ∀ {G : aH} {q : Nat} {aI : Int32}, y_fr h G [1538] [52, 53, 54] → tx_s nd G sg t q → q < t → pr_E (y_N sg) t nd.toInt false p 0 = (true, q) → pr_k (y_N sg) t q = 47 → w_a G 52 = some (0, .inl (fr.set (2 * sd) aI)) → 0 ≤ aI.toInt → aOK s_P X (d + 3) a_m86 24 [some (.ref 14), some (.ref 52), some (.int sI)] [] G C S K0 := by
    intro G q aI e s2 qt hE h47 g2 ha
    obtain ⟨toJ, atJ, -, b1, b2, b3, b4, b5, b6, -, -⟩ := id s2
    have inc : (atJ + Int32.ofInt 1).toInt = ((q + 1 : Nat) : Int) := by rw [y_inc (by omega), b5]; rfl
    refine w_go z_hl [] [87] 30 e.1 ?_
    intro x hx _ _
    obtain rfl := y_fi b4 hx
    refine ⟨rfl, y_zini (by show 0 ≤ (atJ + Int32.ofInt 1).toInt; omega) (by show (atJ + Int32.ofInt 1).toInt ≤ 40; omega), fun H hH => ?_⟩
    have f : y_fr G H [1538] [] := y_st (y_mo (y_rf e.1) rfl rfl) hH (by repeat (first | exact w_nil | refine w_cons (Or.inl (y_m rfl)) ?_ | refine w_cons (Or.inr (by assumption)) ?_)) (by repeat (first | exact w_nil | refine w_cons (Or.inl (y_m rfl)) ?_ | refine w_cons (Or.inr (by assumption)) ?_))
    refine c_ev5 (d := d) n0 n10 m2 (by omega) (tx_s_at s2 f rfl (hH.2.1 1538 _ rfl) inc (by omega)) ((y_ae f rfl).trans g2) (fun b r aJ H2 f2 s3 hE2 g3 ha2 => ⟨fun n e => (by cases e), ?_⟩)
    exact T44 (k := 2) (y_sq (y_sq e f rfl rfl) f2 rfl rfl) s3 (pr_gv_2 hE h47 hE2) g3 (tx_f_2 fl ha ha2 hs2)
  have T17 : ∀ {G : aH} {q : Nat} {aI cI : Int32}, y_fr h G [1538] [52, 53, 54] → tx_s nd G sg t q → cI.toInt = pr_k (y_N sg) t q → pr_E (y_N sg) t nd.toInt false p 0 = (true, q) → w_a G 52 = some (0, .inl (fr.set (2 * sd) aI)) → 0 ≤ aI.toInt → aOK s_P X (d + 3) a_m86 17 [some (.ref 14), some (.ref 52), some (.int sI)] [.int cI] G C S K0 := by
    intro G q aI cI e s2 hc hE g2 ha
    refine w_go z_hl [24] [] 30 e.1 ?_
    refine ⟨fun z => fun H hH => ?_, fun z => ⟨by decide, fun H hH => ?_⟩⟩
    · have y1 : cI.toInt = ((Int8.ofInt 47).toInt32).toInt := (y_ci .eq _ _).mp z
      rw [c47, hc] at y1
      have f : y_fr G H [] [] := y_st (y_rf e.1) hH (by repeat (first | exact w_nil | refine w_cons (Or.inl (y_m rfl)) ?_ | refine w_cons (Or.inr (by assumption)) ?_)) (by repeat (first | exact w_nil | refine w_cons (Or.inl (y_m rfl)) ?_ | refine w_cons (Or.inr (by assumption)) ?_))
      exact T24 (y_sq e f rfl rfl) (tx_s_fr s2 f rfl rfl) (pr_k_t (by decide) y1) hE y1 ((y_ae f rfl).trans g2) ha
    · have y1 : ¬ (cI.toInt = ((Int8.ofInt 47).toInt32).toInt) := y_cif z
      rw [c47, hc] at y1
      have f : y_fr G H [] [] := y_st (y_rf e.1) hH (by repeat (first | exact w_nil | refine w_cons (Or.inl (y_m rfl)) ?_ | refine w_cons (Or.inr (by assumption)) ?_)) (by repeat (first | exact w_nil | refine w_cons (Or.inl (y_m rfl)) ?_ | refine w_cons (Or.inr (by assumption)) ?_))
      exact hK true q 1 H _ (y_sq e f rfl rfl) (tx_s_fr s2 f rfl rfl) (pr_gv_1 hE y1) ((y_ae f rfl).trans g2) (tx_f_1 fl ha hs2)
  have T8 : ∀ {G : aH} {q : Nat} {aI : Int32} (b : Bool), y_fr h G [1538] [52, 53, 54] → tx_s nd G sg t q → pr_E (y_N sg) t nd.toInt false p 0 = (b, q) → w_a G 52 = some (0, .inl (fr.set (2 * sd) aI)) → 0 ≤ aI.toInt → aOK s_P X (d + 3) a_m86 8 [some (.ref 14), some (.ref 52), some (.int sI)] [.int (y_01 b)] G C S K0 := by
    intro G q aI b e s2 hE g2 ha
    cases b with
    | true =>
      refine w_go z_hl [24] [82] 30 e.1 ?_
      refine ⟨fun _ => fun H hH => ?_, fun z => absurd z (by decide)⟩
      have f : y_fr G H [] [] := y_st (y_rf e.1) hH (by repeat (first | exact w_nil | refine w_cons (Or.inl (y_m rfl)) ?_ | refine w_cons (Or.inr (by assumption)) ?_)) (by repeat (first | exact w_nil | refine w_cons (Or.inl (y_m rfl)) ?_ | refine w_cons (Or.inr (by assumption)) ?_))
      refine c_lkT (tx_s_fr s2 f rfl rfl) (fun r H2 f2 er => ⟨fun n e => (by cases e), ?_⟩)
      exact T17 (y_sq (y_sq e f rfl rfl) f2 rfl rfl) (tx_s_fr (tx_s_fr s2 f rfl rfl) f2 rfl rfl) er hE ((y_ae f2 rfl).trans ((y_ae f rfl).trans g2)) ha
    | false =>
      refine w_go z_hl [24] [82] 30 e.1 ?_
      refine ⟨fun z => absurd z (by decide), fun _ => ⟨by decide, fun H hH => ?_⟩⟩
      have f : y_fr G H [] [] := y_st (y_rf e.1) hH (by repeat (first | exact w_nil | refine w_cons (Or.inl (y_m rfl)) ?_ | refine w_cons (Or.inr (by assumption)) ?_)) (by repeat (first | exact w_nil | refine w_cons (Or.inl (y_m rfl)) ?_ | refine w_cons (Or.inr (by assumption)) ?_))
      exact hK false q 1 H _ (y_sq e f rfl rfl) (tx_s_fr s2 f rfl rfl) (pr_gv_n hE) ((y_ae f rfl).trans g2) (tx_f_1 fl ha hs2)
  refine w_go z_hl [] [87] 30 hr ?_
  intro H hH
  have f : y_fr h H [] [] := y_st (y_rf hr) hH (by repeat (first | exact w_nil | refine w_cons (Or.inl (y_m rfl)) ?_ | refine w_cons (Or.inr (by assumption)) ?_)) (by repeat (first | exact w_nil | refine w_cons (Or.inl (y_m rfl)) ?_ | refine w_cons (Or.inr (by assumption)) ?_))
  refine c_ev5 (d := d) n0 n10 m1 (by omega) (tx_s_fr s f rfl rfl) ((y_ae f rfl).trans gf) (fun b q aI H2 f2 s3 hE g3 ha => ⟨fun n e => (by cases e), ?_⟩)
  exact T8 b (y_sq (y_mo f rfl rfl) f2 rfl rfl) s3 hE g3 ha
theorem c_rt5 {sI : Int32} {sd : Nat} (hs : sI.toInt = sd) (hs2 : sd < 2) (s : tx_s nd h sg t p) (hK : ∀ (b : Bool) (q : Nat) (H : aH), y_fr h H [1538] [55, 56] → tx_s nd H sg t q → pr_rt (y_N sg) t p = (b, q, 0) → K0 (some (.int (y_01 b))) H C S) : aOK s_P X (d + 2) a_m84 0 [some (.ref 14), some (.ref 52), some (.int sI)] [] h C S K0 := by
  obtain ⟨toI, atI, hr, a1, a2, a3, a4, a5, a6, pt, t40⟩ := id s
  have c58 : ((Int8.ofInt 58).toInt32).toInt = 58 := by decide
  have c48 : ((Int8.ofInt 48).toInt32).toInt = 48 := by decide
  have T61 : ∀ {G : aH} {q : Nat} {r : Int32}, y_fr h G [1538] [55] → tx_s nd G sg t q → pr_rt (y_N sg) t p = (true, q, 0) → aOK s_P X (d + 2) a_m84 61 [some (.ref 14), some (.ref 52), some (.int sI)] [.int r, .int sI, .ref 58] G C S K0 := by
    intro G q r e s2 hg
    refine w_go z_hl [] [] 20 e.1 ?_
    refine ⟨⟨by omega, by omega⟩, y_l32 _, fun l hl len bb => ⟨by decide, fun H hH => ?_⟩⟩
    have f : y_fr G H [] [56] := y_st (y_mo (y_rf e.1) rfl rfl) hH (by repeat (first | exact w_nil | refine w_cons (Or.inl (y_m rfl)) ?_ | refine w_cons (Or.inr (by assumption)) ?_)) (by repeat (first | exact w_nil | refine w_cons (Or.inl (y_m rfl)) ?_ | refine w_cons (Or.inr (by assumption)) ?_))
    exact hK true q H (y_sq (y_mo e rfl rfl) f rfl rfl) (tx_s_fr s2 f rfl rfl) hg
  have T45 : ∀ {G : aH} {cI : Int32}, y_fr h G [1538] [55] → tx_s nd G sg t (pr_dq (y_N sg) t 8 p + 1) → pr_k (y_N sg) t (pr_dq (y_N sg) t 8 p) = 58 → pr_dg (y_N sg) t (pr_dq (y_N sg) t 8 p + 1) → cI.toInt = pr_k (y_N sg) t (pr_dq (y_N sg) t 8 p + 1) → aOK s_P X (d + 2) a_m84 45 [some (.ref 14), some (.ref 52), some (.int sI)] [.int cI] G C S K0 := by
    intro G cI e s2 h58 hd hc
    have hd1 := hd.1
    have hd2 := hd.2
    refine w_go z_hl [] [85] 30 e.1 ?_
    refine ⟨fun z => fun H hH => ?_, fun z => ⟨by decide, fun H hH => ?_⟩⟩
    · have y1 : cI.toInt ≠ ((Int8.ofInt 48).toInt32).toInt := (y_ci .ne _ _).mp z
      rw [c48, hc] at y1
      have f : y_fr G H [] [] := y_st (y_rf e.1) hH (by repeat (first | exact w_nil | refine w_cons (Or.inl (y_m rfl)) ?_ | refine w_cons (Or.inr (by assumption)) ?_)) (by repeat (first | exact w_nil | refine w_cons (Or.inl (y_m rfl)) ?_ | refine w_cons (Or.inr (by assumption)) ?_))
      refine c_number (d := d) (tx_s_fr s2 f rfl rfl) (fun r H2 f2 s3 => ⟨fun n e => (by cases e), ?_⟩)
      exact T61 (y_sq (y_sq e f rfl rfl) f2 rfl rfl) s3 (pr_rt_1 h58 ⟨by omega, hd2⟩)
    · have y1 : ¬ (cI.toInt ≠ ((Int8.ofInt 48).toInt32).toInt) := y_cif z
      rw [c48, hc] at y1
      have f : y_fr G H [] [] := y_st (y_rf e.1) hH (by repeat (first | exact w_nil | refine w_cons (Or.inl (y_m rfl)) ?_ | refine w_cons (Or.inr (by assumption)) ?_)) (by repeat (first | exact w_nil | refine w_cons (Or.inl (y_m rfl)) ?_ | refine w_cons (Or.inr (by assumption)) ?_))
      exact hK false _ H (y_mo (y_sq e f rfl rfl) rfl rfl) (tx_s_fr s2 f rfl rfl) (pr_rt_0 h58 (fun w => by have := w.1; omega))
  have T38 : ∀ {G : aH} (b : Bool), y_fr h G [1538] [55] → tx_s nd G sg t (pr_dq (y_N sg) t 8 p + 1) → pr_k (y_N sg) t (pr_dq (y_N sg) t 8 p) = 58 → (b = true → pr_dg (y_N sg) t (pr_dq (y_N sg) t 8 p + 1)) → (b = false → ¬ pr_dg (y_N sg) t (pr_dq (y_N sg) t 8 p + 1)) → aOK s_P X (d + 2) a_m84 38 [some (.ref 14), some (.ref 52), some (.int sI)] [.int (y_01 b)] G C S K0 := by
    intro G b e s2 h58 hy hn
    cases b with
    | true =>
      refine w_go z_hl [] [82] 30 e.1 ?_
      refine ⟨fun z => absurd z (by decide), fun _ => fun H hH => ?_⟩
      have f : y_fr G H [] [] := y_st (y_rf e.1) hH (by repeat (first | exact w_nil | refine w_cons (Or.inl (y_m rfl)) ?_ | refine w_cons (Or.inr (by assumption)) ?_)) (by repeat (first | exact w_nil | refine w_cons (Or.inl (y_m rfl)) ?_ | refine w_cons (Or.inr (by assumption)) ?_))
      refine c_lkT (tx_s_fr s2 f rfl rfl) (fun r H2 f2 er => ⟨fun n e => (by cases e), ?_⟩)
      exact T45 (y_sq (y_sq e f rfl rfl) f2 rfl rfl) (tx_s_fr (tx_s_fr s2 f rfl rfl) f2 rfl rfl) h58 (hy rfl) er
    | false =>
      refine w_go z_hl [] [82] 30 e.1 ?_
      refine ⟨fun _ => ⟨by decide, fun H hH => ?_⟩, fun z => absurd z (by decide)⟩
      have f : y_fr G H [] [] := y_st (y_rf e.1) hH (by repeat (first | exact w_nil | refine w_cons (Or.inl (y_m rfl)) ?_ | refine w_cons (Or.inr (by assumption)) ?_)) (by repeat (first | exact w_nil | refine w_cons (Or.inl (y_m rfl)) ?_ | refine w_cons (Or.inr (by assumption)) ?_))
      exact hK false _ H (y_mo (y_sq e f rfl rfl) rfl rfl) (tx_s_fr s2 f rfl rfl) (pr_rt_0 h58 (fun w => hn rfl ⟨by have := w.1; omega, w.2⟩))
  have T35 : ∀ {G : aH} {cI : Int32}, y_fr h G [1538] [55] → tx_s nd G sg t (pr_dq (y_N sg) t 8 p + 1) → pr_k (y_N sg) t (pr_dq (y_N sg) t 8 p) = 58 → cI.toInt = pr_k (y_N sg) t (pr_dq (y_N sg) t 8 p + 1) → aOK s_P X (d + 2) a_m84 35 [some (.ref 14), some (.ref 52), some (.int sI)] [.int cI] G C S K0 := by
    intro G cI e s2 h58 hc
    refine w_go z_hl [] [83] 20 e.1 ?_
    intro H hH
    have f : y_fr G H [] [] := y_st (y_rf e.1) hH (by repeat (first | exact w_nil | refine w_cons (Or.inl (y_m rfl)) ?_ | refine w_cons (Or.inr (by assumption)) ?_)) (by repeat (first | exact w_nil | refine w_cons (Or.inl (y_m rfl)) ?_ | refine w_cons (Or.inr (by assumption)) ?_))
    refine c_isDg (c := cI) f.1 (fun H2 f2 w => ⟨fun n e => (by cases e), ?_⟩) (fun H2 f2 w => ⟨fun n e => (by cases e), ?_⟩)
    · exact T38 true (y_sq (y_sq e f rfl rfl) f2 rfl rfl) (tx_s_fr (tx_s_fr s2 f rfl rfl) f2 rfl rfl) h58 (fun _ => ⟨by omega, by omega⟩) (fun z => absurd z (by decide))
    · exact T38 false (y_sq (y_sq e f rfl rfl) f2 rfl rfl) (tx_s_fr (tx_s_fr s2 f rfl rfl) f2 rfl rfl) h58 (fun z => absurd z (by decide)) (fun _ z => w ⟨by have := z.1; omega, by have := z.2; omega⟩)
  have T14 : ∀ {G : aH} {cI : Int32}, y_fr h G [1538] [55] → tx_s nd G sg t (pr_dq (y_N sg) t 8 p) → cI.toInt = pr_k (y_N sg) t (pr_dq (y_N sg) t 8 p) → aOK s_P X (d + 2) a_m84 14 [some (.ref 14), some (.ref 52), some (.int sI)] [.int cI] G C S K0 := by
    intro G cI e s2 hc
    obtain ⟨toJ, atJ, -, b1, b2, b3, b4, b5, b6, qt, -⟩ := id s2
    refine w_go z_hl [] [82] 40 e.1 ?_
    refine ⟨fun z => ?_, fun z => ⟨by decide, fun H hH => ?_⟩⟩
    · have y1 : cI.toInt = ((Int8.ofInt 58).toInt32).toInt := (y_ci .eq _ _).mp z
      rw [c58, hc] at y1
      have qt' := pr_k_t (by decide) y1
      have inc : (atJ + Int32.ofInt 1).toInt = ((pr_dq (y_N sg) t 8 p + 1 : Nat) : Int) := by rw [y_inc (by omega), b5]; rfl
      intro x hx _ _
      obtain rfl := y_fi b4 hx
      refine ⟨rfl, y_zini (by show 0 ≤ (atJ + Int32.ofInt 1).toInt; omega) (by show (atJ + Int32.ofInt 1).toInt ≤ 40; omega), fun H hH => ?_⟩
      have f : y_fr G H [1538] [] := y_st (y_mo (y_rf e.1) rfl rfl) hH (by repeat (first | exact w_nil | refine w_cons (Or.inl (y_m rfl)) ?_ | refine w_cons (Or.inr (by assumption)) ?_)) (by repeat (first | exact w_nil | refine w_cons (Or.inl (y_m rfl)) ?_ | refine w_cons (Or.inr (by assumption)) ?_))
      have s3 := tx_s_at s2 f rfl (hH.2.1 1538 _ rfl) inc (by omega)
      refine c_lkT s3 (fun r H2 f2 er => ⟨fun n e => (by cases e), ?_⟩)
      exact T35 (y_sq (y_sq e f rfl rfl) f2 rfl rfl) (tx_s_fr s3 f2 rfl rfl) y1 er
    · have y1 : ¬ (cI.toInt = ((Int8.ofInt 58).toInt32).toInt) := y_cif z
      rw [c58, hc] at y1
      have f : y_fr G H [] [] := y_st (y_rf e.1) hH (by repeat (first | exact w_nil | refine w_cons (Or.inl (y_m rfl)) ?_ | refine w_cons (Or.inr (by assumption)) ?_)) (by repeat (first | exact w_nil | refine w_cons (Or.inl (y_m rfl)) ?_ | refine w_cons (Or.inr (by assumption)) ?_))
      exact hK false _ H (y_mo (y_sq e f rfl rfl) rfl rfl) (tx_s_fr s2 f rfl rfl) (pr_rt_n y1)
  have T9 : ∀ {G : aH} {r : Int32}, y_fr h G [1538] [] → tx_s nd G sg t (pr_dq (y_N sg) t 8 p) → aOK s_P X (d + 2) a_m84 9 [some (.ref 14), some (.ref 52), some (.int sI)] [.int r, .int sI, .ref 57] G C S K0 := by
    intro G r e s2
    refine w_go z_hl [] [82] 30 e.1 ?_
    refine ⟨⟨by omega, by omega⟩, y_l32 _, fun l hl len bb => fun H hH => ?_⟩
    have f : y_fr G H [] [55] := y_st (y_mo (y_rf e.1) rfl rfl) hH (by repeat (first | exact w_nil | refine w_cons (Or.inl (y_m rfl)) ?_ | refine w_cons (Or.inr (by assumption)) ?_)) (by repeat (first | exact w_nil | refine w_cons (Or.inl (y_m rfl)) ?_ | refine w_cons (Or.inr (by assumption)) ?_))
    refine c_lkT (tx_s_fr s2 f rfl rfl) (fun r H2 f2 er => ⟨fun n e => (by cases e), ?_⟩)
    exact T14 (y_sq (y_sq (y_mo e rfl rfl) f rfl rfl) f2 rfl rfl) (tx_s_fr (tx_s_fr s2 f rfl rfl) f2 rfl rfl) er
  refine w_go z_hl [] [85] 30 hr ?_
  intro H hH
  have f : y_fr h H [] [] := y_st (y_rf hr) hH (by repeat (first | exact w_nil | refine w_cons (Or.inl (y_m rfl)) ?_ | refine w_cons (Or.inr (by assumption)) ?_)) (by repeat (first | exact w_nil | refine w_cons (Or.inl (y_m rfl)) ?_ | refine w_cons (Or.inr (by assumption)) ?_))
  refine c_number (d := d) (tx_s_fr s f rfl rfl) (fun r H2 f2 s3 => ⟨fun n e => (by cases e), ?_⟩)
  exact T9 (y_sq (y_mo f rfl rfl) f2 rfl rfl) s3
end PPT5
end PT33ich
section PT33ici
/-! ===== v21: clear, parseTerm, parseFirst, parseSecond of the class with saying 5 (laid by wip/tools/mk21e.py) ===== -/
section PFS5
variable {X : aX} {C S d : Nat} {K0 : Option Value → aH → Nat → Nat → Prop} {sg : List Int32} {t p : Nat} {nd : Int32} {h : aH}
theorem c_clearl5 : ∀ (m : Nat) (h : aH) (iI : Int32) (i : Nat) (fr : List Int32), w_hr z_D h → iI.toInt = i → i + m = 4 → w_a h 52 = some (0, .inl fr) → fr.length = 4 → (∀ j, j < i → y_N fr j = -1) → (∀ (H : aH) (fr' : List Int32), y_fr h H [] [52, 53, 54] → w_a H 52 = some (0, .inl fr') → (∀ j, j < 4 → y_N fr' j = -1) → K0 none H C S) → aOK s_P X d a_m79 13 [some (.ref 52), some (.int iI)] [] h C S K0 := by
  have c4 : (Int32.ofInt 4).toInt = 4 := by decide
  intro m
  induction m with
  | zero =>
    intro h iI i fr hr hi hm g len hf hK
    have ei : i = 4 := by omega
    rw [ei] at hf
    refine w_go z_hl [13] [] 30 hr ?_
    refine ⟨fun _ => fun H hH => ?_, fun z => ?_⟩
    · have f : y_fr h H [] [] := y_st (y_rf hr) hH (by repeat (first | exact w_nil | refine w_cons (Or.inl (y_m rfl)) ?_ | refine w_cons (Or.inr (by assumption)) ?_)) (by repeat (first | exact w_nil | refine w_cons (Or.inl (y_m rfl)) ?_ | refine w_cons (Or.inr (by assumption)) ?_))
      exact hK H fr (y_mo f rfl rfl) ((y_ae f rfl).trans g) hf
    · have y1 : ¬ ((Int32.ofInt 4).toInt ≤ iI.toInt) := y_cif z
      rw [c4] at y1
      exfalso
      omega
  | succ m ih =>
    intro h iI i fr hr hi hm g len hf hK
    have ink : (iI + Int32.ofInt 1).toInt = ((i + 1 : Nat) : Int) := by rw [y_inc (by omega), hi]; rfl
    have ci := y_cl1 hi
    refine w_go z_hl [13] [] 60 hr ?_
    refine ⟨fun z => ?_, fun z => ?_⟩
    · have y1 : (Int32.ofInt 4).toInt ≤ iI.toInt := (y_ci .ge _ _).mp z
      rw [c4] at y1
      exfalso
      omega
    · refine ⟨⟨by omega, by omega⟩, by decide, fun l hl len1 bb => ?_⟩
      obtain rfl := y_ai g hl
      refine ⟨⟨by omega, by omega⟩, y_l32 _, fun l2 hl2 len2 bb2 => ⟨⟨by omega, by omega⟩, y_l32 _, fun l3 hl3 len3 bb3 => fun H hH => ?_⟩⟩
      have w := hH.2.2.1 52 _ rfl
      rw [ci] at w
      have f : y_fr h H [] [52, 53, 54] := y_st (y_mo (y_rf hr) rfl rfl) hH (by repeat (first | exact w_nil | refine w_cons (Or.inl (y_m rfl)) ?_ | refine w_cons (Or.inr (by assumption)) ?_)) (by repeat (first | exact w_nil | refine w_cons (Or.inl (y_m rfl)) ?_ | refine w_cons (Or.inr (by assumption)) ?_))
      refine ih H _ (i + 1) _ f.1 ink (by omega) w (by rw [List.length_set]; exact len) (fun j hj => ?_) (fun H' fr' f1 f2 f3 => hK H' fr' (y_sq f f1 rfl rfl) f2 f3)
      rw [y_Nset (by omega)]
      by_cases y : j = i
      · rw [if_pos y]
        decide
      · rw [if_neg y]
        exact hf j (by omega)
theorem c_clear5 (hr : w_hr z_D h) (hK : ∀ (H : aH) (fr : List Int32), y_fr h H [6401, 6402] [52, 53, 54] → w_a H 52 = some (0, .inl fr) → (∀ j, j < 4 → y_N fr j = -1) → K0 none H C S) : aOK s_P X d a_m79 0 [some (.ref 52), none] [] h C S K0 := by
  refine w_go z_hl [13] [] 30 hr ?_
  refine ⟨rfl, y_zini (by decide) (by decide), rfl, y_zini (by decide) (by decide), fun H hH => ?_⟩
  have f : y_fr h H [6401, 6402] [] := y_st (y_mo (y_rf hr) rfl rfl) hH (by repeat (first | exact w_nil | refine w_cons (Or.inl (y_m rfl)) ?_ | refine w_cons (Or.inr (by assumption)) ?_)) (by repeat (first | exact w_nil | refine w_cons (Or.inl (y_m rfl)) ?_ | refine w_cons (Or.inr (by assumption)) ?_))
  obtain ⟨fr, f1, fl, -⟩ := c_arr f.1 (ob := 52) (n := 4) (lo := -1) (hi := 40) rfl
  exact c_clearl5 4 H _ 0 fr f.1 (by decide) rfl f1 fl (fun j hj => absurd hj (Nat.not_lt_zero j)) (fun H' fr' e1 e2 e3 => hK H' fr' (y_sq (y_mo f rfl rfl) e1 rfl rfl) e2 e3)
theorem c_tm5 (n0 : 0 ≤ nd.toInt) (n10 : nd.toInt ≤ 10) {sI : Int32} {sd : Nat} (hs : sI.toInt = sd) (hs2 : sd < 2) (s : tx_s nd h sg t p) {fr : List Int32} (gf : w_a h 52 = some (0, .inl fr)) (hK : ∀ (b : Bool) (q k : Nat) (H : aH) (fr' : List Int32), y_fr h H [1538] [52, 53, 54, 55, 56] → tx_s nd H sg t q → pr_tm (y_N sg) t nd.toInt p = (b, q, k) → w_a H 52 = some (0, .inl fr') → (k = 0 ∧ fr' = fr) ∨ tx_f fr fr' sd k → K0 (some (.int (y_01 b))) H C S) : aOK s_P X (d + 4) a_m81 0 [some (.ref 14), some (.ref 52), some (.int sI)] [] h C S K0 := by
  have hr := (tx_s_hr s).1
  have T25 : ∀ {G : aH} {b : Bool} {q k : Nat} {pc : Nat} {fr' : List Int32}, (pc = 16 ∨ pc = 25) → y_fr h G [1538] [52, 53, 54, 55, 56] → tx_s nd G sg t q → pr_tm (y_N sg) t nd.toInt p = (b, q, k) → w_a G 52 = some (0, .inl fr') → (k = 0 ∧ fr' = fr) ∨ tx_f fr fr' sd k → aOK s_P X (d + 4) a_m81 pc [some (.ref 14), some (.ref 52), some (.int sI)] [.int (y_01 b)] G C S K0 := by
    intro G b q k pc fr' hpc e s2 hg g2 hf
    rcases hpc with rfl | rfl
    · refine w_go z_hl [] [] 20 e.1 ?_
      refine ⟨y_01b b, fun H hH => ?_⟩
      have f : y_fr G H [] [] := y_st (y_rf e.1) hH (by repeat (first | exact w_nil | refine w_cons (Or.inl (y_m rfl)) ?_ | refine w_cons (Or.inr (by assumption)) ?_)) (by repeat (first | exact w_nil | refine w_cons (Or.inl (y_m rfl)) ?_ | refine w_cons (Or.inr (by assumption)) ?_))
      exact hK b q k H fr' (y_sq e f rfl rfl) (tx_s_fr s2 f rfl rfl) hg ((y_ae f rfl).trans g2) hf
    · refine w_go z_hl [] [] 20 e.1 ?_
      refine ⟨y_01b b, fun H hH => ?_⟩
      have f : y_fr G H [] [] := y_st (y_rf e.1) hH (by repeat (first | exact w_nil | refine w_cons (Or.inl (y_m rfl)) ?_ | refine w_cons (Or.inr (by assumption)) ?_)) (by repeat (first | exact w_nil | refine w_cons (Or.inl (y_m rfl)) ?_ | refine w_cons (Or.inr (by assumption)) ?_))
      exact hK b q k H fr' (y_sq e f rfl rfl) (tx_s_fr s2 f rfl rfl) hg ((y_ae f rfl).trans g2) hf
  have T7 : ∀ {G : aH} (b : Bool), y_fr h G [] [] → (b = true → pr_dg (y_N sg) t p) → (b = false → ¬ pr_dg (y_N sg) t p) → aOK s_P X (d + 4) a_m81 7 [some (.ref 14), some (.ref 52), some (.int sI)] [.int (y_01 b)] G C S K0 := by
    intro G b e hy hn
    cases b with
    | true =>
      refine w_go z_hl [] [84, 86] 30 e.1 ?_
      refine ⟨fun z => absurd z (by decide), fun _ => fun H hH => ?_⟩
      have f : y_fr h H [] [] := y_st e hH (by repeat (first | exact w_nil | refine w_cons (Or.inl (y_m rfl)) ?_ | refine w_cons (Or.inr (by assumption)) ?_)) (by repeat (first | exact w_nil | refine w_cons (Or.inl (y_m rfl)) ?_ | refine w_cons (Or.inr (by assumption)) ?_))
      refine c_rt5 (d := d + 1) hs hs2 (tx_s_fr s f rfl rfl) (fun b q H2 f2 s3 hg => ⟨fun n e => (by cases e), ?_⟩)
      exact T25 (k := 0) (Or.inl rfl) (y_sq (y_mo f rfl rfl) f2 rfl rfl) s3 (by rw [pr_tm_1 (hy rfl)]; exact hg) ((y_ae f2 rfl).trans ((y_ae f rfl).trans gf)) (Or.inl ⟨rfl, rfl⟩)
    | false =>
      refine w_go z_hl [] [84, 86] 30 e.1 ?_
      refine ⟨fun _ => fun H hH => ?_, fun z => absurd z (by decide)⟩
      have f : y_fr h H [] [] := y_st e hH (by repeat (first | exact w_nil | refine w_cons (Or.inl (y_m rfl)) ?_ | refine w_cons (Or.inr (by assumption)) ?_)) (by repeat (first | exact w_nil | refine w_cons (Or.inl (y_m rfl)) ?_ | refine w_cons (Or.inr (by assumption)) ?_))
      refine c_gv5 (d := d) n0 n10 hs hs2 (tx_s_fr s f rfl rfl) ((y_ae f rfl).trans gf) (fun b q k H2 fr' f2 s3 hg g3 hf => ⟨fun n e => (by cases e), ?_⟩)
      exact T25 (Or.inr rfl) (y_sq (y_mo f rfl rfl) f2 rfl rfl) s3 (by rw [pr_tm_0 (hn rfl)]; exact hg) g3 (Or.inr hf)
  have T4 : ∀ {G : aH} {cI : Int32}, y_fr h G [] [] → cI.toInt = pr_k (y_N sg) t p → aOK s_P X (d + 4) a_m81 4 [some (.ref 14), some (.ref 52), some (.int sI)] [.int cI] G C S K0 := by
    intro G cI e hc
    refine w_go z_hl [] [83] 20 e.1 ?_
    intro H hH
    have f : y_fr h H [] [] := y_st e hH (by repeat (first | exact w_nil | refine w_cons (Or.inl (y_m rfl)) ?_ | refine w_cons (Or.inr (by assumption)) ?_)) (by repeat (first | exact w_nil | refine w_cons (Or.inl (y_m rfl)) ?_ | refine w_cons (Or.inr (by assumption)) ?_))
    refine c_isDg (c := cI) f.1 (fun H2 f2 w => ⟨fun n e => (by cases e), ?_⟩) (fun H2 f2 w => ⟨fun n e => (by cases e), ?_⟩)
    · exact T7 true (y_sq f f2 rfl rfl) (fun _ => ⟨by omega, by omega⟩) (fun z => absurd z (by decide))
    · exact T7 false (y_sq f f2 rfl rfl) (fun z => absurd z (by decide)) (fun _ z => w ⟨by have := z.1; omega, by have := z.2; omega⟩)
  refine w_go z_hl [] [82] 20 hr ?_
  intro H hH
  have f : y_fr h H [] [] := y_st (y_rf hr) hH (by repeat (first | exact w_nil | refine w_cons (Or.inl (y_m rfl)) ?_ | refine w_cons (Or.inr (by assumption)) ?_)) (by repeat (first | exact w_nil | refine w_cons (Or.inl (y_m rfl)) ?_ | refine w_cons (Or.inr (by assumption)) ?_))
  refine c_lkT (tx_s_fr s f rfl rfl) (fun r H2 f2 er => ⟨fun n e => (by cases e), ?_⟩)
  exact T4 (y_sq f f2 rfl rfl) er
theorem c_isNum5 (hr : w_hr z_D h) {fr : List Int32} (gf : w_a h 52 = some (0, .inl fr)) (hK : ∀ (H : aH), y_fr h H [] [] → K0 (some (.int (y_01 (decide (y_N fr 0 = -1))))) H C S) : aOK s_P X d a_m89 0 [some (.ref 52), some (.int (Int32.ofInt 0))] [] h C S K0 := by
  have m1 : (Int32.ofInt 2 * Int32.ofInt 0).toInt = ((0 : Nat) : Int) := by decide
  have cm := y_cl1 m1
  have cn : (Int32.ofInt (-1)).toInt = -1 := by decide
  refine w_go z_hl [] [] 30 hr ?_
  refine ⟨⟨by decide, by decide⟩, fun l hl len bb => ?_⟩
  obtain rfl := y_ai gf hl
  refine ⟨fun z => ⟨by decide, fun H hH => ?_⟩, fun z => ⟨by decide, fun H hH => ?_⟩⟩
  · have y1 : (fr.getD (Int32.ofInt 2 * Int32.ofInt 0).toNatClampNeg 0).toInt ≠ (Int32.ofInt (-1)).toInt := (y_ci .ne _ _).mp z
    rw [cm, cn] at y1
    have w := hK H (y_st (y_rf hr) hH (by repeat (first | exact w_nil | refine w_cons (Or.inl (y_m rfl)) ?_ | refine w_cons (Or.inr (by assumption)) ?_)) (by repeat (first | exact w_nil | refine w_cons (Or.inl (y_m rfl)) ?_ | refine w_cons (Or.inr (by assumption)) ?_)))
    rw [decide_eq_false (show ¬ (y_N fr 0 = -1) from y1)] at w
    exact w
  · have y1 : ¬ ((fr.getD (Int32.ofInt 2 * Int32.ofInt 0).toNatClampNeg 0).toInt ≠ (Int32.ofInt (-1)).toInt) := y_cif z
    rw [cm, cn] at y1
    have w := hK H (y_st (y_rf hr) hH (by repeat (first | exact w_nil | refine w_cons (Or.inl (y_m rfl)) ?_ | refine w_cons (Or.inr (by assumption)) ?_)) (by repeat (first | exact w_nil | refine w_cons (Or.inl (y_m rfl)) ?_ | refine w_cons (Or.inr (by assumption)) ?_)))
    rw [decide_eq_true (show y_N fr 0 = -1 from Decidable.not_not.mp y1)] at w
    exact w
theorem c_first5 (n0 : 0 ≤ nd.toInt) (n10 : nd.toInt ≤ 10) (s : tx_s nd h sg t 0) {fr : List Int32} (gf : w_a h 52 = some (0, .inl fr)) (hf0 : y_N fr 0 = -1) (hf1 : y_N fr 1 = -1) (yes : ∀ (q k : Nat) (H : aH) (rel : Int32) (fr' : List Int32), y_fr h H [1538, 6402] [52, 53, 54, 55, 56] → tx_s nd H sg t (q + 1) → pr_tm (y_N sg) t nd.toInt 0 = (true, q, k) → w_f H 6402 = some (.int rel) → w_a H 52 = some (0, .inl fr') → ((pr_k (y_N sg) t q = 126 ∧ k = 1) ∧ rel.toInt = 126) ∨ (¬ (pr_k (y_N sg) t q = 126 ∧ k = 1) ∧ (pr_k (y_N sg) t q = 61 ∨ pr_k (y_N sg) t q = 60 ∨ pr_k (y_N sg) t q = 62) ∧ rel.toInt ≠ 126) → K0 (some (.int (y_01 true))) H C S) (no : ∀ (q : Nat) (H : aH), y_fr h H [1538, 6402] [52, 53, 54, 55, 56] → tx_s nd H sg t q → pr_sy (y_N sg) t nd.toInt = (false, q) → K0 (some (.int (y_01 false))) H C S) : aOK s_P X (d + 5) a_m80 0 [some (.ref 14), some (.ref 52), none, none] [] h C S K0 := by
  have hr := (tx_s_hr s).1
  have c126 : ((Int8.ofInt 126).toInt32).toInt = 126 := by decide
  have c61 : ((Int8.ofInt 61).toInt32).toInt = 61 := by decide
  have c60 : ((Int8.ofInt 60).toInt32).toInt = 60 := by decide
  have c62 : ((Int8.ofInt 62).toInt32).toInt = 62 := by decide
  have cn : (Int32.ofInt (-1)).toInt = -1 := by decide
  have T70 : ∀ {G : aH} {q k : Nat} {cI : Int32} {p3 : Option Value} {fr' : List Int32}, y_fr h G [1538, 6402] [52, 53, 54, 55, 56] → tx_s nd G sg t q → q < t → pr_tm (y_N sg) t nd.toInt 0 = (true, q, k) → w_a G 52 = some (0, .inl fr') → cI.toInt = pr_k (y_N sg) t q → 0 ≤ cI.toInt → cI.toInt ≤ 65535 → ((pr_k (y_N sg) t q = 126 ∧ k = 1) ∨ (¬ (pr_k (y_N sg) t q = 126 ∧ k = 1) ∧ (pr_k (y_N sg) t q = 61 ∨ pr_k (y_N sg) t q = 60 ∨ pr_k (y_N sg) t q = 62))) → aOK s_P X (d + 5) a_m80 70 [some (.ref 14), some (.ref 52), some (.int cI), p3] [] G C S K0 := by
    intro G q k cI p3 fr' e s2 qt ht g2 hc c0 c65 hw
    obtain ⟨toJ, atJ, -, b1, b2, b3, b4, b5, b6, -, t40⟩ := id s2
    have inc : (atJ + Int32.ofInt 1).toInt = ((q + 1 : Nat) : Int) := by rw [y_inc (by omega), b5]; rfl
    refine w_go z_hl [] [] 40 e.1 ?_
    refine ⟨y_fitC c0 c65, y_zini c0 c65, ?_⟩
    intro x hx _ _
    obtain rfl := y_fi b4 hx
    refine ⟨rfl, y_zini (by show 0 ≤ (atJ + Int32.ofInt 1).toInt; omega) (by show (atJ + Int32.ofInt 1).toInt ≤ 40; omega), by decide, fun H hH => ?_⟩
    have f : y_fr G H [1538, 6402] [] := y_st (y_mo (y_rf e.1) rfl rfl) hH (by repeat (first | exact w_nil | refine w_cons (Or.inl (y_m rfl)) ?_ | refine w_cons (Or.inr (by assumption)) ?_)) (by repeat (first | exact w_nil | refine w_cons (Or.inl (y_m rfl)) ?_ | refine w_cons (Or.inr (by assumption)) ?_))
    have s3 : tx_s nd H sg t (q + 1) := ⟨toJ, _, f.1, (y_ae f rfl).trans b1, (y_fe f rfl).trans b2, b3, hH.2.1 1538 _ rfl, inc, (y_fe f rfl).trans b6, by omega, t40⟩
    refine yes q k H cI fr' (y_sq e f rfl rfl) s3 ht (hH.2.1 6402 _ rfl) ((y_ae f rfl).trans g2) ?_
    rcases hw with w | ⟨w, w2⟩
    · exact Or.inl ⟨w, by rw [hc]; exact w.1⟩
    · refine Or.inr ⟨w, w2, ?_⟩
      rw [hc]
      rcases w2 with w3 | w3 | w3
      · omega
      · omega
      · omega
  have T45 : ∀ {G : aH} {q k : Nat} {cI : Int32} {fr' : List Int32} (b : Bool), y_fr h G [1538, 6402] [52, 53, 54, 55, 56] → tx_s nd G sg t q → pr_tm (y_N sg) t nd.toInt 0 = (true, q, k) → w_a G 52 = some (0, .inl fr') → cI.toInt = pr_k (y_N sg) t q → 0 ≤ cI.toInt → cI.toInt ≤ 65535 → (b = true → pr_k (y_N sg) t q = 126 ∧ k = 1) → (b = false → ¬ (pr_k (y_N sg) t q = 126 ∧ k = 1)) → aOK s_P X (d + 5) a_m80 45 [some (.ref 14), some (.ref 52), some (.int cI), none] [.int (y_01 b)] G C S K0 := by
    intro G q k cI fr' b e s2 ht g2 hc c0 c65 hy hn
    have f0 : y_fr G G [] [] := y_rf e.1
    have go : ∀ {H : aH} {p3 : Option Value}, y_fr G H [] [] → q < t → ((pr_k (y_N sg) t q = 126 ∧ k = 1) ∨ (¬ (pr_k (y_N sg) t q = 126 ∧ k = 1) ∧ (pr_k (y_N sg) t q = 61 ∨ pr_k (y_N sg) t q = 60 ∨ pr_k (y_N sg) t q = 62))) → aOK s_P X (d + 5) a_m80 70 [some (.ref 14), some (.ref 52), some (.int cI), p3] [] H C S K0 := fun f qt w => T70 (y_sq e f rfl rfl) (tx_s_fr s2 f rfl rfl) qt ht ((y_ae f rfl).trans g2) hc c0 c65 w
    have q61 : cI.toInt = 61 → ¬ (pr_k (y_N sg) t q = 126 ∧ k = 1) := fun z w => by have := w.1; omega
    have q60 : cI.toInt = 60 → ¬ (pr_k (y_N sg) t q = 126 ∧ k = 1) := fun z w => by have := w.1; omega
    have q62 : cI.toInt = 62 → ¬ (pr_k (y_N sg) t q = 126 ∧ k = 1) := fun z w => by have := w.1; omega
    cases b with
    | true =>
      refine w_go z_hl [70] [] 40 e.1 ?_
      refine ⟨fun z => fun H hH => ?_, fun z => ⟨fun z2 => fun H hH => ?_, fun z2 => ⟨fun z3 => fun H hH => ?_, fun z3 => ⟨fun _ => fun H hH => ?_, fun z4 => absurd z4 (by decide)⟩⟩⟩⟩
      · have y1 : cI.toInt = ((Int8.ofInt 61).toInt32).toInt := (y_ci .eq _ _).mp z
        rw [c61] at y1
        exact go (y_st f0 hH (by repeat (first | exact w_nil | refine w_cons (Or.inl (y_m rfl)) ?_ | refine w_cons (Or.inr (by assumption)) ?_)) (by repeat (first | exact w_nil | refine w_cons (Or.inl (y_m rfl)) ?_ | refine w_cons (Or.inr (by assumption)) ?_))) (pr_k_t (c := 61) (by decide) (hc.symm.trans y1)) (Or.inr ⟨q61 y1, Or.inl (hc.symm.trans y1)⟩)
      · have y1 : cI.toInt = ((Int8.ofInt 60).toInt32).toInt := (y_ci .eq _ _).mp z2
        rw [c60] at y1
        exact go (y_st f0 hH (by repeat (first | exact w_nil | refine w_cons (Or.inl (y_m rfl)) ?_ | refine w_cons (Or.inr (by assumption)) ?_)) (by repeat (first | exact w_nil | refine w_cons (Or.inl (y_m rfl)) ?_ | refine w_cons (Or.inr (by assumption)) ?_))) (pr_k_t (c := 60) (by decide) (hc.symm.trans y1)) (Or.inr ⟨q60 y1, Or.inr (Or.inl (hc.symm.trans y1))⟩)
      · have y1 : cI.toInt = ((Int8.ofInt 62).toInt32).toInt := (y_ci .eq _ _).mp z3
        rw [c62] at y1
        exact go (y_st f0 hH (by repeat (first | exact w_nil | refine w_cons (Or.inl (y_m rfl)) ?_ | refine w_cons (Or.inr (by assumption)) ?_)) (by repeat (first | exact w_nil | refine w_cons (Or.inl (y_m rfl)) ?_ | refine w_cons (Or.inr (by assumption)) ?_))) (pr_k_t (c := 62) (by decide) (hc.symm.trans y1)) (Or.inr ⟨q62 y1, Or.inr (Or.inr (hc.symm.trans y1))⟩)
      · exact go (y_st f0 hH (by repeat (first | exact w_nil | refine w_cons (Or.inl (y_m rfl)) ?_ | refine w_cons (Or.inr (by assumption)) ?_)) (by repeat (first | exact w_nil | refine w_cons (Or.inl (y_m rfl)) ?_ | refine w_cons (Or.inr (by assumption)) ?_))) (pr_k_t (c := 126) (by decide) (hy rfl).1) (Or.inl (hy rfl))
    | false =>
      refine w_go z_hl [70] [] 40 e.1 ?_
      refine ⟨fun z => fun H hH => ?_, fun z => ⟨fun z2 => fun H hH => ?_, fun z2 => ⟨fun z3 => fun H hH => ?_, fun z3 => ⟨fun z4 => absurd z4 (by decide), fun _ => ⟨by decide, fun H hH => ?_⟩⟩⟩⟩⟩
      · have y1 : cI.toInt = ((Int8.ofInt 61).toInt32).toInt := (y_ci .eq _ _).mp z
        rw [c61] at y1
        exact go (y_st f0 hH (by repeat (first | exact w_nil | refine w_cons (Or.inl (y_m rfl)) ?_ | refine w_cons (Or.inr (by assumption)) ?_)) (by repeat (first | exact w_nil | refine w_cons (Or.inl (y_m rfl)) ?_ | refine w_cons (Or.inr (by assumption)) ?_))) (pr_k_t (c := 61) (by decide) (hc.symm.trans y1)) (Or.inr ⟨q61 y1, Or.inl (hc.symm.trans y1)⟩)
      · have y1 : cI.toInt = ((Int8.ofInt 60).toInt32).toInt := (y_ci .eq _ _).mp z2
        rw [c60] at y1
        exact go (y_st f0 hH (by repeat (first | exact w_nil | refine w_cons (Or.inl (y_m rfl)) ?_ | refine w_cons (Or.inr (by assumption)) ?_)) (by repeat (first | exact w_nil | refine w_cons (Or.inl (y_m rfl)) ?_ | refine w_cons (Or.inr (by assumption)) ?_))) (pr_k_t (c := 60) (by decide) (hc.symm.trans y1)) (Or.inr ⟨q60 y1, Or.inr (Or.inl (hc.symm.trans y1))⟩)
      · have y1 : cI.toInt = ((Int8.ofInt 62).toInt32).toInt := (y_ci .eq _ _).mp z3
        rw [c62] at y1
        exact go (y_st f0 hH (by repeat (first | exact w_nil | refine w_cons (Or.inl (y_m rfl)) ?_ | refine w_cons (Or.inr (by assumption)) ?_)) (by repeat (first | exact w_nil | refine w_cons (Or.inl (y_m rfl)) ?_ | refine w_cons (Or.inr (by assumption)) ?_))) (pr_k_t (c := 62) (by decide) (hc.symm.trans y1)) (Or.inr ⟨q62 y1, Or.inr (Or.inr (hc.symm.trans y1))⟩)
      · have y1 : ¬ (cI.toInt = ((Int8.ofInt 61).toInt32).toInt) := y_cif z
        have y2 : ¬ (cI.toInt = ((Int8.ofInt 60).toInt32).toInt) := y_cif z2
        have y3 : ¬ (cI.toInt = ((Int8.ofInt 62).toInt32).toInt) := y_cif z3
        rw [c61, hc] at y1
        rw [c60, hc] at y2
        rw [c62, hc] at y3
        have f : y_fr G H [] [] := y_st f0 hH (by repeat (first | exact w_nil | refine w_cons (Or.inl (y_m rfl)) ?_ | refine w_cons (Or.inr (by assumption)) ?_)) (by repeat (first | exact w_nil | refine w_cons (Or.inl (y_m rfl)) ?_ | refine w_cons (Or.inr (by assumption)) ?_))
        exact no q H (y_sq e f rfl rfl) (tx_s_fr s2 f rfl rfl) (pr_sy_x ht (hn rfl) (fun w => by rcases w with w | w | w; exact y1 w; exact y2 w; exact y3 w))
  have T27 : ∀ {G : aH} {q k : Nat} {cI : Int32} {fr' : List Int32} (b : Bool), y_fr h G [1538, 6402] [52, 53, 54, 55, 56] → tx_s nd G sg t q → pr_tm (y_N sg) t nd.toInt 0 = (true, q, k) → w_a G 52 = some (0, .inl fr') → cI.toInt = pr_k (y_N sg) t q → 0 ≤ cI.toInt → cI.toInt ≤ 65535 → pr_k (y_N sg) t q = 126 → (b = true → k = 0) → (b = false → k ≠ 0 ∧ (k = 1 → y_N fr' 1 = -1) ∧ (k ≠ 1 → 0 ≤ y_N fr' 1)) → aOK s_P X (d + 5) a_m80 27 [some (.ref 14), some (.ref 52), some (.int cI), none] [.int (y_01 b)] G C S K0 := by
    intro G q k cI fr' b e s2 ht g2 hc c0 c65 h126 hy hn
    have f0 : y_fr G G [] [] := y_rf e.1
    cases b with
    | true =>
      refine w_go z_hl [45] [] 30 e.1 ?_
      refine ⟨fun _ => fun H hH => ?_, fun z => absurd z (by decide)⟩
      have f : y_fr G H [] [] := y_st f0 hH (by repeat (first | exact w_nil | refine w_cons (Or.inl (y_m rfl)) ?_ | refine w_cons (Or.inr (by assumption)) ?_)) (by repeat (first | exact w_nil | refine w_cons (Or.inl (y_m rfl)) ?_ | refine w_cons (Or.inr (by assumption)) ?_))
      exact T45 false (y_sq e f rfl rfl) (tx_s_fr s2 f rfl rfl) ht ((y_ae f rfl).trans g2) hc c0 c65 (fun w => absurd w (by decide)) (fun _ w => by have := hy rfl; omega)
    | false =>
      obtain ⟨k0, k1, k2⟩ := hn rfl
      have i1 : (Int32.ofInt 1).toInt = ((1 : Nat) : Int) := by decide
      have ci1 := y_cl1 i1
      refine w_go z_hl [45] [] 30 e.1 ?_
      refine ⟨fun z => absurd z (by decide), fun _ => ⟨⟨by decide, by decide⟩, fun l hl len bb => ?_⟩⟩
      obtain rfl := y_ai g2 hl
      refine ⟨fun z => fun H hH => ?_, fun z => fun H hH => ?_⟩
      · have y1 : (fr'.getD (Int32.ofInt 1).toNatClampNeg 0).toInt ≠ (Int32.ofInt (-1)).toInt := (y_ci .ne _ _).mp z
        rw [ci1, cn] at y1
        have y2 : y_N fr' 1 ≠ -1 := y1
        have f : y_fr G H [] [] := y_st f0 hH (by repeat (first | exact w_nil | refine w_cons (Or.inl (y_m rfl)) ?_ | refine w_cons (Or.inr (by assumption)) ?_)) (by repeat (first | exact w_nil | refine w_cons (Or.inl (y_m rfl)) ?_ | refine w_cons (Or.inr (by assumption)) ?_))
        exact T45 false (y_sq e f rfl rfl) (tx_s_fr s2 f rfl rfl) ht ((y_ae f rfl).trans g2) hc c0 c65 (fun w => absurd w (by decide)) (fun _ w => y2 (k1 w.2))
      · have y1 : ¬ ((fr'.getD (Int32.ofInt 1).toNatClampNeg 0).toInt ≠ (Int32.ofInt (-1)).toInt) := y_cif z
        rw [ci1, cn] at y1
        have y2 : y_N fr' 1 = -1 := Decidable.not_not.mp y1
        have f : y_fr G H [] [] := y_st f0 hH (by repeat (first | exact w_nil | refine w_cons (Or.inl (y_m rfl)) ?_ | refine w_cons (Or.inr (by assumption)) ?_)) (by repeat (first | exact w_nil | refine w_cons (Or.inl (y_m rfl)) ?_ | refine w_cons (Or.inr (by assumption)) ?_))
        refine T45 true (y_sq e f rfl rfl) (tx_s_fr s2 f rfl rfl) ht ((y_ae f rfl).trans g2) hc c0 c65 (fun _ => ⟨h126, ?_⟩) (fun w => absurd w (by decide))
        rcases Nat.decEq k 1 with w | w
        · have := k2 w
          omega
        · exact w
  have T15 : ∀ {G : aH} {q k : Nat} {cI : Int32} {fr' : List Int32}, y_fr h G [1538, 6402] [52, 53, 54, 55, 56] → tx_s nd G sg t q → pr_tm (y_N sg) t nd.toInt 0 = (true, q, k) → w_a G 52 = some (0, .inl fr') → (k = 0 ∧ fr' = fr) ∨ tx_f fr fr' 0 k → cI.toInt = pr_k (y_N sg) t q → 0 ≤ cI.toInt → cI.toInt ≤ 65535 → aOK s_P X (d + 5) a_m80 15 [some (.ref 14), some (.ref 52), none, none] [.int cI] G C S K0 := by
    intro G q k cI fr' e s2 ht g2 hf hc c0 c65
    have f0 : y_fr G G [] [] := y_rf e.1
    refine w_go z_hl [45] [89] 30 e.1 ?_
    refine ⟨fun z => fun H hH => ?_, fun z => fun H hH => ?_⟩
    · have y1 : cI.toInt ≠ ((Int8.ofInt 126).toInt32).toInt := (y_ci .ne _ _).mp z
      rw [c126, hc] at y1
      have f : y_fr G H [] [] := y_st f0 hH (by repeat (first | exact w_nil | refine w_cons (Or.inl (y_m rfl)) ?_ | refine w_cons (Or.inr (by assumption)) ?_)) (by repeat (first | exact w_nil | refine w_cons (Or.inl (y_m rfl)) ?_ | refine w_cons (Or.inr (by assumption)) ?_))
      exact T45 false (y_sq e f rfl rfl) (tx_s_fr s2 f rfl rfl) ht ((y_ae f rfl).trans g2) hc c0 c65 (fun w => absurd w (by decide)) (fun _ w => y1 w.1)
    · have y1 : ¬ (cI.toInt ≠ ((Int8.ofInt 126).toInt32).toInt) := y_cif z
      rw [c126, hc] at y1
      have y2 : pr_k (y_N sg) t q = 126 := Decidable.not_not.mp y1
      have f : y_fr G H [] [] := y_st f0 hH (by repeat (first | exact w_nil | refine w_cons (Or.inl (y_m rfl)) ?_ | refine w_cons (Or.inr (by assumption)) ?_)) (by repeat (first | exact w_nil | refine w_cons (Or.inl (y_m rfl)) ?_ | refine w_cons (Or.inr (by assumption)) ?_))
      refine c_isNum5 f.1 ((y_ae f rfl).trans g2) (fun H2 f2 => ⟨fun n e => (by cases e), ?_⟩)
      have e3 := y_sq (y_sq e f rfl rfl) f2 rfl rfl
      have s3 := tx_s_fr (tx_s_fr s2 f rfl rfl) f2 rfl rfl
      have g3 := (y_ae f2 rfl).trans ((y_ae f rfl).trans g2)
      rcases hf with ⟨hf, hf'⟩ | ⟨hf, hg, hh, hi⟩
      · rw [decide_eq_true (show y_N fr' 0 = -1 by rw [hf']; exact hf0)]
        exact T27 true e3 s3 ht g3 hc c0 c65 y2 (fun _ => hf) (fun w => absurd w (by decide))
      · have hg' : 0 ≤ y_N fr' 0 := hg
        rw [decide_eq_false (show ¬ (y_N fr' 0 = -1) by omega)]
        refine T27 false e3 s3 ht g3 hc c0 c65 y2 (fun w => absurd w (by decide)) (fun _ => ⟨by omega, fun w => ?_, fun w => ?_⟩)
        · rw [hh w 1 (by decide)]
          exact hf1
        · exact (hi (by omega)).1
  have T6 : ∀ {G : aH} {q k : Nat} {fr' : List Int32} (b : Bool), y_fr h G [1538, 6402] [52, 53, 54, 55, 56] → tx_s nd G sg t q → pr_tm (y_N sg) t nd.toInt 0 = (b, q, k) → w_a G 52 = some (0, .inl fr') → (k = 0 ∧ fr' = fr) ∨ tx_f fr fr' 0 k → aOK s_P X (d + 5) a_m80 6 [some (.ref 14), some (.ref 52), none, none] [.int (y_01 b)] G C S K0 := by
    intro G q k fr' b e s2 ht g2 hf
    cases b with
    | true =>
      refine w_go z_hl [] [82] 30 e.1 ?_
      refine ⟨fun _ => fun H hH => ?_, fun z => absurd z (by decide)⟩
      have f : y_fr G H [] [] := y_st (y_rf e.1) hH (by repeat (first | exact w_nil | refine w_cons (Or.inl (y_m rfl)) ?_ | refine w_cons (Or.inr (by assumption)) ?_)) (by repeat (first | exact w_nil | refine w_cons (Or.inl (y_m rfl)) ?_ | refine w_cons (Or.inr (by assumption)) ?_))
      obtain ⟨sg', z1, z2, z3⟩ := w_arrI f.1 (o := 13) (t := 3) (n := 60) (lo := 0) (hi := 65535) (by decide) rfl
      have kb : 0 ≤ pr_k (y_N sg) t q ∧ pr_k (y_N sg) t q ≤ 65535 := by
        obtain ⟨-, -, -, b1, -, -, -, -, -, -, t40⟩ := tx_s_fr s2 f rfl rfl
        have e4 := w_a_at z1
        rw [b1] at e4
        obtain rfl : sg = sg' := by
          injection e4 with e5
          injection e5 with _ e6
          injection e6
        by_cases w : q < t
        · rw [pr_k_1 w]
          exact z3 _ (z_gd (0 : Int32) (show q < sg.length by omega))
        · rw [show pr_k (y_N sg) t q = 0 from if_neg w]
          decide
      refine c_lkT (tx_s_fr s2 f rfl rfl) (fun r H2 f2 er => ⟨fun n e => (by cases e), ?_⟩)
      exact T15 (y_sq (y_sq e f rfl rfl) f2 rfl rfl) (tx_s_fr (tx_s_fr s2 f rfl rfl) f2 rfl rfl) ht ((y_ae f2 rfl).trans ((y_ae f rfl).trans g2)) hf er (by omega) (by omega)
    | false =>
      refine w_go z_hl [] [82] 30 e.1 ?_
      refine ⟨fun z => absurd z (by decide), fun _ => ⟨by decide, fun H hH => ?_⟩⟩
      have f : y_fr G H [] [] := y_st (y_rf e.1) hH (by repeat (first | exact w_nil | refine w_cons (Or.inl (y_m rfl)) ?_ | refine w_cons (Or.inr (by assumption)) ?_)) (by repeat (first | exact w_nil | refine w_cons (Or.inl (y_m rfl)) ?_ | refine w_cons (Or.inr (by assumption)) ?_))
      exact no q H (y_sq e f rfl rfl) (tx_s_fr s2 f rfl rfl) (pr_sy_n ht)
  refine w_go z_hl [] [81] 20 hr ?_
  intro H hH
  have f : y_fr h H [] [] := y_st (y_rf hr) hH (by repeat (first | exact w_nil | refine w_cons (Or.inl (y_m rfl)) ?_ | refine w_cons (Or.inr (by assumption)) ?_)) (by repeat (first | exact w_nil | refine w_cons (Or.inl (y_m rfl)) ?_ | refine w_cons (Or.inr (by assumption)) ?_))
  refine c_tm5 (d := d) (sd := 0) n0 n10 (by decide) (by decide) (tx_s_fr s f rfl rfl) ((y_ae f rfl).trans gf) (fun b q k H2 fr' f2 s3 ht g3 hf => ⟨fun n e => (by cases e), ?_⟩)
  exact T6 b (y_sq (y_mo f rfl rfl) f2 rfl rfl) s3 ht g3 hf
theorem c_second5 (n0 : 0 ≤ nd.toInt) (n10 : nd.toInt ≤ 10) (s : tx_s nd h sg t p) {rel : Int32} (gr : w_f h 6402 = some (.int rel)) (hK : ∀ (b : Bool) (q k : Nat) (H : aH), y_fr h H [1538] [52, 53, 54, 55, 56] → tx_s nd H sg t q → (rel.toInt = 126 → pr_gv (y_N sg) t nd.toInt p = (b, q, k)) → (rel.toInt ≠ 126 → pr_tm (y_N sg) t nd.toInt p = (b, q, k)) → K0 (some (.int (y_01 b))) H C S) : aOK s_P X (d + 5) a_m90 0 [some (.ref 14), some (.ref 52)] [] h C S K0 := by
  have hr := (tx_s_hr s).1
  have c126 : ((Int8.ofInt 126).toInt32).toInt = 126 := by decide
  obtain ⟨fr, gf, -, -⟩ := c_arr hr (ob := 52) (n := 4) (lo := -1) (hi := 40) rfl
  have T22 : ∀ {G : aH} {b : Bool} {q k pc : Nat}, (pc = 13 ∨ pc = 22) → y_fr h G [1538] [52, 53, 54, 55, 56] → tx_s nd G sg t q → (rel.toInt = 126 → pr_gv (y_N sg) t nd.toInt p = (b, q, k)) → (rel.toInt ≠ 126 → pr_tm (y_N sg) t nd.toInt p = (b, q, k)) → aOK s_P X (d + 5) a_m90 pc [some (.ref 14), some (.ref 52)] [.int (y_01 b)] G C S K0 := by
    intro G b q k pc hpc e s2 h1 h2
    rcases hpc with rfl | rfl
    · refine w_go z_hl [] [] 20 e.1 ?_
      refine ⟨y_01b b, fun H hH => ?_⟩
      have f : y_fr G H [] [] := y_st (y_rf e.1) hH (by repeat (first | exact w_nil | refine w_cons (Or.inl (y_m rfl)) ?_ | refine w_cons (Or.inr (by assumption)) ?_)) (by repeat (first | exact w_nil | refine w_cons (Or.inl (y_m rfl)) ?_ | refine w_cons (Or.inr (by assumption)) ?_))
      exact hK b q k H (y_sq e f rfl rfl) (tx_s_fr s2 f rfl rfl) h1 h2
    · refine w_go z_hl [] [] 20 e.1 ?_
      refine ⟨y_01b b, fun H hH => ?_⟩
      have f : y_fr G H [] [] := y_st (y_rf e.1) hH (by repeat (first | exact w_nil | refine w_cons (Or.inl (y_m rfl)) ?_ | refine w_cons (Or.inr (by assumption)) ?_)) (by repeat (first | exact w_nil | refine w_cons (Or.inl (y_m rfl)) ?_ | refine w_cons (Or.inr (by assumption)) ?_))
      exact hK b q k H (y_sq e f rfl rfl) (tx_s_fr s2 f rfl rfl) h1 h2
  refine w_go z_hl [] [81, 86] 40 hr ?_
  intro x hx _ _
  obtain rfl := y_fi gr hx
  refine ⟨fun z => ⟨by decide, ⟨fun _ => fun H hH => ?_, fun z2 => absurd z2 (by decide)⟩⟩, fun z => ⟨by decide, ⟨fun z2 => absurd z2 (by decide), fun _ => fun H hH => ?_⟩⟩⟩
  · have y1 : rel.toInt ≠ ((Int8.ofInt 126).toInt32).toInt := (y_ci .ne _ _).mp z
    rw [c126] at y1
    have f : y_fr h H [] [] := y_st (y_rf hr) hH (by repeat (first | exact w_nil | refine w_cons (Or.inl (y_m rfl)) ?_ | refine w_cons (Or.inr (by assumption)) ?_)) (by repeat (first | exact w_nil | refine w_cons (Or.inl (y_m rfl)) ?_ | refine w_cons (Or.inr (by assumption)) ?_))
    refine c_tm5 (d := d) (sd := 1) n0 n10 (by decide) (by decide) (tx_s_fr s f rfl rfl) ((y_ae f rfl).trans gf) (fun b q k H2 fr' f2 s3 ht g3 hf => ⟨fun n e => (by cases e), ?_⟩)
    exact T22 (k := k) (Or.inr rfl) (y_sq (y_mo f rfl rfl) f2 rfl rfl) s3 (fun w => absurd w y1) (fun _ => ht)
  · have y1 : ¬ (rel.toInt ≠ ((Int8.ofInt 126).toInt32).toInt) := y_cif z
    rw [c126] at y1
    have f : y_fr h H [] [] := y_st (y_rf hr) hH (by repeat (first | exact w_nil | refine w_cons (Or.inl (y_m rfl)) ?_ | refine w_cons (Or.inr (by assumption)) ?_)) (by repeat (first | exact w_nil | refine w_cons (Or.inl (y_m rfl)) ?_ | refine w_cons (Or.inr (by assumption)) ?_))
    refine c_gv5 (d := d + 1) (sd := 1) n0 n10 (by decide) (by decide) (tx_s_fr s f rfl rfl) ((y_ae f rfl).trans gf) (fun b q k H2 fr' f2 s3 hg g3 hf => ⟨fun n e => (by cases e), ?_⟩)
    exact T22 (k := k) (Or.inl rfl) (y_sq (y_mo f rfl rfl) f2 rfl rfl) s3 (fun _ => hg) (fun w => absurd w y1)
end PFS5
end PT33ici
section PT33icj
/-! ===== v21: parse of the class with saying 5 (laid by wip/tools/mk21f.py) ===== -/
section PPS5
variable {X : aX} {C S d : Nat} {K0 : Option Value → aH → Nat → Nat → Prop} {sg : List Int32} {nd len : Int32} {h : aH}
theorem c_parse5 (hr : w_hr z_D h) (n0 : 0 ≤ nd.toInt) (n10 : nd.toInt ≤ 10) (l0 : 0 ≤ len.toInt) (l60 : len.toInt ≤ 60) (gs : w_a h 13 = some (3, .inl sg)) (hK : ∀ (r : Int32) (H : aH), y_fr h H [1538, 1539, 1540, 6401, 6402] [51, 52, 53, 54, 55, 56] → r.toInt = pr_wr (y_N sg) len.toInt.toNat nd.toInt → (pr_sy (y_N sg) (pr_t len.toInt.toNat) nd.toInt).2 ≤ pr_t len.toInt.toNat → K0 (some (.int r)) H C S) : aOK s_P X (d + 6) a_m78 0 [some (.ref 14), some (.int len), some (.int nd), some (.ref 52), none] [] h C S K0 := by
  have c40 : ((Int8.ofInt 40).toInt32).toInt = 40 := by decide
  have tl := pr_t_le (len := len.toInt.toNat)
  -- the end: whole or not
  have T56 : ∀ {G : aH} {q : Nat} (b : Bool), y_fr h G [1538, 1539, 1540, 6401, 6402] [52, 53, 54, 55, 56] → tx_s nd G sg (pr_t len.toInt.toNat) q → (pr_sy (y_N sg) (pr_t len.toInt.toNat) nd.toInt).2 = q → pr_wh (y_N sg) (pr_t len.toInt.toNat) nd.toInt = b → aOK s_P X (d + 6) a_m78 56 [some (.ref 14), some (.int len), some (.int nd), some (.ref 52), none] [.int (y_01 b)] G C S K0 := by
    intro G q b e s hq hb
    obtain ⟨toI, atI, -, a1, a2, a3, a4, a5, a6, pt, t40⟩ := id s
    have f0 : y_fr G G [] [] := y_rf e.1
    have out : ∀ {H : aH} {r : Int32}, y_fr G H [] [] → r.toInt = pr_wr (y_N sg) len.toInt.toNat nd.toInt → K0 (some (.int r)) H C S := fun f er => hK _ _ (y_mo (y_sq e f rfl rfl) rfl rfl) er (by omega)
    cases b with
    | true =>
      have ew : pr_wr (y_N sg) len.toInt.toNat nd.toInt = if 40 < len.toInt.toNat then 40 else -1 := if_pos hb
      have T97 : ∀ {H : aH}, y_fr G H [] [] → ¬ (40 < len.toInt.toNat) → aOK s_P X (d + 6) a_m78 97 [some (.ref 14), some (.int len), some (.int nd), some (.ref 52), some (.int (y_01 true))] [] H C S K0 := by
        intro H f nl
        refine w_go z_hl [111] [] 30 f.1 ?_
        intro x hx _ _
        obtain rfl := y_fi ((y_fe f rfl).trans a2) hx
        intro H2 h2
        have f2 : y_fr G H2 [] [] := y_st f h2 (by repeat (first | exact w_nil | refine w_cons (Or.inl (y_m rfl)) ?_ | refine w_cons (Or.inr (by assumption)) ?_)) (by repeat (first | exact w_nil | refine w_cons (Or.inl (y_m rfl)) ?_ | refine w_cons (Or.inr (by assumption)) ?_))
        refine y_copy3 (o := 13) (dd := 51) (m := pr_t len.toInt.toNat) (n1 := 60) (n2 := 40) f2.1 a3 rfl rfl (by omega) (by omega) rfl rfl (by decide) (fun H3 f3 => ?_)
        show aOK s_P X (d + 6) a_m78 114 [some (.ref 14), some (.int len), some (.int nd), some (.ref 52), some (.int (y_01 true))] [] H3 C S K0
        have f4 : y_fr G H3 [] [51] := y_sq (y_mo f2 rfl rfl) f3 rfl rfl
        refine w_go z_hl [] [] 30 f3.1 ?_
        intro x hx x0 x40
        obtain rfl := y_fi ((y_fe f4 rfl).trans a2) hx
        refine ⟨rfl, y_zini x0 x40, fun H5 h5 => ?_⟩
        have f5 : y_fr H3 H5 [6401] [] := y_st (y_mo (y_rf f3.1) rfl rfl) h5 (by repeat (first | exact w_nil | refine w_cons (Or.inl (y_m rfl)) ?_ | refine w_cons (Or.inr (by assumption)) ?_)) (by repeat (first | exact w_nil | refine w_cons (Or.inl (y_m rfl)) ?_ | refine w_cons (Or.inr (by assumption)) ?_))
        refine hK _ H5 (y_sq (y_sq (y_mo e rfl rfl) f4 rfl rfl) f5 rfl rfl) ?_ (by omega)
        rw [ew, if_neg nl]
        decide
      refine w_go z_hl [97] [] 40 e.1 ?_
      refine ⟨fun _ => ⟨fun z => absurd z (by decide), fun _ => ?_⟩, fun z => absurd z (by decide)⟩
      intro x hx _ _
      obtain rfl := y_fi a2 hx
      refine ⟨fun z => fun H hH => ?_, fun z => fun H hH => ?_⟩
      · have y1 : len.toInt ≤ toI.toInt := (y_ci .le _ _).mp z
        exact T97 (y_st f0 hH (by repeat (first | exact w_nil | refine w_cons (Or.inl (y_m rfl)) ?_ | refine w_cons (Or.inr (by assumption)) ?_)) (by repeat (first | exact w_nil | refine w_cons (Or.inl (y_m rfl)) ?_ | refine w_cons (Or.inr (by assumption)) ?_))) (by omega)
      · have y1 : ¬ (len.toInt ≤ toI.toInt) := y_cif z
        have lt : 40 < len.toInt.toNat := by
          rcases Nat.lt_or_ge 40 len.toInt.toNat with w | w
          · exact w
          · have et : pr_t len.toInt.toNat = len.toInt.toNat := if_neg (by omega)
            omega
        have et : pr_t len.toInt.toNat = 40 := if_pos lt
        exact out (y_st f0 hH (by repeat (first | exact w_nil | refine w_cons (Or.inl (y_m rfl)) ?_ | refine w_cons (Or.inr (by assumption)) ?_)) (by repeat (first | exact w_nil | refine w_cons (Or.inl (y_m rfl)) ?_ | refine w_cons (Or.inr (by assumption)) ?_))) (by rw [ew, if_pos lt]; omega)
    | false =>
      have ew : pr_wr (y_N sg) len.toInt.toNat nd.toInt = (q : Nat) := by
        unfold pr_wr
        rw [if_neg (by rw [hb]; decide), hq]
      refine w_go z_hl [97] [] 40 e.1 ?_
      refine ⟨fun z => absurd z (by decide), fun _ => ?_⟩
      intro x hx _ _
      obtain rfl := y_fi a4 hx
      intro y hy _ _
      obtain rfl := y_fi a2 hy
      refine ⟨fun z => ⟨fun _ => fun H hH => ?_, fun z2 => absurd z2 (by decide)⟩, fun z => fun H hH => ?_⟩
      · have y1 : toI.toInt ≤ atI.toInt := (y_ci .ge _ _).mp z
        exact out (y_st f0 hH (by repeat (first | exact w_nil | refine w_cons (Or.inl (y_m rfl)) ?_ | refine w_cons (Or.inr (by assumption)) ?_)) (by repeat (first | exact w_nil | refine w_cons (Or.inl (y_m rfl)) ?_ | refine w_cons (Or.inr (by assumption)) ?_))) (by rw [ew]; omega)
      · exact out (y_st f0 hH (by repeat (first | exact w_nil | refine w_cons (Or.inl (y_m rfl)) ?_ | refine w_cons (Or.inr (by assumption)) ?_)) (by repeat (first | exact w_nil | refine w_cons (Or.inl (y_m rfl)) ?_ | refine w_cons (Or.inr (by assumption)) ?_))) (by rw [ew]; exact a5)
  have T37 : ∀ {G : aH} {q : Nat} (b : Bool), y_fr h G [1538, 1539, 1540, 6401, 6402] [52, 53, 54, 55, 56] → tx_s nd G sg (pr_t len.toInt.toNat) q → pr_sy (y_N sg) (pr_t len.toInt.toNat) nd.toInt = (b, q) → aOK s_P X (d + 6) a_m78 37 [some (.ref 14), some (.int len), some (.int nd), some (.ref 52), none] [.int (y_01 b)] G C S K0 := by
    intro G q b e s hs
    obtain ⟨toI, atI, -, a1, a2, a3, a4, a5, a6, pt, t40⟩ := id s
    have f0 : y_fr G G [] [] := y_rf e.1
    cases b with
    | true =>
      refine w_go z_hl [56] [] 40 e.1 ?_
      refine ⟨fun z => absurd z (by decide), fun _ => ?_⟩
      intro x hx _ _
      obtain rfl := y_fi a4 hx
      intro y hy _ _
      obtain rfl := y_fi a2 hy
      refine ⟨fun z => fun H hH => ?_, fun z => fun H hH => ?_⟩
      · have y1 : atI.toInt ≠ toI.toInt := (y_ci .ne _ _).mp z
        have f : y_fr G H [] [] := y_st f0 hH (by repeat (first | exact w_nil | refine w_cons (Or.inl (y_m rfl)) ?_ | refine w_cons (Or.inr (by assumption)) ?_)) (by repeat (first | exact w_nil | refine w_cons (Or.inl (y_m rfl)) ?_ | refine w_cons (Or.inr (by assumption)) ?_))
        refine T56 false (y_sq e f rfl rfl) (tx_s_fr s f rfl rfl) (by rw [hs]) ?_
        unfold pr_wh
        rw [hs]
        show (true && decide (q = pr_t len.toInt.toNat)) = false
        rw [decide_eq_false (by omega)]
        rfl
      · have y1 : ¬ (atI.toInt ≠ toI.toInt) := y_cif z
        have f : y_fr G H [] [] := y_st f0 hH (by repeat (first | exact w_nil | refine w_cons (Or.inl (y_m rfl)) ?_ | refine w_cons (Or.inr (by assumption)) ?_)) (by repeat (first | exact w_nil | refine w_cons (Or.inl (y_m rfl)) ?_ | refine w_cons (Or.inr (by assumption)) ?_))
        refine T56 true (y_sq e f rfl rfl) (tx_s_fr s f rfl rfl) (by rw [hs]) ?_
        unfold pr_wh
        rw [hs]
        show (true && decide (q = pr_t len.toInt.toNat)) = true
        rw [decide_eq_true (by omega)]
        rfl
    | false =>
      refine w_go z_hl [56] [] 40 e.1 ?_
      refine ⟨fun _ => fun H hH => ?_, fun z => absurd z (by decide)⟩
      have f : y_fr G H [] [] := y_st f0 hH (by repeat (first | exact w_nil | refine w_cons (Or.inl (y_m rfl)) ?_ | refine w_cons (Or.inr (by assumption)) ?_)) (by repeat (first | exact w_nil | refine w_cons (Or.inl (y_m rfl)) ?_ | refine w_cons (Or.inr (by assumption)) ?_))
      refine T56 false (y_sq e f rfl rfl) (tx_s_fr s f rfl rfl) (by rw [hs]) ?_
      unfold pr_wh
      rw [hs]
      rfl
  have T29n : ∀ {G : aH} {q : Nat}, y_fr h G [1538, 1539, 1540, 6401, 6402] [52, 53, 54, 55, 56] → tx_s nd G sg (pr_t len.toInt.toNat) q → pr_sy (y_N sg) (pr_t len.toInt.toNat) nd.toInt = (false, q) → aOK s_P X (d + 6) a_m78 29 [some (.ref 14), some (.int len), some (.int nd), some (.ref 52), none] [.int (y_01 false)] G C S K0 := by
    intro G q e s hs
    refine w_go z_hl [56] [] 40 e.1 ?_
    refine ⟨fun _ => fun H hH => ?_, fun z => absurd z (by decide)⟩
    have f : y_fr G H [] [] := y_st (y_rf e.1) hH (by repeat (first | exact w_nil | refine w_cons (Or.inl (y_m rfl)) ?_ | refine w_cons (Or.inr (by assumption)) ?_)) (by repeat (first | exact w_nil | refine w_cons (Or.inl (y_m rfl)) ?_ | refine w_cons (Or.inr (by assumption)) ?_))
    refine T56 false (y_sq e f rfl rfl) (tx_s_fr s f rfl rfl) (by rw [hs]) ?_
    unfold pr_wh
    rw [hs]
    rfl
  have T29 : ∀ {G : aH} {q k : Nat} {rel : Int32}, y_fr h G [1538, 1539, 1540, 6401, 6402] [52, 53, 54, 55, 56] → tx_s nd G sg (pr_t len.toInt.toNat) (q + 1) → pr_tm (y_N sg) (pr_t len.toInt.toNat) nd.toInt 0 = (true, q, k) → w_f G 6402 = some (.int rel) → ((pr_k (y_N sg) (pr_t len.toInt.toNat) q = 126 ∧ k = 1) ∧ rel.toInt = 126) ∨ (¬ (pr_k (y_N sg) (pr_t len.toInt.toNat) q = 126 ∧ k = 1) ∧ (pr_k (y_N sg) (pr_t len.toInt.toNat) q = 61 ∨ pr_k (y_N sg) (pr_t len.toInt.toNat) q = 60 ∨ pr_k (y_N sg) (pr_t len.toInt.toNat) q = 62) ∧ rel.toInt ≠ 126) → aOK s_P X (d + 6) a_m78 29 [some (.ref 14), some (.int len), some (.int nd), some (.ref 52), none] [.int (y_01 true)] G C S K0 := by
    intro G q k rel e s ht gr hw
    refine w_go z_hl [56] [90] 40 e.1 ?_
    refine ⟨fun z => absurd z (by decide), fun _ => fun H hH => ?_⟩
    have f : y_fr G H [] [] := y_st (y_rf e.1) hH (by repeat (first | exact w_nil | refine w_cons (Or.inl (y_m rfl)) ?_ | refine w_cons (Or.inr (by assumption)) ?_)) (by repeat (first | exact w_nil | refine w_cons (Or.inl (y_m rfl)) ?_ | refine w_cons (Or.inr (by assumption)) ?_))
    refine c_second5 (d := d) n0 n10 (tx_s_fr s f rfl rfl) ((y_fe f rfl).trans gr) (fun b r k2 H2 f2 s3 h1 h2 => ⟨fun n e => (by cases e), ?_⟩)
    refine T37 b (y_sq (y_sq e f rfl rfl) f2 rfl rfl) s3 ?_
    rcases hw with ⟨⟨w1, w2⟩, w3⟩ | ⟨w1, w2, w3⟩
    · rw [w2] at ht
      exact pr_sy_b ht w1 (h1 w3)
    · exact pr_sy_c ht w1 w2 (h2 w3)
  have T24 : ∀ {G : aH} {fr : List Int32}, y_fr h G [1538, 1539, 1540, 6401, 6402] [52, 53, 54, 55, 56] → tx_s nd G sg (pr_t len.toInt.toNat) 0 → w_a G 52 = some (0, .inl fr) → (∀ j, j < 4 → y_N fr j = -1) → aOK s_P X (d + 6) a_m78 24 [some (.ref 14), some (.int len), some (.int nd), some (.ref 52), none] [] G C S K0 := by
    intro G fr e s g hf
    refine w_go z_hl [56] [80] 40 e.1 ?_
    intro H hH
    have f : y_fr G H [] [] := y_st (y_rf e.1) hH (by repeat (first | exact w_nil | refine w_cons (Or.inl (y_m rfl)) ?_ | refine w_cons (Or.inr (by assumption)) ?_)) (by repeat (first | exact w_nil | refine w_cons (Or.inl (y_m rfl)) ?_ | refine w_cons (Or.inr (by assumption)) ?_))
    refine c_first5 (d := d) n0 n10 (tx_s_fr s f rfl rfl) ((y_ae f rfl).trans g) (hf 0 (by decide)) (hf 1 (by decide)) (fun q k H2 rel fr' f2 s3 ht gr g3 hw => ⟨fun n e => (by cases e), ?_⟩) (fun q H2 f2 s3 hs => ⟨fun n e => (by cases e), ?_⟩)
    · exact T29 (y_sq (y_sq e f rfl rfl) f2 rfl rfl) s3 ht gr hw
    · exact T29n (y_sq (y_sq e f rfl rfl) f2 rfl rfl) s3 hs
  refine w_go z_hl [56] [79] 60 hr ?_
  refine ⟨rfl, y_zini (by decide) (by decide), ?_⟩
  refine ⟨fun z => ⟨rfl, y_zini (by decide) (by decide), rfl, y_zini n0 n10, fun H hH => ?_⟩, fun z => ⟨rfl, y_zini l0 ?_, rfl, y_zini n0 n10, fun H hH => ?_⟩⟩
  · have y1 : ((Int8.ofInt 40).toInt32).toInt < len.toInt := (y_ci .gt _ _).mp z
    rw [c40] at y1
    have et : pr_t len.toInt.toNat = 40 := if_pos (by omega)
    have f : y_fr h H [1538, 1539, 1540] [] := y_st (y_mo (y_rf hr) rfl rfl) hH (by repeat (first | exact w_nil | refine w_cons (Or.inl (y_m rfl)) ?_ | refine w_cons (Or.inr (by assumption)) ?_)) (by repeat (first | exact w_nil | refine w_cons (Or.inl (y_m rfl)) ?_ | refine w_cons (Or.inr (by assumption)) ?_))
    have s : tx_s nd H sg (pr_t len.toInt.toNat) 0 := ⟨_, _, f.1, (y_ae f rfl).trans gs, hH.2.1 1539 _ rfl, by rw [et]; exact c40, hH.2.1 1538 _ rfl, rfl, hH.2.1 1540 _ rfl, Nat.zero_le _, tl.1⟩
    refine c_clear5 f.1 (fun H2 fr f2 g2 hf => ⟨fun n e => (by cases e), ?_⟩)
    exact T24 (y_sq (y_mo f rfl rfl) f2 rfl rfl) (tx_s_fr s f2 rfl rfl) g2 hf
  · have y1 : ¬ (((Int8.ofInt 40).toInt32).toInt < len.toInt) := y_cif z
    rw [c40] at y1
    show len.toInt ≤ 40
    omega
  · have y1 : ¬ (((Int8.ofInt 40).toInt32).toInt < len.toInt) := y_cif z
    rw [c40] at y1
    have et : pr_t len.toInt.toNat = len.toInt.toNat := if_neg (by omega)
    have f : y_fr h H [1538, 1539, 1540] [] := y_st (y_mo (y_rf hr) rfl rfl) hH (by repeat (first | exact w_nil | refine w_cons (Or.inl (y_m rfl)) ?_ | refine w_cons (Or.inr (by assumption)) ?_)) (by repeat (first | exact w_nil | refine w_cons (Or.inl (y_m rfl)) ?_ | refine w_cons (Or.inr (by assumption)) ?_))
    have s : tx_s nd H sg (pr_t len.toInt.toNat) 0 := ⟨_, _, f.1, (y_ae f rfl).trans gs, hH.2.1 1539 _ rfl, by rw [et]; omega, hH.2.1 1538 _ rfl, rfl, hH.2.1 1540 _ rfl, Nat.zero_le _, tl.1⟩
    refine c_clear5 f.1 (fun H2 fr f2 g2 hf => ⟨fun n e => (by cases e), ?_⟩)
    exact T24 (y_sq (y_mo f rfl rfl) f2 rfl rfl) (tx_s_fr s f2 rfl rfl) g2 hf
end PPS5
end PT33icj
section PT33ick
/-! ===== v21: parseEvent of the class with saying 6 (laid by wip/tools/mk21c.py) ===== -/
section PEV6
variable {X : aX} {C S d : Nat} {K0 : Option Value → aH → Nat → Nat → Prop} {sg : List Int32} {t : Nat} {nd : Int32}
theorem c_evl6 (n0 : 0 ≤ nd.toInt) (n10 : nd.toInt ≤ 10) {pI : Int32} {pa : Nat} (hpa : pI.toInt = pa) (pa4 : pa < 4) : ∀ (m : Nat) (h : aH) (p : Nat) (oI : Int32) (o : Nat) (o4 : Option Value), tx_s nd h sg t p → oI.toInt = o → o ≤ 5 → t - p ≤ m → (∀ (b : Bool) (q : Nat) (H : aH), y_fr h H [1538] [60, 61] → tx_s nd H sg t q → pr_E (y_N sg) t nd.toInt false p o = (b, q) → K0 (some (.int (y_01 b))) H C S) → aOK s_P X (d + 2) a_m87 12 [some (.ref 14), some (.ref 59), some (.int pI), some (.int oI), o4] [] h C S K0 := by
  have c33 : ((Int8.ofInt 33).toInt32).toInt = 33 := by decide
  have c38 : ((Int8.ofInt 38).toInt32).toInt = 38 := by decide
  have c40 : ((Int8.ofInt 40).toInt32).toInt = 40 := by decide
  have c97 : ((Int8.ofInt 97).toInt32).toInt = 97 := by decide
  have c124 : ((Int8.ofInt 124).toInt32).toInt = 124 := by decide
  have c5 : (Int32.ofInt 5).toInt = 5 := by decide
  have z0 : (0 : Int32).toInt = 0 := by decide
  have cn : ((Int8.ofInt 97).toInt32 + nd).toInt = 97 + nd.toInt := by
    rw [Int32.toInt_add, c97]
    exact Int.bmod_eq_of_le (by omega) (by omega)
  intro m
  induction m with
  | zero =>
    intro h p oI o o4 s ho o5 hm hK
    obtain ⟨toI, atI, hr, a1, a2, a3, a4, a5, a6, pt, t40⟩ := id s
    refine w_go z_hl [12] [82] 30 hr ?_
    intro x hx _ _
    obtain rfl := y_fi a4 hx
    intro y hy _ _
    obtain rfl := y_fi a2 hy
    refine ⟨fun _ => ⟨by decide, fun H hH => ?_⟩, fun z => ?_⟩
    · have f : y_fr h H [] [] := y_st (y_rf hr) hH (by repeat (first | exact w_nil | refine w_cons (Or.inl (y_m rfl)) ?_ | refine w_cons (Or.inr (by assumption)) ?_)) (by repeat (first | exact w_nil | refine w_cons (Or.inl (y_m rfl)) ?_ | refine w_cons (Or.inr (by assumption)) ?_))
      have k0 : pr_k (y_N sg) t p = 0 := if_neg (by omega)
      exact hK false p H (y_mo f rfl rfl) (tx_s_fr s f rfl rfl) (pr_bad (by omega) (by omega) (fun w => by have := w.1; omega) (fun w => by have := w.1; omega))
    · have y1 : ¬ (toI.toInt ≤ atI.toInt) := y_cif z
      exfalso
      omega
  | succ m ih =>
    intro h p oI o o4 s ho o5 hm hK
    obtain ⟨toI, atI, hr, a1, a2, a3, a4, a5, a6, pt, t40⟩ := id s
    -- on to the next sign
    have T189 : ∀ {G : aH} {oJ : Int32} {q o' : Nat} {p4 : Option Value}, y_fr h G [1538] [60, 61] → tx_s nd G sg t q → p < q → q < t → oJ.toInt = o' → o' ≤ 5 → pr_E (y_N sg) t nd.toInt false p o = pr_E (y_N sg) t nd.toInt false (q + 1) o' → aOK s_P X (d + 2) a_m87 189 [some (.ref 14), some (.ref 59), some (.int pI), some (.int oJ), p4] [] G C S K0 := by
      intro G oJ q o' p4 e s2 pq qt hoJ o5' hE
      obtain ⟨toJ, atJ, -, b1, b2, b3, b4, b5, b6, -, -⟩ := id s2
      have inc : (atJ + Int32.ofInt 1).toInt = ((q + 1 : Nat) : Int) := by rw [y_inc (by omega), b5]; rfl
      refine w_go z_hl [12] [82] 30 e.1 ?_
      intro x hx _ _
      obtain rfl := y_fi b4 hx
      refine ⟨rfl, y_zini (by show 0 ≤ (atJ + Int32.ofInt 1).toInt; omega) (by show (atJ + Int32.ofInt 1).toInt ≤ 40; omega), fun H hH => ?_⟩
      have f : y_fr G H [1538] [] := y_st (y_mo (y_rf e.1) rfl rfl) hH (by repeat (first | exact w_nil | refine w_cons (Or.inl (y_m rfl)) ?_ | refine w_cons (Or.inr (by assumption)) ?_)) (by repeat (first | exact w_nil | refine w_cons (Or.inl (y_m rfl)) ?_ | refine w_cons (Or.inr (by assumption)) ?_))
      exact ih H (q + 1) _ o' _ (tx_s_at s2 f rfl (hH.2.1 1538 _ rfl) inc (by omega)) hoJ o5' (by omega) (fun b r H' f1 f2 f3 => hK b r H' (y_sq (y_sq e f rfl rfl) f1 rfl rfl) f2 (hE.trans f3))
    have T143 : ∀ {G : aH} {oJ cI : Int32} {q o' : Nat}, y_fr h G [1538] [60, 61] → tx_s nd G sg t q → p < q → q < t → oJ.toInt = o' → o' ≤ 5 → pr_E (y_N sg) t nd.toInt false p o = pr_E (y_N sg) t nd.toInt false (q + 1) o' → aOK s_P X (d + 2) a_m87 143 [some (.ref 14), some (.ref 59), some (.int pI), some (.int oJ), some (.int cI)] [] G C S K0 := by
      intro G oJ cI q o' e s2 pq qt hoJ o5' hE
      have f0 : y_fr G G [] [] := y_rf e.1
      have T168 : ∀ {G2 : aH}, y_fr G G2 [] [60] → aOK s_P X (d + 2) a_m87 168 [some (.ref 14), some (.ref 59), some (.int pI), some (.int oJ), some (.int cI)] [] G2 C S K0 := by
        intro G2 f
        refine w_go z_hl [189] [82] 40 f.1 ?_
        refine ⟨⟨by omega, by omega⟩, fun l hl len bb => ⟨fun _ => ⟨⟨by omega, by omega⟩, y_l32 _, fun H hH => ?_⟩, fun _ => ⟨⟨by omega, by omega⟩, y_l32 _, fun H hH => ?_⟩⟩⟩
        · have f2 : y_fr G H [] [60, 61] := y_st (y_mo f rfl rfl) hH (by repeat (first | exact w_nil | refine w_cons (Or.inl (y_m rfl)) ?_ | refine w_cons (Or.inr (by assumption)) ?_)) (by repeat (first | exact w_nil | refine w_cons (Or.inl (y_m rfl)) ?_ | refine w_cons (Or.inr (by assumption)) ?_))
          exact T189 (y_sq e (y_mo f2 rfl rfl : y_fr G H [1538] [60, 61]) rfl rfl) (tx_s_fr s2 f2 rfl rfl) pq qt hoJ o5' hE
        · have f2 : y_fr G H [] [60, 61] := y_st (y_mo f rfl rfl) hH (by repeat (first | exact w_nil | refine w_cons (Or.inl (y_m rfl)) ?_ | refine w_cons (Or.inr (by assumption)) ?_)) (by repeat (first | exact w_nil | refine w_cons (Or.inl (y_m rfl)) ?_ | refine w_cons (Or.inr (by assumption)) ?_))
          exact T189 (y_sq e (y_mo f2 rfl rfl : y_fr G H [1538] [60, 61]) rfl rfl) (tx_s_fr s2 f2 rfl rfl) pq qt hoJ o5' hE
      refine w_go z_hl [168, 189] [82] 40 e.1 ?_
      refine ⟨fun _ => fun H hH => ?_, fun _ => ⟨⟨by omega, by omega⟩, fun l hl len bb => ⟨fun _ => ⟨⟨by omega, by omega⟩, y_l32 _, fun H hH => ?_⟩, fun _ => ⟨⟨by omega, by omega⟩, y_l32 _, fun H hH => ?_⟩⟩⟩⟩
      · have f2 : y_fr G H [] [] := y_st f0 hH (by repeat (first | exact w_nil | refine w_cons (Or.inl (y_m rfl)) ?_ | refine w_cons (Or.inr (by assumption)) ?_)) (by repeat (first | exact w_nil | refine w_cons (Or.inl (y_m rfl)) ?_ | refine w_cons (Or.inr (by assumption)) ?_))
        exact T189 (y_sq e f2 rfl rfl) (tx_s_fr s2 f2 rfl rfl) pq qt hoJ o5' hE
      · exact T168 (y_st (y_mo f0 rfl rfl) hH (by repeat (first | exact w_nil | refine w_cons (Or.inl (y_m rfl)) ?_ | refine w_cons (Or.inr (by assumption)) ?_)) (by repeat (first | exact w_nil | refine w_cons (Or.inl (y_m rfl)) ?_ | refine w_cons (Or.inr (by assumption)) ?_)))
      · exact T168 (y_st (y_mo f0 rfl rfl) hH (by repeat (first | exact w_nil | refine w_cons (Or.inl (y_m rfl)) ?_ | refine w_cons (Or.inr (by assumption)) ?_)) (by repeat (first | exact w_nil | refine w_cons (Or.inl (y_m rfl)) ?_ | refine w_cons (Or.inr (by assumption)) ?_)))
    have T117 : ∀ {G : aH} {oJ cI : Int32} {q o' : Nat} {p4 : Option Value}, y_fr h G [1538] [] → tx_s nd G sg t q → p < q → oJ.toInt = o' → o' ≤ 5 → cI.toInt = pr_k (y_N sg) t q → pr_E (y_N sg) t nd.toInt false p o = pr_E (y_N sg) t nd.toInt true q o' → ¬ (pr_k (y_N sg) t q = 41 ∧ 0 < o') → aOK s_P X (d + 2) a_m87 117 [some (.ref 14), some (.ref 59), some (.int pI), some (.int oJ), p4] [.int cI] G C S K0 := by
      intro G oJ cI q o' p4 e s2 pq hoJ o5' hc hE h41
      have q40 := (tx_s_hr s2).2.1
      have f0 : y_fr G G [] [] := y_rf e.1
      refine w_go z_hl [143] [82] 40 e.1 ?_
      refine ⟨fun z => fun H hH => ?_, fun z => ⟨fun z2 => fun H hH => ?_, fun z2 => ⟨fun z3 => ⟨by decide, fun H hH => ?_⟩, fun z3 => ⟨by decide, fun H hH => ?_⟩⟩⟩⟩
      · have y1 : cI.toInt = ((Int8.ofInt 38).toInt32).toInt := (y_ci .eq _ _).mp z
        rw [c38, hc] at y1
        have f2 : y_fr G H [] [] := y_st f0 hH (by repeat (first | exact w_nil | refine w_cons (Or.inl (y_m rfl)) ?_ | refine w_cons (Or.inr (by assumption)) ?_)) (by repeat (first | exact w_nil | refine w_cons (Or.inl (y_m rfl)) ?_ | refine w_cons (Or.inr (by assumption)) ?_))
        exact T143 (y_mo (y_sq e f2 rfl rfl) rfl rfl) (tx_s_fr s2 f2 rfl rfl) pq (pr_k_t (by decide) y1) hoJ o5' (hE.trans (pr_op (by omega) (Or.inl y1)))
      · have y1 : cI.toInt = ((Int8.ofInt 124).toInt32).toInt := (y_ci .eq _ _).mp z2
        rw [c124, hc] at y1
        have f2 : y_fr G H [] [] := y_st f0 hH (by repeat (first | exact w_nil | refine w_cons (Or.inl (y_m rfl)) ?_ | refine w_cons (Or.inr (by assumption)) ?_)) (by repeat (first | exact w_nil | refine w_cons (Or.inl (y_m rfl)) ?_ | refine w_cons (Or.inr (by assumption)) ?_))
        exact T143 (y_mo (y_sq e f2 rfl rfl) rfl rfl) (tx_s_fr s2 f2 rfl rfl) pq (pr_k_t (by decide) y1) hoJ o5' (hE.trans (pr_op (by omega) (Or.inr y1)))
      · have y1 : ¬ (cI.toInt = ((Int8.ofInt 38).toInt32).toInt) := y_cif z
        have y2 : ¬ (cI.toInt = ((Int8.ofInt 124).toInt32).toInt) := y_cif z2
        have y3 : oJ.toInt ≠ (0 : Int32).toInt := (y_ci .ne _ _).mp z3
        rw [c38, hc] at y1
        rw [c124, hc] at y2
        rw [z0] at y3
        have f2 : y_fr G H [] [] := y_st f0 hH (by repeat (first | exact w_nil | refine w_cons (Or.inl (y_m rfl)) ?_ | refine w_cons (Or.inr (by assumption)) ?_)) (by repeat (first | exact w_nil | refine w_cons (Or.inl (y_m rfl)) ?_ | refine w_cons (Or.inr (by assumption)) ?_))
        refine hK false q H (y_mo (y_sq e f2 rfl rfl) rfl rfl) (tx_s_fr s2 f2 rfl rfl) (hE.trans ?_)
        rw [pr_end (by omega) h41 y1 y2, decide_eq_false (by omega)]
      · have y1 : ¬ (cI.toInt = ((Int8.ofInt 38).toInt32).toInt) := y_cif z
        have y2 : ¬ (cI.toInt = ((Int8.ofInt 124).toInt32).toInt) := y_cif z2
        have y3 : ¬ (oJ.toInt ≠ (0 : Int32).toInt) := y_cif z3
        rw [c38, hc] at y1
        rw [c124, hc] at y2
        rw [z0] at y3
        have f2 : y_fr G H [] [] := y_st f0 hH (by repeat (first | exact w_nil | refine w_cons (Or.inl (y_m rfl)) ?_ | refine w_cons (Or.inr (by assumption)) ?_)) (by repeat (first | exact w_nil | refine w_cons (Or.inl (y_m rfl)) ?_ | refine w_cons (Or.inr (by assumption)) ?_))
        refine hK true q H (y_mo (y_sq e f2 rfl rfl) rfl rfl) (tx_s_fr s2 f2 rfl rfl) (hE.trans ?_)
        rw [pr_end (by omega) h41 y1 y2, decide_eq_true (by omega)]
    have T112 : ∀ {G : aH} {oJ : Int32} {q o' : Nat} {p3 p4 : Option Value}, y_fr h G [1538] [] → tx_s nd G sg t q → p < q → oJ.toInt = o' → o' ≤ 5 → pr_E (y_N sg) t nd.toInt false p o = pr_E (y_N sg) t nd.toInt true q o' → ¬ (pr_k (y_N sg) t q = 41 ∧ 0 < o') → aOK s_P X (d + 2) a_m87 112 [some (.ref 14), some (.ref 59), some (.int pI), p3, p4] [.int oJ] G C S K0 := by
      intro G oJ q o' p3 p4 e s2 pq hoJ o5' hE h41
      refine w_go z_hl [143] [82] 20 e.1 ?_
      intro H hH
      have f2 : y_fr G H [] [] := y_st (y_rf e.1) hH (by repeat (first | exact w_nil | refine w_cons (Or.inl (y_m rfl)) ?_ | refine w_cons (Or.inr (by assumption)) ?_)) (by repeat (first | exact w_nil | refine w_cons (Or.inl (y_m rfl)) ?_ | refine w_cons (Or.inr (by assumption)) ?_))
      refine c_lkT (tx_s_fr s2 f2 rfl rfl) (fun r H2 f3 er => ⟨fun n e => (by cases e), ?_⟩)
      exact T117 (y_sq (y_sq e f2 rfl rfl) f3 rfl rfl) (tx_s_fr (tx_s_fr s2 f2 rfl rfl) f3 rfl rfl) pq hoJ o5' er hE h41
    have T97 : ∀ {G : aH} {cI : Int32}, y_fr h G [] [] → p < t → 97 ≤ pr_k (y_N sg) t p → pr_k (y_N sg) t p < 97 + nd.toInt → aOK s_P X (d + 2) a_m87 97 [some (.ref 14), some (.ref 59), some (.int pI), some (.int oI), some (.int cI)] [] G C S K0 := by
      intro G cI e ptt h97 h98
      have s2 := tx_s_fr s e rfl rfl
      have inc : (atI + Int32.ofInt 1).toInt = ((p + 1 : Nat) : Int) := by rw [y_inc (by omega), a5]; rfl
      refine w_go z_hl [12] [88] 30 e.1 ?_
      intro x hx _ _
      obtain rfl := y_fi ((y_fe e rfl).trans a4) hx
      refine ⟨rfl, y_zini (by show 0 ≤ (atI + Int32.ofInt 1).toInt; omega) (by show (atI + Int32.ofInt 1).toInt ≤ 40; omega), fun H hH => ?_⟩
      have f : y_fr G H [1538] [] := y_st (y_mo (y_rf e.1) rfl rfl) hH (by repeat (first | exact w_nil | refine w_cons (Or.inl (y_m rfl)) ?_ | refine w_cons (Or.inr (by assumption)) ?_)) (by repeat (first | exact w_nil | refine w_cons (Or.inl (y_m rfl)) ?_ | refine w_cons (Or.inr (by assumption)) ?_))
      have s3 := tx_s_at s2 f rfl (hH.2.1 1538 _ rfl) inc (by omega)
      obtain ⟨k1, k2, k3, k4, k5⟩ := pr_c_p (T := y_N sg) (n := nd.toInt) t40 o (p + 1) (by omega)
      refine c_closeBr (d := d) s3 ho o5 (fun r H2 f2 s4 er => ⟨fun n e => (by cases e), ?_⟩)
      exact T112 (y_sq (y_sq (y_mo e rfl rfl) f rfl rfl) f2 rfl rfl) s4 (by omega) er (by omega) ((pr_let (by omega) h97 h98).trans k4) k5
    have T76 : ∀ {G : aH} {cI : Int32}, y_fr h G [] [] → p < t → cI.toInt = pr_k (y_N sg) t p → pr_k (y_N sg) t p ≠ 33 → ¬ (pr_k (y_N sg) t p = 40 ∧ o < 5) → aOK s_P X (d + 2) a_m87 76 [some (.ref 14), some (.ref 59), some (.int pI), some (.int oI), some (.int cI)] [] G C S K0 := by
      intro G cI e ptt hc h33 h40
      have bad : ∀ {H : aH}, y_fr h H [] [] → ¬ (97 ≤ pr_k (y_N sg) t p ∧ pr_k (y_N sg) t p < 97 + nd.toInt) → K0 (some (.int (y_01 false))) H C S := fun f w => hK false p _ (y_mo f rfl rfl) (tx_s_fr s f rfl rfl) (pr_bad (by omega) h33 h40 w)
      refine w_go z_hl [97] [88] 30 e.1 ?_
      refine ⟨fun z => ⟨by decide, fun H hH => bad (y_st e hH (by repeat (first | exact w_nil | refine w_cons (Or.inl (y_m rfl)) ?_ | refine w_cons (Or.inr (by assumption)) ?_)) (by repeat (first | exact w_nil | refine w_cons (Or.inl (y_m rfl)) ?_ | refine w_cons (Or.inr (by assumption)) ?_))) (fun w => ?_)⟩, fun z => ?_⟩
      · have y1 : cI.toInt < ((Int8.ofInt 97).toInt32).toInt := (y_ci .lt _ _).mp z
        rw [c97, hc] at y1
        have := w.1
        omega
      · have y1 : ¬ (cI.toInt < ((Int8.ofInt 97).toInt32).toInt) := y_cif z
        rw [c97, hc] at y1
        intro x hx _ _
        obtain rfl := y_fi ((y_fe e rfl).trans a6) hx
        refine ⟨fun z2 => fun H hH => ?_, fun z2 => ⟨by decide, fun H hH => bad (y_st e hH (by repeat (first | exact w_nil | refine w_cons (Or.inl (y_m rfl)) ?_ | refine w_cons (Or.inr (by assumption)) ?_)) (by repeat (first | exact w_nil | refine w_cons (Or.inl (y_m rfl)) ?_ | refine w_cons (Or.inr (by assumption)) ?_))) (fun w => ?_)⟩⟩
        · have y2 : cI.toInt < ((Int8.ofInt 97).toInt32 + nd).toInt := (y_ci .lt _ _).mp z2
          rw [cn, hc] at y2
          exact T97 (y_st e hH (by repeat (first | exact w_nil | refine w_cons (Or.inl (y_m rfl)) ?_ | refine w_cons (Or.inr (by assumption)) ?_)) (by repeat (first | exact w_nil | refine w_cons (Or.inl (y_m rfl)) ?_ | refine w_cons (Or.inr (by assumption)) ?_))) ptt (by omega) y2
        · have y2 : ¬ (cI.toInt < ((Int8.ofInt 97).toInt32 + nd).toInt) := y_cif z2
          rw [cn, hc] at y2
          exact y2 w.2
    have T48 : ∀ {G : aH} {cI : Int32} (b : Bool), y_fr h G [] [] → p < t → cI.toInt = (if b then 40 else 33) → pr_E (y_N sg) t nd.toInt false p o = pr_E (y_N sg) t nd.toInt false (p + 1) (o + (if b then 1 else 0)) → o + (if b then 1 else 0) ≤ 5 → aOK s_P X (d + 2) a_m87 48 [some (.ref 14), some (.ref 59), some (.int pI), some (.int oI), some (.int cI)] [] G C S K0 := by
      intro G cI b e ptt hc hE o5'
      have s2 := tx_s_fr s e rfl rfl
      have inc : (atI + Int32.ofInt 1).toInt = ((p + 1 : Nat) : Int) := by rw [y_inc (by omega), a5]; rfl
      cases b with
      | true =>
        have hc' : cI.toInt = 40 := hc
        have ino : (oI + Int32.ofInt 1).toInt = ((o + 1 : Nat) : Int) := by rw [y_inc (by omega), ho]; rfl
        have o6 : o + 1 ≤ 5 := o5'
        refine w_go z_hl [12] [88] 40 e.1 ?_
        refine ⟨fun z => ?_, fun _ => ?_⟩
        · have y1 : cI.toInt ≠ ((Int8.ofInt 40).toInt32).toInt := (y_ci .ne _ _).mp z
          rw [c40] at y1
          exact absurd hc' y1
        · intro x hx _ _
          obtain rfl := y_fi ((y_fe e rfl).trans a4) hx
          refine ⟨rfl, y_zini (by show 0 ≤ (atI + Int32.ofInt 1).toInt; omega) (by show (atI + Int32.ofInt 1).toInt ≤ 40; omega), fun H hH => ?_⟩
          have f : y_fr G H [1538] [] := y_st (y_mo (y_rf e.1) rfl rfl) hH (by repeat (first | exact w_nil | refine w_cons (Or.inl (y_m rfl)) ?_ | refine w_cons (Or.inr (by assumption)) ?_)) (by repeat (first | exact w_nil | refine w_cons (Or.inl (y_m rfl)) ?_ | refine w_cons (Or.inr (by assumption)) ?_))
          exact ih H (p + 1) _ (o + 1) _ (tx_s_at s2 f rfl (hH.2.1 1538 _ rfl) inc (by omega)) ino o6 (by omega) (fun b r H' f1 f2 f3 => hK b r H' (y_sq (y_mo (y_sq (y_mo e rfl rfl) f rfl rfl : y_fr h H [1538] []) rfl rfl) f1 rfl rfl) f2 (hE.trans f3))
      | false =>
        have hc' : cI.toInt = 33 := hc
        have ino : (oI + Int32.ofInt 0).toInt = (o : Nat) := by rw [show Int32.ofInt 0 = (0 : Int32) by decide, Int32.add_zero]; exact ho
        refine w_go z_hl [12] [88] 40 e.1 ?_
        refine ⟨fun _ => ?_, fun z => ?_⟩
        · intro x hx _ _
          obtain rfl := y_fi ((y_fe e rfl).trans a4) hx
          refine ⟨rfl, y_zini (by show 0 ≤ (atI + Int32.ofInt 1).toInt; omega) (by show (atI + Int32.ofInt 1).toInt ≤ 40; omega), fun H hH => ?_⟩
          have f : y_fr G H [1538] [] := y_st (y_mo (y_rf e.1) rfl rfl) hH (by repeat (first | exact w_nil | refine w_cons (Or.inl (y_m rfl)) ?_ | refine w_cons (Or.inr (by assumption)) ?_)) (by repeat (first | exact w_nil | refine w_cons (Or.inl (y_m rfl)) ?_ | refine w_cons (Or.inr (by assumption)) ?_))
          exact ih H (p + 1) _ o _ (tx_s_at s2 f rfl (hH.2.1 1538 _ rfl) inc (by omega)) ino o5 (by omega) (fun b r H' f1 f2 f3 => hK b r H' (y_sq (y_mo (y_sq (y_mo e rfl rfl) f rfl rfl : y_fr h H [1538] []) rfl rfl) f1 rfl rfl) f2 (hE.trans f3))
        · have y1 : ¬ (cI.toInt ≠ ((Int8.ofInt 40).toInt32).toInt) := y_cif z
          rw [c40] at y1
          exfalso
          omega
    have T27 : ∀ {G : aH} {cI : Int32}, y_fr h G [] [] → p < t → cI.toInt = pr_k (y_N sg) t p → aOK s_P X (d + 2) a_m87 27 [some (.ref 14), some (.ref 59), some (.int pI), some (.int oI), o4] [.int cI] G C S K0 := by
      intro G cI e ptt hc
      refine w_go z_hl [48, 76] [88] 40 e.1 ?_
      refine ⟨fun z => fun H hH => ?_, fun z => ⟨fun z2 => fun H hH => ?_, fun z2 => ⟨fun z3 => fun H hH => ?_, fun z3 => fun H hH => ?_⟩⟩⟩
      · have y1 : cI.toInt = ((Int8.ofInt 33).toInt32).toInt := (y_ci .eq _ _).mp z
        rw [c33] at y1
        exact T48 false (y_st e hH (by repeat (first | exact w_nil | refine w_cons (Or.inl (y_m rfl)) ?_ | refine w_cons (Or.inr (by assumption)) ?_)) (by repeat (first | exact w_nil | refine w_cons (Or.inl (y_m rfl)) ?_ | refine w_cons (Or.inr (by assumption)) ?_))) ptt y1 (pr_bang (by omega) (hc.symm.trans y1)) o5
      · have y1 : ¬ (cI.toInt = ((Int8.ofInt 33).toInt32).toInt) := y_cif z
        have y2 : cI.toInt ≠ ((Int8.ofInt 40).toInt32).toInt := (y_ci .ne _ _).mp z2
        rw [c33, hc] at y1
        rw [c40, hc] at y2
        exact T76 (y_st e hH (by repeat (first | exact w_nil | refine w_cons (Or.inl (y_m rfl)) ?_ | refine w_cons (Or.inr (by assumption)) ?_)) (by repeat (first | exact w_nil | refine w_cons (Or.inl (y_m rfl)) ?_ | refine w_cons (Or.inr (by assumption)) ?_))) ptt hc y1 (fun w => y2 w.1)
      · have y1 : ¬ (cI.toInt = ((Int8.ofInt 33).toInt32).toInt) := y_cif z
        have y3 : (Int32.ofInt 5).toInt ≤ oI.toInt := (y_ci .ge _ _).mp z3
        rw [c33, hc] at y1
        rw [c5] at y3
        exact T76 (y_st e hH (by repeat (first | exact w_nil | refine w_cons (Or.inl (y_m rfl)) ?_ | refine w_cons (Or.inr (by assumption)) ?_)) (by repeat (first | exact w_nil | refine w_cons (Or.inl (y_m rfl)) ?_ | refine w_cons (Or.inr (by assumption)) ?_))) ptt hc y1 (fun w => by have := w.2; omega)
      · have y2 : ¬ (cI.toInt ≠ ((Int8.ofInt 40).toInt32).toInt) := y_cif z2
        have y3 : ¬ ((Int32.ofInt 5).toInt ≤ oI.toInt) := y_cif z3
        rw [c40] at y2
        rw [c5] at y3
        have y4 : cI.toInt = 40 := Decidable.not_not.mp y2
        exact T48 true (y_st e hH (by repeat (first | exact w_nil | refine w_cons (Or.inl (y_m rfl)) ?_ | refine w_cons (Or.inr (by assumption)) ?_)) (by repeat (first | exact w_nil | refine w_cons (Or.inl (y_m rfl)) ?_ | refine w_cons (Or.inr (by assumption)) ?_))) ptt y4 (pr_open (by omega) (hc.symm.trans y4) (by omega)) (by show o + 1 ≤ 5; omega)
    refine w_go z_hl [12] [82] 30 hr ?_
    intro x hx _ _
    obtain rfl := y_fi a4 hx
    intro y hy _ _
    obtain rfl := y_fi a2 hy
    refine ⟨fun z => ⟨by decide, fun H hH => ?_⟩, fun z => fun H hH => ?_⟩
    · have y1 : toI.toInt ≤ atI.toInt := (y_ci .ge _ _).mp z
      have f : y_fr h H [] [] := y_st (y_rf hr) hH (by repeat (first | exact w_nil | refine w_cons (Or.inl (y_m rfl)) ?_ | refine w_cons (Or.inr (by assumption)) ?_)) (by repeat (first | exact w_nil | refine w_cons (Or.inl (y_m rfl)) ?_ | refine w_cons (Or.inr (by assumption)) ?_))
      have k0 : pr_k (y_N sg) t p = 0 := if_neg (by omega)
      exact hK false p H (y_mo f rfl rfl) (tx_s_fr s f rfl rfl) (pr_bad (by omega) (by omega) (fun w => by have := w.1; omega) (fun w => by have := w.1; omega))
    · have y1 : ¬ (toI.toInt ≤ atI.toInt) := y_cif z
      have f : y_fr h H [] [] := y_st (y_rf hr) hH (by repeat (first | exact w_nil | refine w_cons (Or.inl (y_m rfl)) ?_ | refine w_cons (Or.inr (by assumption)) ?_)) (by repeat (first | exact w_nil | refine w_cons (Or.inl (y_m rfl)) ?_ | refine w_cons (Or.inr (by assumption)) ?_))
      refine c_lkT (tx_s_fr s f rfl rfl) (fun r H2 f2 er => ⟨fun n e => (by cases e), ?_⟩)
      exact T27 (y_sq f f2 rfl rfl) (by omega) er
theorem c_ev6 {h : aH} {p : Nat} (n0 : 0 ≤ nd.toInt) (n10 : nd.toInt ≤ 10) {pI : Int32} {pa : Nat} (hpa : pI.toInt = pa) (pa4 : pa < 4) (s : tx_s nd h sg t p) {fr : List Int32} (gf : w_a h 59 = some (0, .inl fr)) (hK : ∀ (b : Bool) (q : Nat) (aI : Int32) (H : aH), y_fr h H [1538] [59, 60, 61] → tx_s nd H sg t q → pr_E (y_N sg) t nd.toInt false p 0 = (b, q) → w_a H 59 = some (0, .inl (fr.set pa aI)) → 0 ≤ aI.toInt → K0 (some (.int (y_01 b))) H C S) : aOK s_P X (d + 2) a_m87 0 [some (.ref 14), some (.ref 59), some (.int pI), none, none] [] h C S K0 := by
  obtain ⟨toI, atI, hr, a1, a2, a3, a4, a5, a6, pt, t40⟩ := id s
  have cp := y_cl1 hpa
  refine w_go z_hl [12] [] 30 hr ?_
  intro x hx _ _
  obtain rfl := y_fi a4 hx
  refine ⟨⟨by omega, by omega⟩, ⟨by omega, by omega⟩, fun l hl len bb => fun H hH => ?_⟩
  obtain rfl := y_ai gf hl
  have w := hH.2.2.1 59 _ rfl
  rw [cp] at w
  have f : y_fr h H [] [59] := y_st (y_mo (y_rf hr) rfl rfl) hH (by repeat (first | exact w_nil | refine w_cons (Or.inl (y_m rfl)) ?_ | refine w_cons (Or.inr (by assumption)) ?_)) (by repeat (first | exact w_nil | refine w_cons (Or.inl (y_m rfl)) ?_ | refine w_cons (Or.inr (by assumption)) ?_))
  exact c_evl6 (d := d) n0 n10 hpa pa4 40 H p _ 0 _ (tx_s_fr s f rfl rfl) (by decide) (by decide) (by omega) (fun b q H' f1 f2 f3 => hK b q atI H' (y_sq (y_mo f rfl rfl) f1 rfl rfl) f2 f3 ((y_ae f1 rfl).trans w) (by omega))
end PEV6
end PT33ick
section PT33icl
/-! ===== v21: parseGiven, parseRate, parseTerm of the class with saying 6 (laid by wip/tools/mk21d.py) ===== -/
section PPT6
variable {X : aX} {C S d : Nat} {K0 : Option Value → aH → Nat → Nat → Prop} {sg : List Int32} {t p : Nat} {nd : Int32} {h : aH}
theorem c_gv6 (n0 : 0 ≤ nd.toInt) (n10 : nd.toInt ≤ 10) {sI : Int32} {sd : Nat} (hs : sI.toInt = sd) (hs2 : sd < 2) (s : tx_s nd h sg t p) {fr : List Int32} (gf : w_a h 59 = some (0, .inl fr)) (hK : ∀ (b : Bool) (q k : Nat) (H : aH) (fr' : List Int32), y_fr h H [1538] [59, 60, 61] → tx_s nd H sg t q → pr_gv (y_N sg) t nd.toInt p = (b, q, k) → w_a H 59 = some (0, .inl fr') → tx_f fr fr' sd k → K0 (some (.int (y_01 b))) H C S) : aOK s_P X (d + 3) a_m86 0 [some (.ref 14), some (.ref 59), some (.int sI)] [] h C S K0 := by
  obtain ⟨toI, atI, hr, a1, a2, a3, a4, a5, a6, pt, t40⟩ := id s
  obtain ⟨fr0, f1, fl, -⟩ := c_arr hr (ob := 59) (n := 4) (lo := -1) (hi := 40) rfl
  obtain rfl := y_ai gf f1
  have c47 : ((Int8.ofInt 47).toInt32).toInt = 47 := by decide
  have m1 : (Int32.ofInt 2 * sI).toInt = ((2 * sd : Nat) : Int) := y_mulS (m := 2) _ (by decide) hs rfl (by omega)
  have m2 : (Int32.ofInt 2 * sI + Int32.ofInt 1).toInt = ((2 * sd + 1 : Nat) : Int) := y_addS _ m1 (n := 1) (by decide) rfl (by omega)
  have T44 : ∀ {G : aH} {b : Bool} {q k : Nat} {fr' : List Int32}, y_fr h G [1538] [59, 60, 61] → tx_s nd G sg t q → pr_gv (y_N sg) t nd.toInt p = (b, q, k) → w_a G 59 = some (0, .inl fr') → tx_f fr fr' sd k → aOK s_P X (d + 3) a_m86 44 [some (.ref 14), some (.ref 59), some (.int sI)] [.int (y_01 b)] G C S K0 := by
    intro G b q k fr' e s2 hg g2 hf
    refine w_go z_hl [] [] 20 e.1 ?_
    refine ⟨y_01b b, fun H hH => ?_⟩
    have f : y_fr G H [] [] := y_st (y_rf e.1) hH (by repeat (first | exact w_nil | refine w_cons (Or.inl (y_m rfl)) ?_ | refine w_cons (Or.inr (by assumption)) ?_)) (by repeat (first | exact w_nil | refine w_cons (Or.inl (y_m rfl)) ?_ | refine w_cons (Or.inr (by assumption)) ?_))
    exact hK b q k H fr' (y_sq e f rfl rfl) (tx_s_fr s2 f rfl rfl) hg ((y_ae f rfl).trans g2) hf
  have T24 : ∀ {G : aH} {q : Nat} {aI : Int32}, y_fr h G [1538] [59, 60, 61] → tx_s nd G sg t q → q < t → pr_E (y_N sg) t nd.toInt false p 0 = (true, q) → pr_k (y_N sg) t q = 47 → w_a G 59 = some (0, .inl (fr.set (2 * sd) aI)) → 0 ≤ aI.toInt → aOK s_P X (d + 3) a_m86 24 [some (.ref 14), some (.ref 59), some (.int sI)] [] G C S K0 := by
    intro G q aI e s2 qt hE h47 g2 ha
    obtain ⟨toJ, atJ, -, b1, b2, b3, b4, b5, b6, -, -⟩ := id s2
    have inc : (atJ + Int32.ofInt 1).toInt = ((q + 1 : Nat) : Int) := by rw [y_inc (by omega), b5]; rfl
    refine w_go z_hl [] [87] 30 e.1 ?_
    intro x hx _ _
    obtain rfl := y_fi b4 hx
    refine ⟨rfl, y_zini (by show 0 ≤ (atJ + Int32.ofInt 1).toInt; omega) (by show (atJ + Int32.ofInt 1).toInt ≤ 40; omega), fun H hH => ?_⟩
    have f : y_fr G H [1538] [] := y_st (y_mo (y_rf e.1) rfl rfl) hH (by repeat (first | exact w_nil | refine w_cons (Or.inl (y_m rfl)) ?_ | refine w_cons (Or.inr (by assumption)) ?_)) (by repeat (first | exact w_nil | refine w_cons (Or.inl (y_m rfl)) ?_ | refine w_cons (Or.inr (by assumption)) ?_))
    refine c_ev6 (d := d) n0 n10 m2 (by omega) (tx_s_at s2 f rfl (hH.2.1 1538 _ rfl) inc (by omega)) ((y_ae f rfl).trans g2) (fun b r aJ H2 f2 s3 hE2 g3 ha2 => ⟨fun n e => (by cases e), ?_⟩)
    exact T44 (k := 2) (y_sq (y_sq e f rfl rfl) f2 rfl rfl) s3 (pr_gv_2 hE h47 hE2) g3 (tx_f_2 fl ha ha2 hs2)
  have T17 : ∀ {G : aH} {q : Nat} {aI cI : Int32}, y_fr h G [1538] [59, 60, 61] → tx_s nd G sg t q → cI.toInt = pr_k (y_N sg) t q → pr_E (y_N sg) t nd.toInt false p 0 = (true, q) → w_a G 59 = some (0, .inl (fr.set (2 * sd) aI)) → 0 ≤ aI.toInt → aOK s_P X (d + 3) a_m86 17 [some (.ref 14), some (.ref 59), some (.int sI)] [.int cI] G C S K0 := by
    intro G q aI cI e s2 hc hE g2 ha
    refine w_go z_hl [24] [] 30 e.1 ?_
    refine ⟨fun z => fun H hH => ?_, fun z => ⟨by decide, fun H hH => ?_⟩⟩
    · have y1 : cI.toInt = ((Int8.ofInt 47).toInt32).toInt := (y_ci .eq _ _).mp z
      rw [c47, hc] at y1
      have f : y_fr G H [] [] := y_st (y_rf e.1) hH (by repeat (first | exact w_nil | refine w_cons (Or.inl (y_m rfl)) ?_ | refine w_cons (Or.inr (by assumption)) ?_)) (by repeat (first | exact w_nil | refine w_cons (Or.inl (y_m rfl)) ?_ | refine w_cons (Or.inr (by assumption)) ?_))
      exact T24 (y_sq e f rfl rfl) (tx_s_fr s2 f rfl rfl) (pr_k_t (by decide) y1) hE y1 ((y_ae f rfl).trans g2) ha
    · have y1 : ¬ (cI.toInt = ((Int8.ofInt 47).toInt32).toInt) := y_cif z
      rw [c47, hc] at y1
      have f : y_fr G H [] [] := y_st (y_rf e.1) hH (by repeat (first | exact w_nil | refine w_cons (Or.inl (y_m rfl)) ?_ | refine w_cons (Or.inr (by assumption)) ?_)) (by repeat (first | exact w_nil | refine w_cons (Or.inl (y_m rfl)) ?_ | refine w_cons (Or.inr (by assumption)) ?_))
      exact hK true q 1 H _ (y_sq e f rfl rfl) (tx_s_fr s2 f rfl rfl) (pr_gv_1 hE y1) ((y_ae f rfl).trans g2) (tx_f_1 fl ha hs2)
  have T8 : ∀ {G : aH} {q : Nat} {aI : Int32} (b : Bool), y_fr h G [1538] [59, 60, 61] → tx_s nd G sg t q → pr_E (y_N sg) t nd.toInt false p 0 = (b, q) → w_a G 59 = some (0, .inl (fr.set (2 * sd) aI)) → 0 ≤ aI.toInt → aOK s_P X (d + 3) a_m86 8 [some (.ref 14), some (.ref 59), some (.int sI)] [.int (y_01 b)] G C S K0 := by
    intro G q aI b e s2 hE g2 ha
    cases b with
    | true =>
      refine w_go z_hl [24] [82] 30 e.1 ?_
      refine ⟨fun _ => fun H hH => ?_, fun z => absurd z (by decide)⟩
      have f : y_fr G H [] [] := y_st (y_rf e.1) hH (by repeat (first | exact w_nil | refine w_cons (Or.inl (y_m rfl)) ?_ | refine w_cons (Or.inr (by assumption)) ?_)) (by repeat (first | exact w_nil | refine w_cons (Or.inl (y_m rfl)) ?_ | refine w_cons (Or.inr (by assumption)) ?_))
      refine c_lkT (tx_s_fr s2 f rfl rfl) (fun r H2 f2 er => ⟨fun n e => (by cases e), ?_⟩)
      exact T17 (y_sq (y_sq e f rfl rfl) f2 rfl rfl) (tx_s_fr (tx_s_fr s2 f rfl rfl) f2 rfl rfl) er hE ((y_ae f2 rfl).trans ((y_ae f rfl).trans g2)) ha
    | false =>
      refine w_go z_hl [24] [82] 30 e.1 ?_
      refine ⟨fun z => absurd z (by decide), fun _ => ⟨by decide, fun H hH => ?_⟩⟩
      have f : y_fr G H [] [] := y_st (y_rf e.1) hH (by repeat (first | exact w_nil | refine w_cons (Or.inl (y_m rfl)) ?_ | refine w_cons (Or.inr (by assumption)) ?_)) (by repeat (first | exact w_nil | refine w_cons (Or.inl (y_m rfl)) ?_ | refine w_cons (Or.inr (by assumption)) ?_))
      exact hK false q 1 H _ (y_sq e f rfl rfl) (tx_s_fr s2 f rfl rfl) (pr_gv_n hE) ((y_ae f rfl).trans g2) (tx_f_1 fl ha hs2)
  refine w_go z_hl [] [87] 30 hr ?_
  intro H hH
  have f : y_fr h H [] [] := y_st (y_rf hr) hH (by repeat (first | exact w_nil | refine w_cons (Or.inl (y_m rfl)) ?_ | refine w_cons (Or.inr (by assumption)) ?_)) (by repeat (first | exact w_nil | refine w_cons (Or.inl (y_m rfl)) ?_ | refine w_cons (Or.inr (by assumption)) ?_))
  refine c_ev6 (d := d) n0 n10 m1 (by omega) (tx_s_fr s f rfl rfl) ((y_ae f rfl).trans gf) (fun b q aI H2 f2 s3 hE g3 ha => ⟨fun n e => (by cases e), ?_⟩)
  exact T8 b (y_sq (y_mo f rfl rfl) f2 rfl rfl) s3 hE g3 ha
theorem c_rt6 {sI : Int32} {sd : Nat} (hs : sI.toInt = sd) (hs2 : sd < 2) (s : tx_s nd h sg t p) (hK : ∀ (b : Bool) (q : Nat) (H : aH), y_fr h H [1538] [62, 63] → tx_s nd H sg t q → pr_rt (y_N sg) t p = (b, q, 0) → K0 (some (.int (y_01 b))) H C S) : aOK s_P X (d + 2) a_m84 0 [some (.ref 14), some (.ref 59), some (.int sI)] [] h C S K0 := by
  obtain ⟨toI, atI, hr, a1, a2, a3, a4, a5, a6, pt, t40⟩ := id s
  have c58 : ((Int8.ofInt 58).toInt32).toInt = 58 := by decide
  have c48 : ((Int8.ofInt 48).toInt32).toInt = 48 := by decide
  have T61 : ∀ {G : aH} {q : Nat} {r : Int32}, y_fr h G [1538] [62] → tx_s nd G sg t q → pr_rt (y_N sg) t p = (true, q, 0) → aOK s_P X (d + 2) a_m84 61 [some (.ref 14), some (.ref 59), some (.int sI)] [.int r, .int sI, .ref 65] G C S K0 := by
    intro G q r e s2 hg
    refine w_go z_hl [] [] 20 e.1 ?_
    refine ⟨⟨by omega, by omega⟩, y_l32 _, fun l hl len bb => ⟨by decide, fun H hH => ?_⟩⟩
    have f : y_fr G H [] [63] := y_st (y_mo (y_rf e.1) rfl rfl) hH (by repeat (first | exact w_nil | refine w_cons (Or.inl (y_m rfl)) ?_ | refine w_cons (Or.inr (by assumption)) ?_)) (by repeat (first | exact w_nil | refine w_cons (Or.inl (y_m rfl)) ?_ | refine w_cons (Or.inr (by assumption)) ?_))
    exact hK true q H (y_sq (y_mo e rfl rfl) f rfl rfl) (tx_s_fr s2 f rfl rfl) hg
  have T45 : ∀ {G : aH} {cI : Int32}, y_fr h G [1538] [62] → tx_s nd G sg t (pr_dq (y_N sg) t 8 p + 1) → pr_k (y_N sg) t (pr_dq (y_N sg) t 8 p) = 58 → pr_dg (y_N sg) t (pr_dq (y_N sg) t 8 p + 1) → cI.toInt = pr_k (y_N sg) t (pr_dq (y_N sg) t 8 p + 1) → aOK s_P X (d + 2) a_m84 45 [some (.ref 14), some (.ref 59), some (.int sI)] [.int cI] G C S K0 := by
    intro G cI e s2 h58 hd hc
    have hd1 := hd.1
    have hd2 := hd.2
    refine w_go z_hl [] [85] 30 e.1 ?_
    refine ⟨fun z => fun H hH => ?_, fun z => ⟨by decide, fun H hH => ?_⟩⟩
    · have y1 : cI.toInt ≠ ((Int8.ofInt 48).toInt32).toInt := (y_ci .ne _ _).mp z
      rw [c48, hc] at y1
      have f : y_fr G H [] [] := y_st (y_rf e.1) hH (by repeat (first | exact w_nil | refine w_cons (Or.inl (y_m rfl)) ?_ | refine w_cons (Or.inr (by assumption)) ?_)) (by repeat (first | exact w_nil | refine w_cons (Or.inl (y_m rfl)) ?_ | refine w_cons (Or.inr (by assumption)) ?_))
      refine c_number (d := d) (tx_s_fr s2 f rfl rfl) (fun r H2 f2 s3 => ⟨fun n e => (by cases e), ?_⟩)
      exact T61 (y_sq (y_sq e f rfl rfl) f2 rfl rfl) s3 (pr_rt_1 h58 ⟨by omega, hd2⟩)
    · have y1 : ¬ (cI.toInt ≠ ((Int8.ofInt 48).toInt32).toInt) := y_cif z
      rw [c48, hc] at y1
      have f : y_fr G H [] [] := y_st (y_rf e.1) hH (by repeat (first | exact w_nil | refine w_cons (Or.inl (y_m rfl)) ?_ | refine w_cons (Or.inr (by assumption)) ?_)) (by repeat (first | exact w_nil | refine w_cons (Or.inl (y_m rfl)) ?_ | refine w_cons (Or.inr (by assumption)) ?_))
      exact hK false _ H (y_mo (y_sq e f rfl rfl) rfl rfl) (tx_s_fr s2 f rfl rfl) (pr_rt_0 h58 (fun w => by have := w.1; omega))
  have T38 : ∀ {G : aH} (b : Bool), y_fr h G [1538] [62] → tx_s nd G sg t (pr_dq (y_N sg) t 8 p + 1) → pr_k (y_N sg) t (pr_dq (y_N sg) t 8 p) = 58 → (b = true → pr_dg (y_N sg) t (pr_dq (y_N sg) t 8 p + 1)) → (b = false → ¬ pr_dg (y_N sg) t (pr_dq (y_N sg) t 8 p + 1)) → aOK s_P X (d + 2) a_m84 38 [some (.ref 14), some (.ref 59), some (.int sI)] [.int (y_01 b)] G C S K0 := by
    intro G b e s2 h58 hy hn
    cases b with
    | true =>
      refine w_go z_hl [] [82] 30 e.1 ?_
      refine ⟨fun z => absurd z (by decide), fun _ => fun H hH => ?_⟩
      have f : y_fr G H [] [] := y_st (y_rf e.1) hH (by repeat (first | exact w_nil | refine w_cons (Or.inl (y_m rfl)) ?_ | refine w_cons (Or.inr (by assumption)) ?_)) (by repeat (first | exact w_nil | refine w_cons (Or.inl (y_m rfl)) ?_ | refine w_cons (Or.inr (by assumption)) ?_))
      refine c_lkT (tx_s_fr s2 f rfl rfl) (fun r H2 f2 er => ⟨fun n e => (by cases e), ?_⟩)
      exact T45 (y_sq (y_sq e f rfl rfl) f2 rfl rfl) (tx_s_fr (tx_s_fr s2 f rfl rfl) f2 rfl rfl) h58 (hy rfl) er
    | false =>
      refine w_go z_hl [] [82] 30 e.1 ?_
      refine ⟨fun _ => ⟨by decide, fun H hH => ?_⟩, fun z => absurd z (by decide)⟩
      have f : y_fr G H [] [] := y_st (y_rf e.1) hH (by repeat (first | exact w_nil | refine w_cons (Or.inl (y_m rfl)) ?_ | refine w_cons (Or.inr (by assumption)) ?_)) (by repeat (first | exact w_nil | refine w_cons (Or.inl (y_m rfl)) ?_ | refine w_cons (Or.inr (by assumption)) ?_))
      exact hK false _ H (y_mo (y_sq e f rfl rfl) rfl rfl) (tx_s_fr s2 f rfl rfl) (pr_rt_0 h58 (fun w => hn rfl ⟨by have := w.1; omega, w.2⟩))
  have T35 : ∀ {G : aH} {cI : Int32}, y_fr h G [1538] [62] → tx_s nd G sg t (pr_dq (y_N sg) t 8 p + 1) → pr_k (y_N sg) t (pr_dq (y_N sg) t 8 p) = 58 → cI.toInt = pr_k (y_N sg) t (pr_dq (y_N sg) t 8 p + 1) → aOK s_P X (d + 2) a_m84 35 [some (.ref 14), some (.ref 59), some (.int sI)] [.int cI] G C S K0 := by
    intro G cI e s2 h58 hc
    refine w_go z_hl [] [83] 20 e.1 ?_
    intro H hH
    have f : y_fr G H [] [] := y_st (y_rf e.1) hH (by repeat (first | exact w_nil | refine w_cons (Or.inl (y_m rfl)) ?_ | refine w_cons (Or.inr (by assumption)) ?_)) (by repeat (first | exact w_nil | refine w_cons (Or.inl (y_m rfl)) ?_ | refine w_cons (Or.inr (by assumption)) ?_))
    refine c_isDg (c := cI) f.1 (fun H2 f2 w => ⟨fun n e => (by cases e), ?_⟩) (fun H2 f2 w => ⟨fun n e => (by cases e), ?_⟩)
    · exact T38 true (y_sq (y_sq e f rfl rfl) f2 rfl rfl) (tx_s_fr (tx_s_fr s2 f rfl rfl) f2 rfl rfl) h58 (fun _ => ⟨by omega, by omega⟩) (fun z => absurd z (by decide))
    · exact T38 false (y_sq (y_sq e f rfl rfl) f2 rfl rfl) (tx_s_fr (tx_s_fr s2 f rfl rfl) f2 rfl rfl) h58 (fun z => absurd z (by decide)) (fun _ z => w ⟨by have := z.1; omega, by have := z.2; omega⟩)
  have T14 : ∀ {G : aH} {cI : Int32}, y_fr h G [1538] [62] → tx_s nd G sg t (pr_dq (y_N sg) t 8 p) → cI.toInt = pr_k (y_N sg) t (pr_dq (y_N sg) t 8 p) → aOK s_P X (d + 2) a_m84 14 [some (.ref 14), some (.ref 59), some (.int sI)] [.int cI] G C S K0 := by
    intro G cI e s2 hc
    obtain ⟨toJ, atJ, -, b1, b2, b3, b4, b5, b6, qt, -⟩ := id s2
    refine w_go z_hl [] [82] 40 e.1 ?_
    refine ⟨fun z => ?_, fun z => ⟨by decide, fun H hH => ?_⟩⟩
    · have y1 : cI.toInt = ((Int8.ofInt 58).toInt32).toInt := (y_ci .eq _ _).mp z
      rw [c58, hc] at y1
      have qt' := pr_k_t (by decide) y1
      have inc : (atJ + Int32.ofInt 1).toInt = ((pr_dq (y_N sg) t 8 p + 1 : Nat) : Int) := by rw [y_inc (by omega), b5]; rfl
      intro x hx _ _
      obtain rfl := y_fi b4 hx
      refine ⟨rfl, y_zini (by show 0 ≤ (atJ + Int32.ofInt 1).toInt; omega) (by show (atJ + Int32.ofInt 1).toInt ≤ 40; omega), fun H hH => ?_⟩
      have f : y_fr G H [1538] [] := y_st (y_mo (y_rf e.1) rfl rfl) hH (by repeat (first | exact w_nil | refine w_cons (Or.inl (y_m rfl)) ?_ | refine w_cons (Or.inr (by assumption)) ?_)) (by repeat (first | exact w_nil | refine w_cons (Or.inl (y_m rfl)) ?_ | refine w_cons (Or.inr (by assumption)) ?_))
      have s3 := tx_s_at s2 f rfl (hH.2.1 1538 _ rfl) inc (by omega)
      refine c_lkT s3 (fun r H2 f2 er => ⟨fun n e => (by cases e), ?_⟩)
      exact T35 (y_sq (y_sq e f rfl rfl) f2 rfl rfl) (tx_s_fr s3 f2 rfl rfl) y1 er
    · have y1 : ¬ (cI.toInt = ((Int8.ofInt 58).toInt32).toInt) := y_cif z
      rw [c58, hc] at y1
      have f : y_fr G H [] [] := y_st (y_rf e.1) hH (by repeat (first | exact w_nil | refine w_cons (Or.inl (y_m rfl)) ?_ | refine w_cons (Or.inr (by assumption)) ?_)) (by repeat (first | exact w_nil | refine w_cons (Or.inl (y_m rfl)) ?_ | refine w_cons (Or.inr (by assumption)) ?_))
      exact hK false _ H (y_mo (y_sq e f rfl rfl) rfl rfl) (tx_s_fr s2 f rfl rfl) (pr_rt_n y1)
  have T9 : ∀ {G : aH} {r : Int32}, y_fr h G [1538] [] → tx_s nd G sg t (pr_dq (y_N sg) t 8 p) → aOK s_P X (d + 2) a_m84 9 [some (.ref 14), some (.ref 59), some (.int sI)] [.int r, .int sI, .ref 64] G C S K0 := by
    intro G r e s2
    refine w_go z_hl [] [82] 30 e.1 ?_
    refine ⟨⟨by omega, by omega⟩, y_l32 _, fun l hl len bb => fun H hH => ?_⟩
    have f : y_fr G H [] [62] := y_st (y_mo (y_rf e.1) rfl rfl) hH (by repeat (first | exact w_nil | refine w_cons (Or.inl (y_m rfl)) ?_ | refine w_cons (Or.inr (by assumption)) ?_)) (by repeat (first | exact w_nil | refine w_cons (Or.inl (y_m rfl)) ?_ | refine w_cons (Or.inr (by assumption)) ?_))
    refine c_lkT (tx_s_fr s2 f rfl rfl) (fun r H2 f2 er => ⟨fun n e => (by cases e), ?_⟩)
    exact T14 (y_sq (y_sq (y_mo e rfl rfl) f rfl rfl) f2 rfl rfl) (tx_s_fr (tx_s_fr s2 f rfl rfl) f2 rfl rfl) er
  refine w_go z_hl [] [85] 30 hr ?_
  intro H hH
  have f : y_fr h H [] [] := y_st (y_rf hr) hH (by repeat (first | exact w_nil | refine w_cons (Or.inl (y_m rfl)) ?_ | refine w_cons (Or.inr (by assumption)) ?_)) (by repeat (first | exact w_nil | refine w_cons (Or.inl (y_m rfl)) ?_ | refine w_cons (Or.inr (by assumption)) ?_))
  refine c_number (d := d) (tx_s_fr s f rfl rfl) (fun r H2 f2 s3 => ⟨fun n e => (by cases e), ?_⟩)
  exact T9 (y_sq (y_mo f rfl rfl) f2 rfl rfl) s3
end PPT6
end PT33icl
section PT33icm
/-! ===== v21: clear, parseTerm, parseFirst, parseSecond of the class with saying 6 (laid by wip/tools/mk21e.py) ===== -/
section PFS6
variable {X : aX} {C S d : Nat} {K0 : Option Value → aH → Nat → Nat → Prop} {sg : List Int32} {t p : Nat} {nd : Int32} {h : aH}
theorem c_clearl6 : ∀ (m : Nat) (h : aH) (iI : Int32) (i : Nat) (fr : List Int32), w_hr z_D h → iI.toInt = i → i + m = 4 → w_a h 59 = some (0, .inl fr) → fr.length = 4 → (∀ j, j < i → y_N fr j = -1) → (∀ (H : aH) (fr' : List Int32), y_fr h H [] [59, 60, 61] → w_a H 59 = some (0, .inl fr') → (∀ j, j < 4 → y_N fr' j = -1) → K0 none H C S) → aOK s_P X d a_m79 13 [some (.ref 59), some (.int iI)] [] h C S K0 := by
  have c4 : (Int32.ofInt 4).toInt = 4 := by decide
  intro m
  induction m with
  | zero =>
    intro h iI i fr hr hi hm g len hf hK
    have ei : i = 4 := by omega
    rw [ei] at hf
    refine w_go z_hl [13] [] 30 hr ?_
    refine ⟨fun _ => fun H hH => ?_, fun z => ?_⟩
    · have f : y_fr h H [] [] := y_st (y_rf hr) hH (by repeat (first | exact w_nil | refine w_cons (Or.inl (y_m rfl)) ?_ | refine w_cons (Or.inr (by assumption)) ?_)) (by repeat (first | exact w_nil | refine w_cons (Or.inl (y_m rfl)) ?_ | refine w_cons (Or.inr (by assumption)) ?_))
      exact hK H fr (y_mo f rfl rfl) ((y_ae f rfl).trans g) hf
    · have y1 : ¬ ((Int32.ofInt 4).toInt ≤ iI.toInt) := y_cif z
      rw [c4] at y1
      exfalso
      omega
  | succ m ih =>
    intro h iI i fr hr hi hm g len hf hK
    have ink : (iI + Int32.ofInt 1).toInt = ((i + 1 : Nat) : Int) := by rw [y_inc (by omega), hi]; rfl
    have ci := y_cl1 hi
    refine w_go z_hl [13] [] 60 hr ?_
    refine ⟨fun z => ?_, fun z => ?_⟩
    · have y1 : (Int32.ofInt 4).toInt ≤ iI.toInt := (y_ci .ge _ _).mp z
      rw [c4] at y1
      exfalso
      omega
    · refine ⟨⟨by omega, by omega⟩, by decide, fun l hl len1 bb => ?_⟩
      obtain rfl := y_ai g hl
      refine ⟨⟨by omega, by omega⟩, y_l32 _, fun l2 hl2 len2 bb2 => ⟨⟨by omega, by omega⟩, y_l32 _, fun l3 hl3 len3 bb3 => fun H hH => ?_⟩⟩
      have w := hH.2.2.1 59 _ rfl
      rw [ci] at w
      have f : y_fr h H [] [59, 60, 61] := y_st (y_mo (y_rf hr) rfl rfl) hH (by repeat (first | exact w_nil | refine w_cons (Or.inl (y_m rfl)) ?_ | refine w_cons (Or.inr (by assumption)) ?_)) (by repeat (first | exact w_nil | refine w_cons (Or.inl (y_m rfl)) ?_ | refine w_cons (Or.inr (by assumption)) ?_))
      refine ih H _ (i + 1) _ f.1 ink (by omega) w (by rw [List.length_set]; exact len) (fun j hj => ?_) (fun H' fr' f1 f2 f3 => hK H' fr' (y_sq f f1 rfl rfl) f2 f3)
      rw [y_Nset (by omega)]
      by_cases y : j = i
      · rw [if_pos y]
        decide
      · rw [if_neg y]
        exact hf j (by omega)
theorem c_clear6 (hr : w_hr z_D h) (hK : ∀ (H : aH) (fr : List Int32), y_fr h H [7297, 7298] [59, 60, 61] → w_a H 59 = some (0, .inl fr) → (∀ j, j < 4 → y_N fr j = -1) → K0 none H C S) : aOK s_P X d a_m79 0 [some (.ref 59), none] [] h C S K0 := by
  refine w_go z_hl [13] [] 30 hr ?_
  refine ⟨rfl, y_zini (by decide) (by decide), rfl, y_zini (by decide) (by decide), fun H hH => ?_⟩
  have f : y_fr h H [7297, 7298] [] := y_st (y_mo (y_rf hr) rfl rfl) hH (by repeat (first | exact w_nil | refine w_cons (Or.inl (y_m rfl)) ?_ | refine w_cons (Or.inr (by assumption)) ?_)) (by repeat (first | exact w_nil | refine w_cons (Or.inl (y_m rfl)) ?_ | refine w_cons (Or.inr (by assumption)) ?_))
  obtain ⟨fr, f1, fl, -⟩ := c_arr f.1 (ob := 59) (n := 4) (lo := -1) (hi := 40) rfl
  exact c_clearl6 4 H _ 0 fr f.1 (by decide) rfl f1 fl (fun j hj => absurd hj (Nat.not_lt_zero j)) (fun H' fr' e1 e2 e3 => hK H' fr' (y_sq (y_mo f rfl rfl) e1 rfl rfl) e2 e3)
theorem c_tm6 (n0 : 0 ≤ nd.toInt) (n10 : nd.toInt ≤ 10) {sI : Int32} {sd : Nat} (hs : sI.toInt = sd) (hs2 : sd < 2) (s : tx_s nd h sg t p) {fr : List Int32} (gf : w_a h 59 = some (0, .inl fr)) (hK : ∀ (b : Bool) (q k : Nat) (H : aH) (fr' : List Int32), y_fr h H [1538] [59, 60, 61, 62, 63] → tx_s nd H sg t q → pr_tm (y_N sg) t nd.toInt p = (b, q, k) → w_a H 59 = some (0, .inl fr') → (k = 0 ∧ fr' = fr) ∨ tx_f fr fr' sd k → K0 (some (.int (y_01 b))) H C S) : aOK s_P X (d + 4) a_m81 0 [some (.ref 14), some (.ref 59), some (.int sI)] [] h C S K0 := by
  have hr := (tx_s_hr s).1
  have T25 : ∀ {G : aH} {b : Bool} {q k : Nat} {pc : Nat} {fr' : List Int32}, (pc = 16 ∨ pc = 25) → y_fr h G [1538] [59, 60, 61, 62, 63] → tx_s nd G sg t q → pr_tm (y_N sg) t nd.toInt p = (b, q, k) → w_a G 59 = some (0, .inl fr') → (k = 0 ∧ fr' = fr) ∨ tx_f fr fr' sd k → aOK s_P X (d + 4) a_m81 pc [some (.ref 14), some (.ref 59), some (.int sI)] [.int (y_01 b)] G C S K0 := by
    intro G b q k pc fr' hpc e s2 hg g2 hf
    rcases hpc with rfl | rfl
    · refine w_go z_hl [] [] 20 e.1 ?_
      refine ⟨y_01b b, fun H hH => ?_⟩
      have f : y_fr G H [] [] := y_st (y_rf e.1) hH (by repeat (first | exact w_nil | refine w_cons (Or.inl (y_m rfl)) ?_ | refine w_cons (Or.inr (by assumption)) ?_)) (by repeat (first | exact w_nil | refine w_cons (Or.inl (y_m rfl)) ?_ | refine w_cons (Or.inr (by assumption)) ?_))
      exact hK b q k H fr' (y_sq e f rfl rfl) (tx_s_fr s2 f rfl rfl) hg ((y_ae f rfl).trans g2) hf
    · refine w_go z_hl [] [] 20 e.1 ?_
      refine ⟨y_01b b, fun H hH => ?_⟩
      have f : y_fr G H [] [] := y_st (y_rf e.1) hH (by repeat (first | exact w_nil | refine w_cons (Or.inl (y_m rfl)) ?_ | refine w_cons (Or.inr (by assumption)) ?_)) (by repeat (first | exact w_nil | refine w_cons (Or.inl (y_m rfl)) ?_ | refine w_cons (Or.inr (by assumption)) ?_))
      exact hK b q k H fr' (y_sq e f rfl rfl) (tx_s_fr s2 f rfl rfl) hg ((y_ae f rfl).trans g2) hf
  have T7 : ∀ {G : aH} (b : Bool), y_fr h G [] [] → (b = true → pr_dg (y_N sg) t p) → (b = false → ¬ pr_dg (y_N sg) t p) → aOK s_P X (d + 4) a_m81 7 [some (.ref 14), some (.ref 59), some (.int sI)] [.int (y_01 b)] G C S K0 := by
    intro G b e hy hn
    cases b with
    | true =>
      refine w_go z_hl [] [84, 86] 30 e.1 ?_
      refine ⟨fun z => absurd z (by decide), fun _ => fun H hH => ?_⟩
      have f : y_fr h H [] [] := y_st e hH (by repeat (first | exact w_nil | refine w_cons (Or.inl (y_m rfl)) ?_ | refine w_cons (Or.inr (by assumption)) ?_)) (by repeat (first | exact w_nil | refine w_cons (Or.inl (y_m rfl)) ?_ | refine w_cons (Or.inr (by assumption)) ?_))
      refine c_rt6 (d := d + 1) hs hs2 (tx_s_fr s f rfl rfl) (fun b q H2 f2 s3 hg => ⟨fun n e => (by cases e), ?_⟩)
      exact T25 (k := 0) (Or.inl rfl) (y_sq (y_mo f rfl rfl) f2 rfl rfl) s3 (by rw [pr_tm_1 (hy rfl)]; exact hg) ((y_ae f2 rfl).trans ((y_ae f rfl).trans gf)) (Or.inl ⟨rfl, rfl⟩)
    | false =>
      refine w_go z_hl [] [84, 86] 30 e.1 ?_
      refine ⟨fun _ => fun H hH => ?_, fun z => absurd z (by decide)⟩
      have f : y_fr h H [] [] := y_st e hH (by repeat (first | exact w_nil | refine w_cons (Or.inl (y_m rfl)) ?_ | refine w_cons (Or.inr (by assumption)) ?_)) (by repeat (first | exact w_nil | refine w_cons (Or.inl (y_m rfl)) ?_ | refine w_cons (Or.inr (by assumption)) ?_))
      refine c_gv6 (d := d) n0 n10 hs hs2 (tx_s_fr s f rfl rfl) ((y_ae f rfl).trans gf) (fun b q k H2 fr' f2 s3 hg g3 hf => ⟨fun n e => (by cases e), ?_⟩)
      exact T25 (Or.inr rfl) (y_sq (y_mo f rfl rfl) f2 rfl rfl) s3 (by rw [pr_tm_0 (hn rfl)]; exact hg) g3 (Or.inr hf)
  have T4 : ∀ {G : aH} {cI : Int32}, y_fr h G [] [] → cI.toInt = pr_k (y_N sg) t p → aOK s_P X (d + 4) a_m81 4 [some (.ref 14), some (.ref 59), some (.int sI)] [.int cI] G C S K0 := by
    intro G cI e hc
    refine w_go z_hl [] [83] 20 e.1 ?_
    intro H hH
    have f : y_fr h H [] [] := y_st e hH (by repeat (first | exact w_nil | refine w_cons (Or.inl (y_m rfl)) ?_ | refine w_cons (Or.inr (by assumption)) ?_)) (by repeat (first | exact w_nil | refine w_cons (Or.inl (y_m rfl)) ?_ | refine w_cons (Or.inr (by assumption)) ?_))
    refine c_isDg (c := cI) f.1 (fun H2 f2 w => ⟨fun n e => (by cases e), ?_⟩) (fun H2 f2 w => ⟨fun n e => (by cases e), ?_⟩)
    · exact T7 true (y_sq f f2 rfl rfl) (fun _ => ⟨by omega, by omega⟩) (fun z => absurd z (by decide))
    · exact T7 false (y_sq f f2 rfl rfl) (fun z => absurd z (by decide)) (fun _ z => w ⟨by have := z.1; omega, by have := z.2; omega⟩)
  refine w_go z_hl [] [82] 20 hr ?_
  intro H hH
  have f : y_fr h H [] [] := y_st (y_rf hr) hH (by repeat (first | exact w_nil | refine w_cons (Or.inl (y_m rfl)) ?_ | refine w_cons (Or.inr (by assumption)) ?_)) (by repeat (first | exact w_nil | refine w_cons (Or.inl (y_m rfl)) ?_ | refine w_cons (Or.inr (by assumption)) ?_))
  refine c_lkT (tx_s_fr s f rfl rfl) (fun r H2 f2 er => ⟨fun n e => (by cases e), ?_⟩)
  exact T4 (y_sq f f2 rfl rfl) er
theorem c_isNum6 (hr : w_hr z_D h) {fr : List Int32} (gf : w_a h 59 = some (0, .inl fr)) (hK : ∀ (H : aH), y_fr h H [] [] → K0 (some (.int (y_01 (decide (y_N fr 0 = -1))))) H C S) : aOK s_P X d a_m89 0 [some (.ref 59), some (.int (Int32.ofInt 0))] [] h C S K0 := by
  have m1 : (Int32.ofInt 2 * Int32.ofInt 0).toInt = ((0 : Nat) : Int) := by decide
  have cm := y_cl1 m1
  have cn : (Int32.ofInt (-1)).toInt = -1 := by decide
  refine w_go z_hl [] [] 30 hr ?_
  refine ⟨⟨by decide, by decide⟩, fun l hl len bb => ?_⟩
  obtain rfl := y_ai gf hl
  refine ⟨fun z => ⟨by decide, fun H hH => ?_⟩, fun z => ⟨by decide, fun H hH => ?_⟩⟩
  · have y1 : (fr.getD (Int32.ofInt 2 * Int32.ofInt 0).toNatClampNeg 0).toInt ≠ (Int32.ofInt (-1)).toInt := (y_ci .ne _ _).mp z
    rw [cm, cn] at y1
    have w := hK H (y_st (y_rf hr) hH (by repeat (first | exact w_nil | refine w_cons (Or.inl (y_m rfl)) ?_ | refine w_cons (Or.inr (by assumption)) ?_)) (by repeat (first | exact w_nil | refine w_cons (Or.inl (y_m rfl)) ?_ | refine w_cons (Or.inr (by assumption)) ?_)))
    rw [decide_eq_false (show ¬ (y_N fr 0 = -1) from y1)] at w
    exact w
  · have y1 : ¬ ((fr.getD (Int32.ofInt 2 * Int32.ofInt 0).toNatClampNeg 0).toInt ≠ (Int32.ofInt (-1)).toInt) := y_cif z
    rw [cm, cn] at y1
    have w := hK H (y_st (y_rf hr) hH (by repeat (first | exact w_nil | refine w_cons (Or.inl (y_m rfl)) ?_ | refine w_cons (Or.inr (by assumption)) ?_)) (by repeat (first | exact w_nil | refine w_cons (Or.inl (y_m rfl)) ?_ | refine w_cons (Or.inr (by assumption)) ?_)))
    rw [decide_eq_true (show y_N fr 0 = -1 from Decidable.not_not.mp y1)] at w
    exact w
theorem c_first6 (n0 : 0 ≤ nd.toInt) (n10 : nd.toInt ≤ 10) (s : tx_s nd h sg t 0) {fr : List Int32} (gf : w_a h 59 = some (0, .inl fr)) (hf0 : y_N fr 0 = -1) (hf1 : y_N fr 1 = -1) (yes : ∀ (q k : Nat) (H : aH) (rel : Int32) (fr' : List Int32), y_fr h H [1538, 7298] [59, 60, 61, 62, 63] → tx_s nd H sg t (q + 1) → pr_tm (y_N sg) t nd.toInt 0 = (true, q, k) → w_f H 7298 = some (.int rel) → w_a H 59 = some (0, .inl fr') → ((pr_k (y_N sg) t q = 126 ∧ k = 1) ∧ rel.toInt = 126) ∨ (¬ (pr_k (y_N sg) t q = 126 ∧ k = 1) ∧ (pr_k (y_N sg) t q = 61 ∨ pr_k (y_N sg) t q = 60 ∨ pr_k (y_N sg) t q = 62) ∧ rel.toInt ≠ 126) → K0 (some (.int (y_01 true))) H C S) (no : ∀ (q : Nat) (H : aH), y_fr h H [1538, 7298] [59, 60, 61, 62, 63] → tx_s nd H sg t q → pr_sy (y_N sg) t nd.toInt = (false, q) → K0 (some (.int (y_01 false))) H C S) : aOK s_P X (d + 5) a_m80 0 [some (.ref 14), some (.ref 59), none, none] [] h C S K0 := by
  have hr := (tx_s_hr s).1
  have c126 : ((Int8.ofInt 126).toInt32).toInt = 126 := by decide
  have c61 : ((Int8.ofInt 61).toInt32).toInt = 61 := by decide
  have c60 : ((Int8.ofInt 60).toInt32).toInt = 60 := by decide
  have c62 : ((Int8.ofInt 62).toInt32).toInt = 62 := by decide
  have cn : (Int32.ofInt (-1)).toInt = -1 := by decide
  have T70 : ∀ {G : aH} {q k : Nat} {cI : Int32} {p3 : Option Value} {fr' : List Int32}, y_fr h G [1538, 7298] [59, 60, 61, 62, 63] → tx_s nd G sg t q → q < t → pr_tm (y_N sg) t nd.toInt 0 = (true, q, k) → w_a G 59 = some (0, .inl fr') → cI.toInt = pr_k (y_N sg) t q → 0 ≤ cI.toInt → cI.toInt ≤ 65535 → ((pr_k (y_N sg) t q = 126 ∧ k = 1) ∨ (¬ (pr_k (y_N sg) t q = 126 ∧ k = 1) ∧ (pr_k (y_N sg) t q = 61 ∨ pr_k (y_N sg) t q = 60 ∨ pr_k (y_N sg) t q = 62))) → aOK s_P X (d + 5) a_m80 70 [some (.ref 14), some (.ref 59), some (.int cI), p3] [] G C S K0 := by
    intro G q k cI p3 fr' e s2 qt ht g2 hc c0 c65 hw
    obtain ⟨toJ, atJ, -, b1, b2, b3, b4, b5, b6, -, t40⟩ := id s2
    have inc : (atJ + Int32.ofInt 1).toInt = ((q + 1 : Nat) : Int) := by rw [y_inc (by omega), b5]; rfl
    refine w_go z_hl [] [] 40 e.1 ?_
    refine ⟨y_fitC c0 c65, y_zini c0 c65, ?_⟩
    intro x hx _ _
    obtain rfl := y_fi b4 hx
    refine ⟨rfl, y_zini (by show 0 ≤ (atJ + Int32.ofInt 1).toInt; omega) (by show (atJ + Int32.ofInt 1).toInt ≤ 40; omega), by decide, fun H hH => ?_⟩
    have f : y_fr G H [1538, 7298] [] := y_st (y_mo (y_rf e.1) rfl rfl) hH (by repeat (first | exact w_nil | refine w_cons (Or.inl (y_m rfl)) ?_ | refine w_cons (Or.inr (by assumption)) ?_)) (by repeat (first | exact w_nil | refine w_cons (Or.inl (y_m rfl)) ?_ | refine w_cons (Or.inr (by assumption)) ?_))
    have s3 : tx_s nd H sg t (q + 1) := ⟨toJ, _, f.1, (y_ae f rfl).trans b1, (y_fe f rfl).trans b2, b3, hH.2.1 1538 _ rfl, inc, (y_fe f rfl).trans b6, by omega, t40⟩
    refine yes q k H cI fr' (y_sq e f rfl rfl) s3 ht (hH.2.1 7298 _ rfl) ((y_ae f rfl).trans g2) ?_
    rcases hw with w | ⟨w, w2⟩
    · exact Or.inl ⟨w, by rw [hc]; exact w.1⟩
    · refine Or.inr ⟨w, w2, ?_⟩
      rw [hc]
      rcases w2 with w3 | w3 | w3
      · omega
      · omega
      · omega
  have T45 : ∀ {G : aH} {q k : Nat} {cI : Int32} {fr' : List Int32} (b : Bool), y_fr h G [1538, 7298] [59, 60, 61, 62, 63] → tx_s nd G sg t q → pr_tm (y_N sg) t nd.toInt 0 = (true, q, k) → w_a G 59 = some (0, .inl fr') → cI.toInt = pr_k (y_N sg) t q → 0 ≤ cI.toInt → cI.toInt ≤ 65535 → (b = true → pr_k (y_N sg) t q = 126 ∧ k = 1) → (b = false → ¬ (pr_k (y_N sg) t q = 126 ∧ k = 1)) → aOK s_P X (d + 5) a_m80 45 [some (.ref 14), some (.ref 59), some (.int cI), none] [.int (y_01 b)] G C S K0 := by
    intro G q k cI fr' b e s2 ht g2 hc c0 c65 hy hn
    have f0 : y_fr G G [] [] := y_rf e.1
    have go : ∀ {H : aH} {p3 : Option Value}, y_fr G H [] [] → q < t → ((pr_k (y_N sg) t q = 126 ∧ k = 1) ∨ (¬ (pr_k (y_N sg) t q = 126 ∧ k = 1) ∧ (pr_k (y_N sg) t q = 61 ∨ pr_k (y_N sg) t q = 60 ∨ pr_k (y_N sg) t q = 62))) → aOK s_P X (d + 5) a_m80 70 [some (.ref 14), some (.ref 59), some (.int cI), p3] [] H C S K0 := fun f qt w => T70 (y_sq e f rfl rfl) (tx_s_fr s2 f rfl rfl) qt ht ((y_ae f rfl).trans g2) hc c0 c65 w
    have q61 : cI.toInt = 61 → ¬ (pr_k (y_N sg) t q = 126 ∧ k = 1) := fun z w => by have := w.1; omega
    have q60 : cI.toInt = 60 → ¬ (pr_k (y_N sg) t q = 126 ∧ k = 1) := fun z w => by have := w.1; omega
    have q62 : cI.toInt = 62 → ¬ (pr_k (y_N sg) t q = 126 ∧ k = 1) := fun z w => by have := w.1; omega
    cases b with
    | true =>
      refine w_go z_hl [70] [] 40 e.1 ?_
      refine ⟨fun z => fun H hH => ?_, fun z => ⟨fun z2 => fun H hH => ?_, fun z2 => ⟨fun z3 => fun H hH => ?_, fun z3 => ⟨fun _ => fun H hH => ?_, fun z4 => absurd z4 (by decide)⟩⟩⟩⟩
      · have y1 : cI.toInt = ((Int8.ofInt 61).toInt32).toInt := (y_ci .eq _ _).mp z
        rw [c61] at y1
        exact go (y_st f0 hH (by repeat (first | exact w_nil | refine w_cons (Or.inl (y_m rfl)) ?_ | refine w_cons (Or.inr (by assumption)) ?_)) (by repeat (first | exact w_nil | refine w_cons (Or.inl (y_m rfl)) ?_ | refine w_cons (Or.inr (by assumption)) ?_))) (pr_k_t (c := 61) (by decide) (hc.symm.trans y1)) (Or.inr ⟨q61 y1, Or.inl (hc.symm.trans y1)⟩)
      · have y1 : cI.toInt = ((Int8.ofInt 60).toInt32).toInt := (y_ci .eq _ _).mp z2
        rw [c60] at y1
        exact go (y_st f0 hH (by repeat (first | exact w_nil | refine w_cons (Or.inl (y_m rfl)) ?_ | refine w_cons (Or.inr (by assumption)) ?_)) (by repeat (first | exact w_nil | refine w_cons (Or.inl (y_m rfl)) ?_ | refine w_cons (Or.inr (by assumption)) ?_))) (pr_k_t (c := 60) (by decide) (hc.symm.trans y1)) (Or.inr ⟨q60 y1, Or.inr (Or.inl (hc.symm.trans y1))⟩)
      · have y1 : cI.toInt = ((Int8.ofInt 62).toInt32).toInt := (y_ci .eq _ _).mp z3
        rw [c62] at y1
        exact go (y_st f0 hH (by repeat (first | exact w_nil | refine w_cons (Or.inl (y_m rfl)) ?_ | refine w_cons (Or.inr (by assumption)) ?_)) (by repeat (first | exact w_nil | refine w_cons (Or.inl (y_m rfl)) ?_ | refine w_cons (Or.inr (by assumption)) ?_))) (pr_k_t (c := 62) (by decide) (hc.symm.trans y1)) (Or.inr ⟨q62 y1, Or.inr (Or.inr (hc.symm.trans y1))⟩)
      · exact go (y_st f0 hH (by repeat (first | exact w_nil | refine w_cons (Or.inl (y_m rfl)) ?_ | refine w_cons (Or.inr (by assumption)) ?_)) (by repeat (first | exact w_nil | refine w_cons (Or.inl (y_m rfl)) ?_ | refine w_cons (Or.inr (by assumption)) ?_))) (pr_k_t (c := 126) (by decide) (hy rfl).1) (Or.inl (hy rfl))
    | false =>
      refine w_go z_hl [70] [] 40 e.1 ?_
      refine ⟨fun z => fun H hH => ?_, fun z => ⟨fun z2 => fun H hH => ?_, fun z2 => ⟨fun z3 => fun H hH => ?_, fun z3 => ⟨fun z4 => absurd z4 (by decide), fun _ => ⟨by decide, fun H hH => ?_⟩⟩⟩⟩⟩
      · have y1 : cI.toInt = ((Int8.ofInt 61).toInt32).toInt := (y_ci .eq _ _).mp z
        rw [c61] at y1
        exact go (y_st f0 hH (by repeat (first | exact w_nil | refine w_cons (Or.inl (y_m rfl)) ?_ | refine w_cons (Or.inr (by assumption)) ?_)) (by repeat (first | exact w_nil | refine w_cons (Or.inl (y_m rfl)) ?_ | refine w_cons (Or.inr (by assumption)) ?_))) (pr_k_t (c := 61) (by decide) (hc.symm.trans y1)) (Or.inr ⟨q61 y1, Or.inl (hc.symm.trans y1)⟩)
      · have y1 : cI.toInt = ((Int8.ofInt 60).toInt32).toInt := (y_ci .eq _ _).mp z2
        rw [c60] at y1
        exact go (y_st f0 hH (by repeat (first | exact w_nil | refine w_cons (Or.inl (y_m rfl)) ?_ | refine w_cons (Or.inr (by assumption)) ?_)) (by repeat (first | exact w_nil | refine w_cons (Or.inl (y_m rfl)) ?_ | refine w_cons (Or.inr (by assumption)) ?_))) (pr_k_t (c := 60) (by decide) (hc.symm.trans y1)) (Or.inr ⟨q60 y1, Or.inr (Or.inl (hc.symm.trans y1))⟩)
      · have y1 : cI.toInt = ((Int8.ofInt 62).toInt32).toInt := (y_ci .eq _ _).mp z3
        rw [c62] at y1
        exact go (y_st f0 hH (by repeat (first | exact w_nil | refine w_cons (Or.inl (y_m rfl)) ?_ | refine w_cons (Or.inr (by assumption)) ?_)) (by repeat (first | exact w_nil | refine w_cons (Or.inl (y_m rfl)) ?_ | refine w_cons (Or.inr (by assumption)) ?_))) (pr_k_t (c := 62) (by decide) (hc.symm.trans y1)) (Or.inr ⟨q62 y1, Or.inr (Or.inr (hc.symm.trans y1))⟩)
      · have y1 : ¬ (cI.toInt = ((Int8.ofInt 61).toInt32).toInt) := y_cif z
        have y2 : ¬ (cI.toInt = ((Int8.ofInt 60).toInt32).toInt) := y_cif z2
        have y3 : ¬ (cI.toInt = ((Int8.ofInt 62).toInt32).toInt) := y_cif z3
        rw [c61, hc] at y1
        rw [c60, hc] at y2
        rw [c62, hc] at y3
        have f : y_fr G H [] [] := y_st f0 hH (by repeat (first | exact w_nil | refine w_cons (Or.inl (y_m rfl)) ?_ | refine w_cons (Or.inr (by assumption)) ?_)) (by repeat (first | exact w_nil | refine w_cons (Or.inl (y_m rfl)) ?_ | refine w_cons (Or.inr (by assumption)) ?_))
        exact no q H (y_sq e f rfl rfl) (tx_s_fr s2 f rfl rfl) (pr_sy_x ht (hn rfl) (fun w => by rcases w with w | w | w; exact y1 w; exact y2 w; exact y3 w))
  have T27 : ∀ {G : aH} {q k : Nat} {cI : Int32} {fr' : List Int32} (b : Bool), y_fr h G [1538, 7298] [59, 60, 61, 62, 63] → tx_s nd G sg t q → pr_tm (y_N sg) t nd.toInt 0 = (true, q, k) → w_a G 59 = some (0, .inl fr') → cI.toInt = pr_k (y_N sg) t q → 0 ≤ cI.toInt → cI.toInt ≤ 65535 → pr_k (y_N sg) t q = 126 → (b = true → k = 0) → (b = false → k ≠ 0 ∧ (k = 1 → y_N fr' 1 = -1) ∧ (k ≠ 1 → 0 ≤ y_N fr' 1)) → aOK s_P X (d + 5) a_m80 27 [some (.ref 14), some (.ref 59), some (.int cI), none] [.int (y_01 b)] G C S K0 := by
    intro G q k cI fr' b e s2 ht g2 hc c0 c65 h126 hy hn
    have f0 : y_fr G G [] [] := y_rf e.1
    cases b with
    | true =>
      refine w_go z_hl [45] [] 30 e.1 ?_
      refine ⟨fun _ => fun H hH => ?_, fun z => absurd z (by decide)⟩
      have f : y_fr G H [] [] := y_st f0 hH (by repeat (first | exact w_nil | refine w_cons (Or.inl (y_m rfl)) ?_ | refine w_cons (Or.inr (by assumption)) ?_)) (by repeat (first | exact w_nil | refine w_cons (Or.inl (y_m rfl)) ?_ | refine w_cons (Or.inr (by assumption)) ?_))
      exact T45 false (y_sq e f rfl rfl) (tx_s_fr s2 f rfl rfl) ht ((y_ae f rfl).trans g2) hc c0 c65 (fun w => absurd w (by decide)) (fun _ w => by have := hy rfl; omega)
    | false =>
      obtain ⟨k0, k1, k2⟩ := hn rfl
      have i1 : (Int32.ofInt 1).toInt = ((1 : Nat) : Int) := by decide
      have ci1 := y_cl1 i1
      refine w_go z_hl [45] [] 30 e.1 ?_
      refine ⟨fun z => absurd z (by decide), fun _ => ⟨⟨by decide, by decide⟩, fun l hl len bb => ?_⟩⟩
      obtain rfl := y_ai g2 hl
      refine ⟨fun z => fun H hH => ?_, fun z => fun H hH => ?_⟩
      · have y1 : (fr'.getD (Int32.ofInt 1).toNatClampNeg 0).toInt ≠ (Int32.ofInt (-1)).toInt := (y_ci .ne _ _).mp z
        rw [ci1, cn] at y1
        have y2 : y_N fr' 1 ≠ -1 := y1
        have f : y_fr G H [] [] := y_st f0 hH (by repeat (first | exact w_nil | refine w_cons (Or.inl (y_m rfl)) ?_ | refine w_cons (Or.inr (by assumption)) ?_)) (by repeat (first | exact w_nil | refine w_cons (Or.inl (y_m rfl)) ?_ | refine w_cons (Or.inr (by assumption)) ?_))
        exact T45 false (y_sq e f rfl rfl) (tx_s_fr s2 f rfl rfl) ht ((y_ae f rfl).trans g2) hc c0 c65 (fun w => absurd w (by decide)) (fun _ w => y2 (k1 w.2))
      · have y1 : ¬ ((fr'.getD (Int32.ofInt 1).toNatClampNeg 0).toInt ≠ (Int32.ofInt (-1)).toInt) := y_cif z
        rw [ci1, cn] at y1
        have y2 : y_N fr' 1 = -1 := Decidable.not_not.mp y1
        have f : y_fr G H [] [] := y_st f0 hH (by repeat (first | exact w_nil | refine w_cons (Or.inl (y_m rfl)) ?_ | refine w_cons (Or.inr (by assumption)) ?_)) (by repeat (first | exact w_nil | refine w_cons (Or.inl (y_m rfl)) ?_ | refine w_cons (Or.inr (by assumption)) ?_))
        refine T45 true (y_sq e f rfl rfl) (tx_s_fr s2 f rfl rfl) ht ((y_ae f rfl).trans g2) hc c0 c65 (fun _ => ⟨h126, ?_⟩) (fun w => absurd w (by decide))
        rcases Nat.decEq k 1 with w | w
        · have := k2 w
          omega
        · exact w
  have T15 : ∀ {G : aH} {q k : Nat} {cI : Int32} {fr' : List Int32}, y_fr h G [1538, 7298] [59, 60, 61, 62, 63] → tx_s nd G sg t q → pr_tm (y_N sg) t nd.toInt 0 = (true, q, k) → w_a G 59 = some (0, .inl fr') → (k = 0 ∧ fr' = fr) ∨ tx_f fr fr' 0 k → cI.toInt = pr_k (y_N sg) t q → 0 ≤ cI.toInt → cI.toInt ≤ 65535 → aOK s_P X (d + 5) a_m80 15 [some (.ref 14), some (.ref 59), none, none] [.int cI] G C S K0 := by
    intro G q k cI fr' e s2 ht g2 hf hc c0 c65
    have f0 : y_fr G G [] [] := y_rf e.1
    refine w_go z_hl [45] [89] 30 e.1 ?_
    refine ⟨fun z => fun H hH => ?_, fun z => fun H hH => ?_⟩
    · have y1 : cI.toInt ≠ ((Int8.ofInt 126).toInt32).toInt := (y_ci .ne _ _).mp z
      rw [c126, hc] at y1
      have f : y_fr G H [] [] := y_st f0 hH (by repeat (first | exact w_nil | refine w_cons (Or.inl (y_m rfl)) ?_ | refine w_cons (Or.inr (by assumption)) ?_)) (by repeat (first | exact w_nil | refine w_cons (Or.inl (y_m rfl)) ?_ | refine w_cons (Or.inr (by assumption)) ?_))
      exact T45 false (y_sq e f rfl rfl) (tx_s_fr s2 f rfl rfl) ht ((y_ae f rfl).trans g2) hc c0 c65 (fun w => absurd w (by decide)) (fun _ w => y1 w.1)
    · have y1 : ¬ (cI.toInt ≠ ((Int8.ofInt 126).toInt32).toInt) := y_cif z
      rw [c126, hc] at y1
      have y2 : pr_k (y_N sg) t q = 126 := Decidable.not_not.mp y1
      have f : y_fr G H [] [] := y_st f0 hH (by repeat (first | exact w_nil | refine w_cons (Or.inl (y_m rfl)) ?_ | refine w_cons (Or.inr (by assumption)) ?_)) (by repeat (first | exact w_nil | refine w_cons (Or.inl (y_m rfl)) ?_ | refine w_cons (Or.inr (by assumption)) ?_))
      refine c_isNum6 f.1 ((y_ae f rfl).trans g2) (fun H2 f2 => ⟨fun n e => (by cases e), ?_⟩)
      have e3 := y_sq (y_sq e f rfl rfl) f2 rfl rfl
      have s3 := tx_s_fr (tx_s_fr s2 f rfl rfl) f2 rfl rfl
      have g3 := (y_ae f2 rfl).trans ((y_ae f rfl).trans g2)
      rcases hf with ⟨hf, hf'⟩ | ⟨hf, hg, hh, hi⟩
      · rw [decide_eq_true (show y_N fr' 0 = -1 by rw [hf']; exact hf0)]
        exact T27 true e3 s3 ht g3 hc c0 c65 y2 (fun _ => hf) (fun w => absurd w (by decide))
      · have hg' : 0 ≤ y_N fr' 0 := hg
        rw [decide_eq_false (show ¬ (y_N fr' 0 = -1) by omega)]
        refine T27 false e3 s3 ht g3 hc c0 c65 y2 (fun w => absurd w (by decide)) (fun _ => ⟨by omega, fun w => ?_, fun w => ?_⟩)
        · rw [hh w 1 (by decide)]
          exact hf1
        · exact (hi (by omega)).1
  have T6 : ∀ {G : aH} {q k : Nat} {fr' : List Int32} (b : Bool), y_fr h G [1538, 7298] [59, 60, 61, 62, 63] → tx_s nd G sg t q → pr_tm (y_N sg) t nd.toInt 0 = (b, q, k) → w_a G 59 = some (0, .inl fr') → (k = 0 ∧ fr' = fr) ∨ tx_f fr fr' 0 k → aOK s_P X (d + 5) a_m80 6 [some (.ref 14), some (.ref 59), none, none] [.int (y_01 b)] G C S K0 := by
    intro G q k fr' b e s2 ht g2 hf
    cases b with
    | true =>
      refine w_go z_hl [] [82] 30 e.1 ?_
      refine ⟨fun _ => fun H hH => ?_, fun z => absurd z (by decide)⟩
      have f : y_fr G H [] [] := y_st (y_rf e.1) hH (by repeat (first | exact w_nil | refine w_cons (Or.inl (y_m rfl)) ?_ | refine w_cons (Or.inr (by assumption)) ?_)) (by repeat (first | exact w_nil | refine w_cons (Or.inl (y_m rfl)) ?_ | refine w_cons (Or.inr (by assumption)) ?_))
      obtain ⟨sg', z1, z2, z3⟩ := w_arrI f.1 (o := 13) (t := 3) (n := 60) (lo := 0) (hi := 65535) (by decide) rfl
      have kb : 0 ≤ pr_k (y_N sg) t q ∧ pr_k (y_N sg) t q ≤ 65535 := by
        obtain ⟨-, -, -, b1, -, -, -, -, -, -, t40⟩ := tx_s_fr s2 f rfl rfl
        have e4 := w_a_at z1
        rw [b1] at e4
        obtain rfl : sg = sg' := by
          injection e4 with e5
          injection e5 with _ e6
          injection e6
        by_cases w : q < t
        · rw [pr_k_1 w]
          exact z3 _ (z_gd (0 : Int32) (show q < sg.length by omega))
        · rw [show pr_k (y_N sg) t q = 0 from if_neg w]
          decide
      refine c_lkT (tx_s_fr s2 f rfl rfl) (fun r H2 f2 er => ⟨fun n e => (by cases e), ?_⟩)
      exact T15 (y_sq (y_sq e f rfl rfl) f2 rfl rfl) (tx_s_fr (tx_s_fr s2 f rfl rfl) f2 rfl rfl) ht ((y_ae f2 rfl).trans ((y_ae f rfl).trans g2)) hf er (by omega) (by omega)
    | false =>
      refine w_go z_hl [] [82] 30 e.1 ?_
      refine ⟨fun z => absurd z (by decide), fun _ => ⟨by decide, fun H hH => ?_⟩⟩
      have f : y_fr G H [] [] := y_st (y_rf e.1) hH (by repeat (first | exact w_nil | refine w_cons (Or.inl (y_m rfl)) ?_ | refine w_cons (Or.inr (by assumption)) ?_)) (by repeat (first | exact w_nil | refine w_cons (Or.inl (y_m rfl)) ?_ | refine w_cons (Or.inr (by assumption)) ?_))
      exact no q H (y_sq e f rfl rfl) (tx_s_fr s2 f rfl rfl) (pr_sy_n ht)
  refine w_go z_hl [] [81] 20 hr ?_
  intro H hH
  have f : y_fr h H [] [] := y_st (y_rf hr) hH (by repeat (first | exact w_nil | refine w_cons (Or.inl (y_m rfl)) ?_ | refine w_cons (Or.inr (by assumption)) ?_)) (by repeat (first | exact w_nil | refine w_cons (Or.inl (y_m rfl)) ?_ | refine w_cons (Or.inr (by assumption)) ?_))
  refine c_tm6 (d := d) (sd := 0) n0 n10 (by decide) (by decide) (tx_s_fr s f rfl rfl) ((y_ae f rfl).trans gf) (fun b q k H2 fr' f2 s3 ht g3 hf => ⟨fun n e => (by cases e), ?_⟩)
  exact T6 b (y_sq (y_mo f rfl rfl) f2 rfl rfl) s3 ht g3 hf
theorem c_second6 (n0 : 0 ≤ nd.toInt) (n10 : nd.toInt ≤ 10) (s : tx_s nd h sg t p) {rel : Int32} (gr : w_f h 7298 = some (.int rel)) (hK : ∀ (b : Bool) (q k : Nat) (H : aH), y_fr h H [1538] [59, 60, 61, 62, 63] → tx_s nd H sg t q → (rel.toInt = 126 → pr_gv (y_N sg) t nd.toInt p = (b, q, k)) → (rel.toInt ≠ 126 → pr_tm (y_N sg) t nd.toInt p = (b, q, k)) → K0 (some (.int (y_01 b))) H C S) : aOK s_P X (d + 5) a_m90 0 [some (.ref 14), some (.ref 59)] [] h C S K0 := by
  have hr := (tx_s_hr s).1
  have c126 : ((Int8.ofInt 126).toInt32).toInt = 126 := by decide
  obtain ⟨fr, gf, -, -⟩ := c_arr hr (ob := 59) (n := 4) (lo := -1) (hi := 40) rfl
  have T22 : ∀ {G : aH} {b : Bool} {q k pc : Nat}, (pc = 13 ∨ pc = 22) → y_fr h G [1538] [59, 60, 61, 62, 63] → tx_s nd G sg t q → (rel.toInt = 126 → pr_gv (y_N sg) t nd.toInt p = (b, q, k)) → (rel.toInt ≠ 126 → pr_tm (y_N sg) t nd.toInt p = (b, q, k)) → aOK s_P X (d + 5) a_m90 pc [some (.ref 14), some (.ref 59)] [.int (y_01 b)] G C S K0 := by
    intro G b q k pc hpc e s2 h1 h2
    rcases hpc with rfl | rfl
    · refine w_go z_hl [] [] 20 e.1 ?_
      refine ⟨y_01b b, fun H hH => ?_⟩
      have f : y_fr G H [] [] := y_st (y_rf e.1) hH (by repeat (first | exact w_nil | refine w_cons (Or.inl (y_m rfl)) ?_ | refine w_cons (Or.inr (by assumption)) ?_)) (by repeat (first | exact w_nil | refine w_cons (Or.inl (y_m rfl)) ?_ | refine w_cons (Or.inr (by assumption)) ?_))
      exact hK b q k H (y_sq e f rfl rfl) (tx_s_fr s2 f rfl rfl) h1 h2
    · refine w_go z_hl [] [] 20 e.1 ?_
      refine ⟨y_01b b, fun H hH => ?_⟩
      have f : y_fr G H [] [] := y_st (y_rf e.1) hH (by repeat (first | exact w_nil | refine w_cons (Or.inl (y_m rfl)) ?_ | refine w_cons (Or.inr (by assumption)) ?_)) (by repeat (first | exact w_nil | refine w_cons (Or.inl (y_m rfl)) ?_ | refine w_cons (Or.inr (by assumption)) ?_))
      exact hK b q k H (y_sq e f rfl rfl) (tx_s_fr s2 f rfl rfl) h1 h2
  refine w_go z_hl [] [81, 86] 40 hr ?_
  intro x hx _ _
  obtain rfl := y_fi gr hx
  refine ⟨fun z => ⟨by decide, ⟨fun _ => fun H hH => ?_, fun z2 => absurd z2 (by decide)⟩⟩, fun z => ⟨by decide, ⟨fun z2 => absurd z2 (by decide), fun _ => fun H hH => ?_⟩⟩⟩
  · have y1 : rel.toInt ≠ ((Int8.ofInt 126).toInt32).toInt := (y_ci .ne _ _).mp z
    rw [c126] at y1
    have f : y_fr h H [] [] := y_st (y_rf hr) hH (by repeat (first | exact w_nil | refine w_cons (Or.inl (y_m rfl)) ?_ | refine w_cons (Or.inr (by assumption)) ?_)) (by repeat (first | exact w_nil | refine w_cons (Or.inl (y_m rfl)) ?_ | refine w_cons (Or.inr (by assumption)) ?_))
    refine c_tm6 (d := d) (sd := 1) n0 n10 (by decide) (by decide) (tx_s_fr s f rfl rfl) ((y_ae f rfl).trans gf) (fun b q k H2 fr' f2 s3 ht g3 hf => ⟨fun n e => (by cases e), ?_⟩)
    exact T22 (k := k) (Or.inr rfl) (y_sq (y_mo f rfl rfl) f2 rfl rfl) s3 (fun w => absurd w y1) (fun _ => ht)
  · have y1 : ¬ (rel.toInt ≠ ((Int8.ofInt 126).toInt32).toInt) := y_cif z
    rw [c126] at y1
    have f : y_fr h H [] [] := y_st (y_rf hr) hH (by repeat (first | exact w_nil | refine w_cons (Or.inl (y_m rfl)) ?_ | refine w_cons (Or.inr (by assumption)) ?_)) (by repeat (first | exact w_nil | refine w_cons (Or.inl (y_m rfl)) ?_ | refine w_cons (Or.inr (by assumption)) ?_))
    refine c_gv6 (d := d + 1) (sd := 1) n0 n10 (by decide) (by decide) (tx_s_fr s f rfl rfl) ((y_ae f rfl).trans gf) (fun b q k H2 fr' f2 s3 hg g3 hf => ⟨fun n e => (by cases e), ?_⟩)
    exact T22 (k := k) (Or.inl rfl) (y_sq (y_mo f rfl rfl) f2 rfl rfl) s3 (fun _ => hg) (fun w => absurd w y1)
end PFS6
end PT33icm
section PT33icn
/-! ===== v21: parse of the class with saying 6 (laid by wip/tools/mk21f.py) ===== -/
section PPS6
variable {X : aX} {C S d : Nat} {K0 : Option Value → aH → Nat → Nat → Prop} {sg : List Int32} {nd len : Int32} {h : aH}
theorem c_parse6 (hr : w_hr z_D h) (n0 : 0 ≤ nd.toInt) (n10 : nd.toInt ≤ 10) (l0 : 0 ≤ len.toInt) (l60 : len.toInt ≤ 60) (gs : w_a h 13 = some (3, .inl sg)) (hK : ∀ (r : Int32) (H : aH), y_fr h H [1538, 1539, 1540, 7297, 7298] [58, 59, 60, 61, 62, 63] → r.toInt = pr_wr (y_N sg) len.toInt.toNat nd.toInt → (pr_sy (y_N sg) (pr_t len.toInt.toNat) nd.toInt).2 ≤ pr_t len.toInt.toNat → K0 (some (.int r)) H C S) : aOK s_P X (d + 6) a_m78 0 [some (.ref 14), some (.int len), some (.int nd), some (.ref 59), none] [] h C S K0 := by
  have c40 : ((Int8.ofInt 40).toInt32).toInt = 40 := by decide
  have tl := pr_t_le (len := len.toInt.toNat)
  -- the end: whole or not
  have T56 : ∀ {G : aH} {q : Nat} (b : Bool), y_fr h G [1538, 1539, 1540, 7297, 7298] [59, 60, 61, 62, 63] → tx_s nd G sg (pr_t len.toInt.toNat) q → (pr_sy (y_N sg) (pr_t len.toInt.toNat) nd.toInt).2 = q → pr_wh (y_N sg) (pr_t len.toInt.toNat) nd.toInt = b → aOK s_P X (d + 6) a_m78 56 [some (.ref 14), some (.int len), some (.int nd), some (.ref 59), none] [.int (y_01 b)] G C S K0 := by
    intro G q b e s hq hb
    obtain ⟨toI, atI, -, a1, a2, a3, a4, a5, a6, pt, t40⟩ := id s
    have f0 : y_fr G G [] [] := y_rf e.1
    have out : ∀ {H : aH} {r : Int32}, y_fr G H [] [] → r.toInt = pr_wr (y_N sg) len.toInt.toNat nd.toInt → K0 (some (.int r)) H C S := fun f er => hK _ _ (y_mo (y_sq e f rfl rfl) rfl rfl) er (by omega)
    cases b with
    | true =>
      have ew : pr_wr (y_N sg) len.toInt.toNat nd.toInt = if 40 < len.toInt.toNat then 40 else -1 := if_pos hb
      have T97 : ∀ {H : aH}, y_fr G H [] [] → ¬ (40 < len.toInt.toNat) → aOK s_P X (d + 6) a_m78 97 [some (.ref 14), some (.int len), some (.int nd), some (.ref 59), some (.int (y_01 true))] [] H C S K0 := by
        intro H f nl
        refine w_go z_hl [111] [] 30 f.1 ?_
        intro x hx _ _
        obtain rfl := y_fi ((y_fe f rfl).trans a2) hx
        intro H2 h2
        have f2 : y_fr G H2 [] [] := y_st f h2 (by repeat (first | exact w_nil | refine w_cons (Or.inl (y_m rfl)) ?_ | refine w_cons (Or.inr (by assumption)) ?_)) (by repeat (first | exact w_nil | refine w_cons (Or.inl (y_m rfl)) ?_ | refine w_cons (Or.inr (by assumption)) ?_))
        refine y_copy3 (o := 13) (dd := 58) (m := pr_t len.toInt.toNat) (n1 := 60) (n2 := 40) f2.1 a3 rfl rfl (by omega) (by omega) rfl rfl (by decide) (fun H3 f3 => ?_)
        show aOK s_P X (d + 6) a_m78 114 [some (.ref 14), some (.int len), some (.int nd), some (.ref 59), some (.int (y_01 true))] [] H3 C S K0
        have f4 : y_fr G H3 [] [58] := y_sq (y_mo f2 rfl rfl) f3 rfl rfl
        refine w_go z_hl [] [] 30 f3.1 ?_
        intro x hx x0 x40
        obtain rfl := y_fi ((y_fe f4 rfl).trans a2) hx
        refine ⟨rfl, y_zini x0 x40, fun H5 h5 => ?_⟩
        have f5 : y_fr H3 H5 [7297] [] := y_st (y_mo (y_rf f3.1) rfl rfl) h5 (by repeat (first | exact w_nil | refine w_cons (Or.inl (y_m rfl)) ?_ | refine w_cons (Or.inr (by assumption)) ?_)) (by repeat (first | exact w_nil | refine w_cons (Or.inl (y_m rfl)) ?_ | refine w_cons (Or.inr (by assumption)) ?_))
        refine hK _ H5 (y_sq (y_sq (y_mo e rfl rfl) f4 rfl rfl) f5 rfl rfl) ?_ (by omega)
        rw [ew, if_neg nl]
        decide
      refine w_go z_hl [97] [] 40 e.1 ?_
      refine ⟨fun _ => ⟨fun z => absurd z (by decide), fun _ => ?_⟩, fun z => absurd z (by decide)⟩
      intro x hx _ _
      obtain rfl := y_fi a2 hx
      refine ⟨fun z => fun H hH => ?_, fun z => fun H hH => ?_⟩
      · have y1 : len.toInt ≤ toI.toInt := (y_ci .le _ _).mp z
        exact T97 (y_st f0 hH (by repeat (first | exact w_nil | refine w_cons (Or.inl (y_m rfl)) ?_ | refine w_cons (Or.inr (by assumption)) ?_)) (by repeat (first | exact w_nil | refine w_cons (Or.inl (y_m rfl)) ?_ | refine w_cons (Or.inr (by assumption)) ?_))) (by omega)
      · have y1 : ¬ (len.toInt ≤ toI.toInt) := y_cif z
        have lt : 40 < len.toInt.toNat := by
          rcases Nat.lt_or_ge 40 len.toInt.toNat with w | w
          · exact w
          · have et : pr_t len.toInt.toNat = len.toInt.toNat := if_neg (by omega)
            omega
        have et : pr_t len.toInt.toNat = 40 := if_pos lt
        exact out (y_st f0 hH (by repeat (first | exact w_nil | refine w_cons (Or.inl (y_m rfl)) ?_ | refine w_cons (Or.inr (by assumption)) ?_)) (by repeat (first | exact w_nil | refine w_cons (Or.inl (y_m rfl)) ?_ | refine w_cons (Or.inr (by assumption)) ?_))) (by rw [ew, if_pos lt]; omega)
    | false =>
      have ew : pr_wr (y_N sg) len.toInt.toNat nd.toInt = (q : Nat) := by
        unfold pr_wr
        rw [if_neg (by rw [hb]; decide), hq]
      refine w_go z_hl [97] [] 40 e.1 ?_
      refine ⟨fun z => absurd z (by decide), fun _ => ?_⟩
      intro x hx _ _
      obtain rfl := y_fi a4 hx
      intro y hy _ _
      obtain rfl := y_fi a2 hy
      refine ⟨fun z => ⟨fun _ => fun H hH => ?_, fun z2 => absurd z2 (by decide)⟩, fun z => fun H hH => ?_⟩
      · have y1 : toI.toInt ≤ atI.toInt := (y_ci .ge _ _).mp z
        exact out (y_st f0 hH (by repeat (first | exact w_nil | refine w_cons (Or.inl (y_m rfl)) ?_ | refine w_cons (Or.inr (by assumption)) ?_)) (by repeat (first | exact w_nil | refine w_cons (Or.inl (y_m rfl)) ?_ | refine w_cons (Or.inr (by assumption)) ?_))) (by rw [ew]; omega)
      · exact out (y_st f0 hH (by repeat (first | exact w_nil | refine w_cons (Or.inl (y_m rfl)) ?_ | refine w_cons (Or.inr (by assumption)) ?_)) (by repeat (first | exact w_nil | refine w_cons (Or.inl (y_m rfl)) ?_ | refine w_cons (Or.inr (by assumption)) ?_))) (by rw [ew]; exact a5)
  have T37 : ∀ {G : aH} {q : Nat} (b : Bool), y_fr h G [1538, 1539, 1540, 7297, 7298] [59, 60, 61, 62, 63] → tx_s nd G sg (pr_t len.toInt.toNat) q → pr_sy (y_N sg) (pr_t len.toInt.toNat) nd.toInt = (b, q) → aOK s_P X (d + 6) a_m78 37 [some (.ref 14), some (.int len), some (.int nd), some (.ref 59), none] [.int (y_01 b)] G C S K0 := by
    intro G q b e s hs
    obtain ⟨toI, atI, -, a1, a2, a3, a4, a5, a6, pt, t40⟩ := id s
    have f0 : y_fr G G [] [] := y_rf e.1
    cases b with
    | true =>
      refine w_go z_hl [56] [] 40 e.1 ?_
      refine ⟨fun z => absurd z (by decide), fun _ => ?_⟩
      intro x hx _ _
      obtain rfl := y_fi a4 hx
      intro y hy _ _
      obtain rfl := y_fi a2 hy
      refine ⟨fun z => fun H hH => ?_, fun z => fun H hH => ?_⟩
      · have y1 : atI.toInt ≠ toI.toInt := (y_ci .ne _ _).mp z
        have f : y_fr G H [] [] := y_st f0 hH (by repeat (first | exact w_nil | refine w_cons (Or.inl (y_m rfl)) ?_ | refine w_cons (Or.inr (by assumption)) ?_)) (by repeat (first | exact w_nil | refine w_cons (Or.inl (y_m rfl)) ?_ | refine w_cons (Or.inr (by assumption)) ?_))
        refine T56 false (y_sq e f rfl rfl) (tx_s_fr s f rfl rfl) (by rw [hs]) ?_
        unfold pr_wh
        rw [hs]
        show (true && decide (q = pr_t len.toInt.toNat)) = false
        rw [decide_eq_false (by omega)]
        rfl
      · have y1 : ¬ (atI.toInt ≠ toI.toInt) := y_cif z
        have f : y_fr G H [] [] := y_st f0 hH (by repeat (first | exact w_nil | refine w_cons (Or.inl (y_m rfl)) ?_ | refine w_cons (Or.inr (by assumption)) ?_)) (by repeat (first | exact w_nil | refine w_cons (Or.inl (y_m rfl)) ?_ | refine w_cons (Or.inr (by assumption)) ?_))
        refine T56 true (y_sq e f rfl rfl) (tx_s_fr s f rfl rfl) (by rw [hs]) ?_
        unfold pr_wh
        rw [hs]
        show (true && decide (q = pr_t len.toInt.toNat)) = true
        rw [decide_eq_true (by omega)]
        rfl
    | false =>
      refine w_go z_hl [56] [] 40 e.1 ?_
      refine ⟨fun _ => fun H hH => ?_, fun z => absurd z (by decide)⟩
      have f : y_fr G H [] [] := y_st f0 hH (by repeat (first | exact w_nil | refine w_cons (Or.inl (y_m rfl)) ?_ | refine w_cons (Or.inr (by assumption)) ?_)) (by repeat (first | exact w_nil | refine w_cons (Or.inl (y_m rfl)) ?_ | refine w_cons (Or.inr (by assumption)) ?_))
      refine T56 false (y_sq e f rfl rfl) (tx_s_fr s f rfl rfl) (by rw [hs]) ?_
      unfold pr_wh
      rw [hs]
      rfl
  have T29n : ∀ {G : aH} {q : Nat}, y_fr h G [1538, 1539, 1540, 7297, 7298] [59, 60, 61, 62, 63] → tx_s nd G sg (pr_t len.toInt.toNat) q → pr_sy (y_N sg) (pr_t len.toInt.toNat) nd.toInt = (false, q) → aOK s_P X (d + 6) a_m78 29 [some (.ref 14), some (.int len), some (.int nd), some (.ref 59), none] [.int (y_01 false)] G C S K0 := by
    intro G q e s hs
    refine w_go z_hl [56] [] 40 e.1 ?_
    refine ⟨fun _ => fun H hH => ?_, fun z => absurd z (by decide)⟩
    have f : y_fr G H [] [] := y_st (y_rf e.1) hH (by repeat (first | exact w_nil | refine w_cons (Or.inl (y_m rfl)) ?_ | refine w_cons (Or.inr (by assumption)) ?_)) (by repeat (first | exact w_nil | refine w_cons (Or.inl (y_m rfl)) ?_ | refine w_cons (Or.inr (by assumption)) ?_))
    refine T56 false (y_sq e f rfl rfl) (tx_s_fr s f rfl rfl) (by rw [hs]) ?_
    unfold pr_wh
    rw [hs]
    rfl
  have T29 : ∀ {G : aH} {q k : Nat} {rel : Int32}, y_fr h G [1538, 1539, 1540, 7297, 7298] [59, 60, 61, 62, 63] → tx_s nd G sg (pr_t len.toInt.toNat) (q + 1) → pr_tm (y_N sg) (pr_t len.toInt.toNat) nd.toInt 0 = (true, q, k) → w_f G 7298 = some (.int rel) → ((pr_k (y_N sg) (pr_t len.toInt.toNat) q = 126 ∧ k = 1) ∧ rel.toInt = 126) ∨ (¬ (pr_k (y_N sg) (pr_t len.toInt.toNat) q = 126 ∧ k = 1) ∧ (pr_k (y_N sg) (pr_t len.toInt.toNat) q = 61 ∨ pr_k (y_N sg) (pr_t len.toInt.toNat) q = 60 ∨ pr_k (y_N sg) (pr_t len.toInt.toNat) q = 62) ∧ rel.toInt ≠ 126) → aOK s_P X (d + 6) a_m78 29 [some (.ref 14), some (.int len), some (.int nd), some (.ref 59), none] [.int (y_01 true)] G C S K0 := by
    intro G q k rel e s ht gr hw
    refine w_go z_hl [56] [90] 40 e.1 ?_
    refine ⟨fun z => absurd z (by decide), fun _ => fun H hH => ?_⟩
    have f : y_fr G H [] [] := y_st (y_rf e.1) hH (by repeat (first | exact w_nil | refine w_cons (Or.inl (y_m rfl)) ?_ | refine w_cons (Or.inr (by assumption)) ?_)) (by repeat (first | exact w_nil | refine w_cons (Or.inl (y_m rfl)) ?_ | refine w_cons (Or.inr (by assumption)) ?_))
    refine c_second6 (d := d) n0 n10 (tx_s_fr s f rfl rfl) ((y_fe f rfl).trans gr) (fun b r k2 H2 f2 s3 h1 h2 => ⟨fun n e => (by cases e), ?_⟩)
    refine T37 b (y_sq (y_sq e f rfl rfl) f2 rfl rfl) s3 ?_
    rcases hw with ⟨⟨w1, w2⟩, w3⟩ | ⟨w1, w2, w3⟩
    · rw [w2] at ht
      exact pr_sy_b ht w1 (h1 w3)
    · exact pr_sy_c ht w1 w2 (h2 w3)
  have T24 : ∀ {G : aH} {fr : List Int32}, y_fr h G [1538, 1539, 1540, 7297, 7298] [59, 60, 61, 62, 63] → tx_s nd G sg (pr_t len.toInt.toNat) 0 → w_a G 59 = some (0, .inl fr) → (∀ j, j < 4 → y_N fr j = -1) → aOK s_P X (d + 6) a_m78 24 [some (.ref 14), some (.int len), some (.int nd), some (.ref 59), none] [] G C S K0 := by
    intro G fr e s g hf
    refine w_go z_hl [56] [80] 40 e.1 ?_
    intro H hH
    have f : y_fr G H [] [] := y_st (y_rf e.1) hH (by repeat (first | exact w_nil | refine w_cons (Or.inl (y_m rfl)) ?_ | refine w_cons (Or.inr (by assumption)) ?_)) (by repeat (first | exact w_nil | refine w_cons (Or.inl (y_m rfl)) ?_ | refine w_cons (Or.inr (by assumption)) ?_))
    refine c_first6 (d := d) n0 n10 (tx_s_fr s f rfl rfl) ((y_ae f rfl).trans g) (hf 0 (by decide)) (hf 1 (by decide)) (fun q k H2 rel fr' f2 s3 ht gr g3 hw => ⟨fun n e => (by cases e), ?_⟩) (fun q H2 f2 s3 hs => ⟨fun n e => (by cases e), ?_⟩)
    · exact T29 (y_sq (y_sq e f rfl rfl) f2 rfl rfl) s3 ht gr hw
    · exact T29n (y_sq (y_sq e f rfl rfl) f2 rfl rfl) s3 hs
  refine w_go z_hl [56] [79] 60 hr ?_
  refine ⟨rfl, y_zini (by decide) (by decide), ?_⟩
  refine ⟨fun z => ⟨rfl, y_zini (by decide) (by decide), rfl, y_zini n0 n10, fun H hH => ?_⟩, fun z => ⟨rfl, y_zini l0 ?_, rfl, y_zini n0 n10, fun H hH => ?_⟩⟩
  · have y1 : ((Int8.ofInt 40).toInt32).toInt < len.toInt := (y_ci .gt _ _).mp z
    rw [c40] at y1
    have et : pr_t len.toInt.toNat = 40 := if_pos (by omega)
    have f : y_fr h H [1538, 1539, 1540] [] := y_st (y_mo (y_rf hr) rfl rfl) hH (by repeat (first | exact w_nil | refine w_cons (Or.inl (y_m rfl)) ?_ | refine w_cons (Or.inr (by assumption)) ?_)) (by repeat (first | exact w_nil | refine w_cons (Or.inl (y_m rfl)) ?_ | refine w_cons (Or.inr (by assumption)) ?_))
    have s : tx_s nd H sg (pr_t len.toInt.toNat) 0 := ⟨_, _, f.1, (y_ae f rfl).trans gs, hH.2.1 1539 _ rfl, by rw [et]; exact c40, hH.2.1 1538 _ rfl, rfl, hH.2.1 1540 _ rfl, Nat.zero_le _, tl.1⟩
    refine c_clear6 f.1 (fun H2 fr f2 g2 hf => ⟨fun n e => (by cases e), ?_⟩)
    exact T24 (y_sq (y_mo f rfl rfl) f2 rfl rfl) (tx_s_fr s f2 rfl rfl) g2 hf
  · have y1 : ¬ (((Int8.ofInt 40).toInt32).toInt < len.toInt) := y_cif z
    rw [c40] at y1
    show len.toInt ≤ 40
    omega
  · have y1 : ¬ (((Int8.ofInt 40).toInt32).toInt < len.toInt) := y_cif z
    rw [c40] at y1
    have et : pr_t len.toInt.toNat = len.toInt.toNat := if_neg (by omega)
    have f : y_fr h H [1538, 1539, 1540] [] := y_st (y_mo (y_rf hr) rfl rfl) hH (by repeat (first | exact w_nil | refine w_cons (Or.inl (y_m rfl)) ?_ | refine w_cons (Or.inr (by assumption)) ?_)) (by repeat (first | exact w_nil | refine w_cons (Or.inl (y_m rfl)) ?_ | refine w_cons (Or.inr (by assumption)) ?_))
    have s : tx_s nd H sg (pr_t len.toInt.toNat) 0 := ⟨_, _, f.1, (y_ae f rfl).trans gs, hH.2.1 1539 _ rfl, by rw [et]; omega, hH.2.1 1538 _ rfl, rfl, hH.2.1 1540 _ rfl, Nat.zero_le _, tl.1⟩
    refine c_clear6 f.1 (fun H2 fr f2 g2 hf => ⟨fun n e => (by cases e), ?_⟩)
    exact T24 (y_sq (y_mo f rfl rfl) f2 rfl rfl) (tx_s_fr s f2 rfl rfl) g2 hf
end PPS6
end PT33icn
section PT33ico
/-! ===== v21: parseEvent of the class with saying 7 (laid by wip/tools/mk21c.py) ===== -/
section PEV7
variable {X : aX} {C S d : Nat} {K0 : Option Value → aH → Nat → Nat → Prop} {sg : List Int32} {t : Nat} {nd : Int32}
theorem c_evl7 (n0 : 0 ≤ nd.toInt) (n10 : nd.toInt ≤ 10) {pI : Int32} {pa : Nat} (hpa : pI.toInt = pa) (pa4 : pa < 4) : ∀ (m : Nat) (h : aH) (p : Nat) (oI : Int32) (o : Nat) (o4 : Option Value), tx_s nd h sg t p → oI.toInt = o → o ≤ 5 → t - p ≤ m → (∀ (b : Bool) (q : Nat) (H : aH), y_fr h H [1538] [67, 68] → tx_s nd H sg t q → pr_E (y_N sg) t nd.toInt false p o = (b, q) → K0 (some (.int (y_01 b))) H C S) → aOK s_P X (d + 2) a_m87 12 [some (.ref 14), some (.ref 66), some (.int pI), some (.int oI), o4] [] h C S K0 := by
  have c33 : ((Int8.ofInt 33).toInt32).toInt = 33 := by decide
  have c38 : ((Int8.ofInt 38).toInt32).toInt = 38 := by decide
  have c40 : ((Int8.ofInt 40).toInt32).toInt = 40 := by decide
  have c97 : ((Int8.ofInt 97).toInt32).toInt = 97 := by decide
  have c124 : ((Int8.ofInt 124).toInt32).toInt = 124 := by decide
  have c5 : (Int32.ofInt 5).toInt = 5 := by decide
  have z0 : (0 : Int32).toInt = 0 := by decide
  have cn : ((Int8.ofInt 97).toInt32 + nd).toInt = 97 + nd.toInt := by
    rw [Int32.toInt_add, c97]
    exact Int.bmod_eq_of_le (by omega) (by omega)
  intro m
  induction m with
  | zero =>
    intro h p oI o o4 s ho o5 hm hK
    obtain ⟨toI, atI, hr, a1, a2, a3, a4, a5, a6, pt, t40⟩ := id s
    refine w_go z_hl [12] [82] 30 hr ?_
    intro x hx _ _
    obtain rfl := y_fi a4 hx
    intro y hy _ _
    obtain rfl := y_fi a2 hy
    refine ⟨fun _ => ⟨by decide, fun H hH => ?_⟩, fun z => ?_⟩
    · have f : y_fr h H [] [] := y_st (y_rf hr) hH (by repeat (first | exact w_nil | refine w_cons (Or.inl (y_m rfl)) ?_ | refine w_cons (Or.inr (by assumption)) ?_)) (by repeat (first | exact w_nil | refine w_cons (Or.inl (y_m rfl)) ?_ | refine w_cons (Or.inr (by assumption)) ?_))
      have k0 : pr_k (y_N sg) t p = 0 := if_neg (by omega)
      exact hK false p H (y_mo f rfl rfl) (tx_s_fr s f rfl rfl) (pr_bad (by omega) (by omega) (fun w => by have := w.1; omega) (fun w => by have := w.1; omega))
    · have y1 : ¬ (toI.toInt ≤ atI.toInt) := y_cif z
      exfalso
      omega
  | succ m ih =>
    intro h p oI o o4 s ho o5 hm hK
    obtain ⟨toI, atI, hr, a1, a2, a3, a4, a5, a6, pt, t40⟩ := id s
    -- on to the next sign
    have T189 : ∀ {G : aH} {oJ : Int32} {q o' : Nat} {p4 : Option Value}, y_fr h G [1538] [67, 68] → tx_s nd G sg t q → p < q → q < t → oJ.toInt = o' → o' ≤ 5 → pr_E (y_N sg) t nd.toInt false p o = pr_E (y_N sg) t nd.toInt false (q + 1) o' → aOK s_P X (d + 2) a_m87 189 [some (.ref 14), some (.ref 66), some (.int pI), some (.int oJ), p4] [] G C S K0 := by
      intro G oJ q o' p4 e s2 pq qt hoJ o5' hE
      obtain ⟨toJ, atJ, -, b1, b2, b3, b4, b5, b6, -, -⟩ := id s2
      have inc : (atJ + Int32.ofInt 1).toInt = ((q + 1 : Nat) : Int) := by rw [y_inc (by omega), b5]; rfl
      refine w_go z_hl [12] [82] 30 e.1 ?_
      intro x hx _ _
      obtain rfl := y_fi b4 hx
      refine ⟨rfl, y_zini (by show 0 ≤ (atJ + Int32.ofInt 1).toInt; omega) (by show (atJ + Int32.ofInt 1).toInt ≤ 40; omega), fun H hH => ?_⟩
      have f : y_fr G H [1538] [] := y_st (y_mo (y_rf e.1) rfl rfl) hH (by repeat (first | exact w_nil | refine w_cons (Or.inl (y_m rfl)) ?_ | refine w_cons (Or.inr (by assumption)) ?_)) (by repeat (first | exact w_nil | refine w_cons (Or.inl (y_m rfl)) ?_ | refine w_cons (Or.inr (by assumption)) ?_))
      exact ih H (q + 1) _ o' _ (tx_s_at s2 f rfl (hH.2.1 1538 _ rfl) inc (by omega)) hoJ o5' (by omega) (fun b r H' f1 f2 f3 => hK b r H' (y_sq (y_sq e f rfl rfl) f1 rfl rfl) f2 (hE.trans f3))
    have T143 : ∀ {G : aH} {oJ cI : Int32} {q o' : Nat}, y_fr h G [1538] [67, 68] → tx_s nd G sg t q → p < q → q < t → oJ.toInt = o' → o' ≤ 5 → pr_E (y_N sg) t nd.toInt false p o = pr_E (y_N sg) t nd.toInt false (q + 1) o' → aOK s_P X (d + 2) a_m87 143 [some (.ref 14), some (.ref 66), some (.int pI), some (.int oJ), some (.int cI)] [] G C S K0 := by
      intro G oJ cI q o' e s2 pq qt hoJ o5' hE
      have f0 : y_fr G G [] [] := y_rf e.1
      have T168 : ∀ {G2 : aH}, y_fr G G2 [] [67] → aOK s_P X (d + 2) a_m87 168 [some (.ref 14), some (.ref 66), some (.int pI), some (.int oJ), some (.int cI)] [] G2 C S K0 := by
        intro G2 f
        refine w_go z_hl [189] [82] 40 f.1 ?_
        refine ⟨⟨by omega, by omega⟩, fun l hl len bb => ⟨fun _ => ⟨⟨by omega, by omega⟩, y_l32 _, fun H hH => ?_⟩, fun _ => ⟨⟨by omega, by omega⟩, y_l32 _, fun H hH => ?_⟩⟩⟩
        · have f2 : y_fr G H [] [67, 68] := y_st (y_mo f rfl rfl) hH (by repeat (first | exact w_nil | refine w_cons (Or.inl (y_m rfl)) ?_ | refine w_cons (Or.inr (by assumption)) ?_)) (by repeat (first | exact w_nil | refine w_cons (Or.inl (y_m rfl)) ?_ | refine w_cons (Or.inr (by assumption)) ?_))
          exact T189 (y_sq e (y_mo f2 rfl rfl : y_fr G H [1538] [67, 68]) rfl rfl) (tx_s_fr s2 f2 rfl rfl) pq qt hoJ o5' hE
        · have f2 : y_fr G H [] [67, 68] := y_st (y_mo f rfl rfl) hH (by repeat (first | exact w_nil | refine w_cons (Or.inl (y_m rfl)) ?_ | refine w_cons (Or.inr (by assumption)) ?_)) (by repeat (first | exact w_nil | refine w_cons (Or.inl (y_m rfl)) ?_ | refine w_cons (Or.inr (by assumption)) ?_))
          exact T189 (y_sq e (y_mo f2 rfl rfl : y_fr G H [1538] [67, 68]) rfl rfl) (tx_s_fr s2 f2 rfl rfl) pq qt hoJ o5' hE
      refine w_go z_hl [168, 189] [82] 40 e.1 ?_
      refine ⟨fun _ => fun H hH => ?_, fun _ => ⟨⟨by omega, by omega⟩, fun l hl len bb => ⟨fun _ => ⟨⟨by omega, by omega⟩, y_l32 _, fun H hH => ?_⟩, fun _ => ⟨⟨by omega, by omega⟩, y_l32 _, fun H hH => ?_⟩⟩⟩⟩
      · have f2 : y_fr G H [] [] := y_st f0 hH (by repeat (first | exact w_nil | refine w_cons (Or.inl (y_m rfl)) ?_ | refine w_cons (Or.inr (by assumption)) ?_)) (by repeat (first | exact w_nil | refine w_cons (Or.inl (y_m rfl)) ?_ | refine w_cons (Or.inr (by assumption)) ?_))
        exact T189 (y_sq e f2 rfl rfl) (tx_s_fr s2 f2 rfl rfl) pq qt hoJ o5' hE
      · exact T168 (y_st (y_mo f0 rfl rfl) hH (by repeat (first | exact w_nil | refine w_cons (Or.inl (y_m rfl)) ?_ | refine w_cons (Or.inr (by assumption)) ?_)) (by repeat (first | exact w_nil | refine w_cons (Or.inl (y_m rfl)) ?_ | refine w_cons (Or.inr (by assumption)) ?_)))
      · exact T168 (y_st (y_mo f0 rfl rfl) hH (by repeat (first | exact w_nil | refine w_cons (Or.inl (y_m rfl)) ?_ | refine w_cons (Or.inr (by assumption)) ?_)) (by repeat (first | exact w_nil | refine w_cons (Or.inl (y_m rfl)) ?_ | refine w_cons (Or.inr (by assumption)) ?_)))
    have T117 : ∀ {G : aH} {oJ cI : Int32} {q o' : Nat} {p4 : Option Value}, y_fr h G [1538] [] → tx_s nd G sg t q → p < q → oJ.toInt = o' → o' ≤ 5 → cI.toInt = pr_k (y_N sg) t q → pr_E (y_N sg) t nd.toInt false p o = pr_E (y_N sg) t nd.toInt true q o' → ¬ (pr_k (y_N sg) t q = 41 ∧ 0 < o') → aOK s_P X (d + 2) a_m87 117 [some (.ref 14), some (.ref 66), some (.int pI), some (.int oJ), p4] [.int cI] G C S K0 := by
      intro G oJ cI q o' p4 e s2 pq hoJ o5' hc hE h41
      have q40 := (tx_s_hr s2).2.1
      have f0 : y_fr G G [] [] := y_rf e.1
      refine w_go z_hl [143] [82] 40 e.1 ?_
      refine ⟨fun z => fun H hH => ?_, fun z => ⟨fun z2 => fun H hH => ?_, fun z2 => ⟨fun z3 => ⟨by decide, fun H hH => ?_⟩, fun z3 => ⟨by decide, fun H hH => ?_⟩⟩⟩⟩
      · have y1 : cI.toInt = ((Int8.ofInt 38).toInt32).toInt := (y_ci .eq _ _).mp z
        rw [c38, hc] at y1
        have f2 : y_fr G H [] [] := y_st f0 hH (by repeat (first | exact w_nil | refine w_cons (Or.inl (y_m rfl)) ?_ | refine w_cons (Or.inr (by assumption)) ?_)) (by repeat (first | exact w_nil | refine w_cons (Or.inl (y_m rfl)) ?_ | refine w_cons (Or.inr (by assumption)) ?_))
        exact T143 (y_mo (y_sq e f2 rfl rfl) rfl rfl) (tx_s_fr s2 f2 rfl rfl) pq (pr_k_t (by decide) y1) hoJ o5' (hE.trans (pr_op (by omega) (Or.inl y1)))
      · have y1 : cI.toInt = ((Int8.ofInt 124).toInt32).toInt := (y_ci .eq _ _).mp z2
        rw [c124, hc] at y1
        have f2 : y_fr G H [] [] := y_st f0 hH (by repeat (first | exact w_nil | refine w_cons (Or.inl (y_m rfl)) ?_ | refine w_cons (Or.inr (by assumption)) ?_)) (by repeat (first | exact w_nil | refine w_cons (Or.inl (y_m rfl)) ?_ | refine w_cons (Or.inr (by assumption)) ?_))
        exact T143 (y_mo (y_sq e f2 rfl rfl) rfl rfl) (tx_s_fr s2 f2 rfl rfl) pq (pr_k_t (by decide) y1) hoJ o5' (hE.trans (pr_op (by omega) (Or.inr y1)))
      · have y1 : ¬ (cI.toInt = ((Int8.ofInt 38).toInt32).toInt) := y_cif z
        have y2 : ¬ (cI.toInt = ((Int8.ofInt 124).toInt32).toInt) := y_cif z2
        have y3 : oJ.toInt ≠ (0 : Int32).toInt := (y_ci .ne _ _).mp z3
        rw [c38, hc] at y1
        rw [c124, hc] at y2
        rw [z0] at y3
        have f2 : y_fr G H [] [] := y_st f0 hH (by repeat (first | exact w_nil | refine w_cons (Or.inl (y_m rfl)) ?_ | refine w_cons (Or.inr (by assumption)) ?_)) (by repeat (first | exact w_nil | refine w_cons (Or.inl (y_m rfl)) ?_ | refine w_cons (Or.inr (by assumption)) ?_))
        refine hK false q H (y_mo (y_sq e f2 rfl rfl) rfl rfl) (tx_s_fr s2 f2 rfl rfl) (hE.trans ?_)
        rw [pr_end (by omega) h41 y1 y2, decide_eq_false (by omega)]
      · have y1 : ¬ (cI.toInt = ((Int8.ofInt 38).toInt32).toInt) := y_cif z
        have y2 : ¬ (cI.toInt = ((Int8.ofInt 124).toInt32).toInt) := y_cif z2
        have y3 : ¬ (oJ.toInt ≠ (0 : Int32).toInt) := y_cif z3
        rw [c38, hc] at y1
        rw [c124, hc] at y2
        rw [z0] at y3
        have f2 : y_fr G H [] [] := y_st f0 hH (by repeat (first | exact w_nil | refine w_cons (Or.inl (y_m rfl)) ?_ | refine w_cons (Or.inr (by assumption)) ?_)) (by repeat (first | exact w_nil | refine w_cons (Or.inl (y_m rfl)) ?_ | refine w_cons (Or.inr (by assumption)) ?_))
        refine hK true q H (y_mo (y_sq e f2 rfl rfl) rfl rfl) (tx_s_fr s2 f2 rfl rfl) (hE.trans ?_)
        rw [pr_end (by omega) h41 y1 y2, decide_eq_true (by omega)]
    have T112 : ∀ {G : aH} {oJ : Int32} {q o' : Nat} {p3 p4 : Option Value}, y_fr h G [1538] [] → tx_s nd G sg t q → p < q → oJ.toInt = o' → o' ≤ 5 → pr_E (y_N sg) t nd.toInt false p o = pr_E (y_N sg) t nd.toInt true q o' → ¬ (pr_k (y_N sg) t q = 41 ∧ 0 < o') → aOK s_P X (d + 2) a_m87 112 [some (.ref 14), some (.ref 66), some (.int pI), p3, p4] [.int oJ] G C S K0 := by
      intro G oJ q o' p3 p4 e s2 pq hoJ o5' hE h41
      refine w_go z_hl [143] [82] 20 e.1 ?_
      intro H hH
      have f2 : y_fr G H [] [] := y_st (y_rf e.1) hH (by repeat (first | exact w_nil | refine w_cons (Or.inl (y_m rfl)) ?_ | refine w_cons (Or.inr (by assumption)) ?_)) (by repeat (first | exact w_nil | refine w_cons (Or.inl (y_m rfl)) ?_ | refine w_cons (Or.inr (by assumption)) ?_))
      refine c_lkT (tx_s_fr s2 f2 rfl rfl) (fun r H2 f3 er => ⟨fun n e => (by cases e), ?_⟩)
      exact T117 (y_sq (y_sq e f2 rfl rfl) f3 rfl rfl) (tx_s_fr (tx_s_fr s2 f2 rfl rfl) f3 rfl rfl) pq hoJ o5' er hE h41
    have T97 : ∀ {G : aH} {cI : Int32}, y_fr h G [] [] → p < t → 97 ≤ pr_k (y_N sg) t p → pr_k (y_N sg) t p < 97 + nd.toInt → aOK s_P X (d + 2) a_m87 97 [some (.ref 14), some (.ref 66), some (.int pI), some (.int oI), some (.int cI)] [] G C S K0 := by
      intro G cI e ptt h97 h98
      have s2 := tx_s_fr s e rfl rfl
      have inc : (atI + Int32.ofInt 1).toInt = ((p + 1 : Nat) : Int) := by rw [y_inc (by omega), a5]; rfl
      refine w_go z_hl [12] [88] 30 e.1 ?_
      intro x hx _ _
      obtain rfl := y_fi ((y_fe e rfl).trans a4) hx
      refine ⟨rfl, y_zini (by show 0 ≤ (atI + Int32.ofInt 1).toInt; omega) (by show (atI + Int32.ofInt 1).toInt ≤ 40; omega), fun H hH => ?_⟩
      have f : y_fr G H [1538] [] := y_st (y_mo (y_rf e.1) rfl rfl) hH (by repeat (first | exact w_nil | refine w_cons (Or.inl (y_m rfl)) ?_ | refine w_cons (Or.inr (by assumption)) ?_)) (by repeat (first | exact w_nil | refine w_cons (Or.inl (y_m rfl)) ?_ | refine w_cons (Or.inr (by assumption)) ?_))
      have s3 := tx_s_at s2 f rfl (hH.2.1 1538 _ rfl) inc (by omega)
      obtain ⟨k1, k2, k3, k4, k5⟩ := pr_c_p (T := y_N sg) (n := nd.toInt) t40 o (p + 1) (by omega)
      refine c_closeBr (d := d) s3 ho o5 (fun r H2 f2 s4 er => ⟨fun n e => (by cases e), ?_⟩)
      exact T112 (y_sq (y_sq (y_mo e rfl rfl) f rfl rfl) f2 rfl rfl) s4 (by omega) er (by omega) ((pr_let (by omega) h97 h98).trans k4) k5
    have T76 : ∀ {G : aH} {cI : Int32}, y_fr h G [] [] → p < t → cI.toInt = pr_k (y_N sg) t p → pr_k (y_N sg) t p ≠ 33 → ¬ (pr_k (y_N sg) t p = 40 ∧ o < 5) → aOK s_P X (d + 2) a_m87 76 [some (.ref 14), some (.ref 66), some (.int pI), some (.int oI), some (.int cI)] [] G C S K0 := by
      intro G cI e ptt hc h33 h40
      have bad : ∀ {H : aH}, y_fr h H [] [] → ¬ (97 ≤ pr_k (y_N sg) t p ∧ pr_k (y_N sg) t p < 97 + nd.toInt) → K0 (some (.int (y_01 false))) H C S := fun f w => hK false p _ (y_mo f rfl rfl) (tx_s_fr s f rfl rfl) (pr_bad (by omega) h33 h40 w)
      refine w_go z_hl [97] [88] 30 e.1 ?_
      refine ⟨fun z => ⟨by decide, fun H hH => bad (y_st e hH (by repeat (first | exact w_nil | refine w_cons (Or.inl (y_m rfl)) ?_ | refine w_cons (Or.inr (by assumption)) ?_)) (by repeat (first | exact w_nil | refine w_cons (Or.inl (y_m rfl)) ?_ | refine w_cons (Or.inr (by assumption)) ?_))) (fun w => ?_)⟩, fun z => ?_⟩
      · have y1 : cI.toInt < ((Int8.ofInt 97).toInt32).toInt := (y_ci .lt _ _).mp z
        rw [c97, hc] at y1
        have := w.1
        omega
      · have y1 : ¬ (cI.toInt < ((Int8.ofInt 97).toInt32).toInt) := y_cif z
        rw [c97, hc] at y1
        intro x hx _ _
        obtain rfl := y_fi ((y_fe e rfl).trans a6) hx
        refine ⟨fun z2 => fun H hH => ?_, fun z2 => ⟨by decide, fun H hH => bad (y_st e hH (by repeat (first | exact w_nil | refine w_cons (Or.inl (y_m rfl)) ?_ | refine w_cons (Or.inr (by assumption)) ?_)) (by repeat (first | exact w_nil | refine w_cons (Or.inl (y_m rfl)) ?_ | refine w_cons (Or.inr (by assumption)) ?_))) (fun w => ?_)⟩⟩
        · have y2 : cI.toInt < ((Int8.ofInt 97).toInt32 + nd).toInt := (y_ci .lt _ _).mp z2
          rw [cn, hc] at y2
          exact T97 (y_st e hH (by repeat (first | exact w_nil | refine w_cons (Or.inl (y_m rfl)) ?_ | refine w_cons (Or.inr (by assumption)) ?_)) (by repeat (first | exact w_nil | refine w_cons (Or.inl (y_m rfl)) ?_ | refine w_cons (Or.inr (by assumption)) ?_))) ptt (by omega) y2
        · have y2 : ¬ (cI.toInt < ((Int8.ofInt 97).toInt32 + nd).toInt) := y_cif z2
          rw [cn, hc] at y2
          exact y2 w.2
    have T48 : ∀ {G : aH} {cI : Int32} (b : Bool), y_fr h G [] [] → p < t → cI.toInt = (if b then 40 else 33) → pr_E (y_N sg) t nd.toInt false p o = pr_E (y_N sg) t nd.toInt false (p + 1) (o + (if b then 1 else 0)) → o + (if b then 1 else 0) ≤ 5 → aOK s_P X (d + 2) a_m87 48 [some (.ref 14), some (.ref 66), some (.int pI), some (.int oI), some (.int cI)] [] G C S K0 := by
      intro G cI b e ptt hc hE o5'
      have s2 := tx_s_fr s e rfl rfl
      have inc : (atI + Int32.ofInt 1).toInt = ((p + 1 : Nat) : Int) := by rw [y_inc (by omega), a5]; rfl
      cases b with
      | true =>
        have hc' : cI.toInt = 40 := hc
        have ino : (oI + Int32.ofInt 1).toInt = ((o + 1 : Nat) : Int) := by rw [y_inc (by omega), ho]; rfl
        have o6 : o + 1 ≤ 5 := o5'
        refine w_go z_hl [12] [88] 40 e.1 ?_
        refine ⟨fun z => ?_, fun _ => ?_⟩
        · have y1 : cI.toInt ≠ ((Int8.ofInt 40).toInt32).toInt := (y_ci .ne _ _).mp z
          rw [c40] at y1
          exact absurd hc' y1
        · intro x hx _ _
          obtain rfl := y_fi ((y_fe e rfl).trans a4) hx
          refine ⟨rfl, y_zini (by show 0 ≤ (atI + Int32.ofInt 1).toInt; omega) (by show (atI + Int32.ofInt 1).toInt ≤ 40; omega), fun H hH => ?_⟩
          have f : y_fr G H [1538] [] := y_st (y_mo (y_rf e.1) rfl rfl) hH (by repeat (first | exact w_nil | refine w_cons (Or.inl (y_m rfl)) ?_ | refine w_cons (Or.inr (by assumption)) ?_)) (by repeat (first | exact w_nil | refine w_cons (Or.inl (y_m rfl)) ?_ | refine w_cons (Or.inr (by assumption)) ?_))
          exact ih H (p + 1) _ (o + 1) _ (tx_s_at s2 f rfl (hH.2.1 1538 _ rfl) inc (by omega)) ino o6 (by omega) (fun b r H' f1 f2 f3 => hK b r H' (y_sq (y_mo (y_sq (y_mo e rfl rfl) f rfl rfl : y_fr h H [1538] []) rfl rfl) f1 rfl rfl) f2 (hE.trans f3))
      | false =>
        have hc' : cI.toInt = 33 := hc
        have ino : (oI + Int32.ofInt 0).toInt = (o : Nat) := by rw [show Int32.ofInt 0 = (0 : Int32) by decide, Int32.add_zero]; exact ho
        refine w_go z_hl [12] [88] 40 e.1 ?_
        refine ⟨fun _ => ?_, fun z => ?_⟩
        · intro x hx _ _
          obtain rfl := y_fi ((y_fe e rfl).trans a4) hx
          refine ⟨rfl, y_zini (by show 0 ≤ (atI + Int32.ofInt 1).toInt; omega) (by show (atI + Int32.ofInt 1).toInt ≤ 40; omega), fun H hH => ?_⟩
          have f : y_fr G H [1538] [] := y_st (y_mo (y_rf e.1) rfl rfl) hH (by repeat (first | exact w_nil | refine w_cons (Or.inl (y_m rfl)) ?_ | refine w_cons (Or.inr (by assumption)) ?_)) (by repeat (first | exact w_nil | refine w_cons (Or.inl (y_m rfl)) ?_ | refine w_cons (Or.inr (by assumption)) ?_))
          exact ih H (p + 1) _ o _ (tx_s_at s2 f rfl (hH.2.1 1538 _ rfl) inc (by omega)) ino o5 (by omega) (fun b r H' f1 f2 f3 => hK b r H' (y_sq (y_mo (y_sq (y_mo e rfl rfl) f rfl rfl : y_fr h H [1538] []) rfl rfl) f1 rfl rfl) f2 (hE.trans f3))
        · have y1 : ¬ (cI.toInt ≠ ((Int8.ofInt 40).toInt32).toInt) := y_cif z
          rw [c40] at y1
          exfalso
          omega
    have T27 : ∀ {G : aH} {cI : Int32}, y_fr h G [] [] → p < t → cI.toInt = pr_k (y_N sg) t p → aOK s_P X (d + 2) a_m87 27 [some (.ref 14), some (.ref 66), some (.int pI), some (.int oI), o4] [.int cI] G C S K0 := by
      intro G cI e ptt hc
      refine w_go z_hl [48, 76] [88] 40 e.1 ?_
      refine ⟨fun z => fun H hH => ?_, fun z => ⟨fun z2 => fun H hH => ?_, fun z2 => ⟨fun z3 => fun H hH => ?_, fun z3 => fun H hH => ?_⟩⟩⟩
      · have y1 : cI.toInt = ((Int8.ofInt 33).toInt32).toInt := (y_ci .eq _ _).mp z
        rw [c33] at y1
        exact T48 false (y_st e hH (by repeat (first | exact w_nil | refine w_cons (Or.inl (y_m rfl)) ?_ | refine w_cons (Or.inr (by assumption)) ?_)) (by repeat (first | exact w_nil | refine w_cons (Or.inl (y_m rfl)) ?_ | refine w_cons (Or.inr (by assumption)) ?_))) ptt y1 (pr_bang (by omega) (hc.symm.trans y1)) o5
      · have y1 : ¬ (cI.toInt = ((Int8.ofInt 33).toInt32).toInt) := y_cif z
        have y2 : cI.toInt ≠ ((Int8.ofInt 40).toInt32).toInt := (y_ci .ne _ _).mp z2
        rw [c33, hc] at y1
        rw [c40, hc] at y2
        exact T76 (y_st e hH (by repeat (first | exact w_nil | refine w_cons (Or.inl (y_m rfl)) ?_ | refine w_cons (Or.inr (by assumption)) ?_)) (by repeat (first | exact w_nil | refine w_cons (Or.inl (y_m rfl)) ?_ | refine w_cons (Or.inr (by assumption)) ?_))) ptt hc y1 (fun w => y2 w.1)
      · have y1 : ¬ (cI.toInt = ((Int8.ofInt 33).toInt32).toInt) := y_cif z
        have y3 : (Int32.ofInt 5).toInt ≤ oI.toInt := (y_ci .ge _ _).mp z3
        rw [c33, hc] at y1
        rw [c5] at y3
        exact T76 (y_st e hH (by repeat (first | exact w_nil | refine w_cons (Or.inl (y_m rfl)) ?_ | refine w_cons (Or.inr (by assumption)) ?_)) (by repeat (first | exact w_nil | refine w_cons (Or.inl (y_m rfl)) ?_ | refine w_cons (Or.inr (by assumption)) ?_))) ptt hc y1 (fun w => by have := w.2; omega)
      · have y2 : ¬ (cI.toInt ≠ ((Int8.ofInt 40).toInt32).toInt) := y_cif z2
        have y3 : ¬ ((Int32.ofInt 5).toInt ≤ oI.toInt) := y_cif z3
        rw [c40] at y2
        rw [c5] at y3
        have y4 : cI.toInt = 40 := Decidable.not_not.mp y2
        exact T48 true (y_st e hH (by repeat (first | exact w_nil | refine w_cons (Or.inl (y_m rfl)) ?_ | refine w_cons (Or.inr (by assumption)) ?_)) (by repeat (first | exact w_nil | refine w_cons (Or.inl (y_m rfl)) ?_ | refine w_cons (Or.inr (by assumption)) ?_))) ptt y4 (pr_open (by omega) (hc.symm.trans y4) (by omega)) (by show o + 1 ≤ 5; omega)
    refine w_go z_hl [12] [82] 30 hr ?_
    intro x hx _ _
    obtain rfl := y_fi a4 hx
    intro y hy _ _
    obtain rfl := y_fi a2 hy
    refine ⟨fun z => ⟨by decide, fun H hH => ?_⟩, fun z => fun H hH => ?_⟩
    · have y1 : toI.toInt ≤ atI.toInt := (y_ci .ge _ _).mp z
      have f : y_fr h H [] [] := y_st (y_rf hr) hH (by repeat (first | exact w_nil | refine w_cons (Or.inl (y_m rfl)) ?_ | refine w_cons (Or.inr (by assumption)) ?_)) (by repeat (first | exact w_nil | refine w_cons (Or.inl (y_m rfl)) ?_ | refine w_cons (Or.inr (by assumption)) ?_))
      have k0 : pr_k (y_N sg) t p = 0 := if_neg (by omega)
      exact hK false p H (y_mo f rfl rfl) (tx_s_fr s f rfl rfl) (pr_bad (by omega) (by omega) (fun w => by have := w.1; omega) (fun w => by have := w.1; omega))
    · have y1 : ¬ (toI.toInt ≤ atI.toInt) := y_cif z
      have f : y_fr h H [] [] := y_st (y_rf hr) hH (by repeat (first | exact w_nil | refine w_cons (Or.inl (y_m rfl)) ?_ | refine w_cons (Or.inr (by assumption)) ?_)) (by repeat (first | exact w_nil | refine w_cons (Or.inl (y_m rfl)) ?_ | refine w_cons (Or.inr (by assumption)) ?_))
      refine c_lkT (tx_s_fr s f rfl rfl) (fun r H2 f2 er => ⟨fun n e => (by cases e), ?_⟩)
      exact T27 (y_sq f f2 rfl rfl) (by omega) er
theorem c_ev7 {h : aH} {p : Nat} (n0 : 0 ≤ nd.toInt) (n10 : nd.toInt ≤ 10) {pI : Int32} {pa : Nat} (hpa : pI.toInt = pa) (pa4 : pa < 4) (s : tx_s nd h sg t p) {fr : List Int32} (gf : w_a h 66 = some (0, .inl fr)) (hK : ∀ (b : Bool) (q : Nat) (aI : Int32) (H : aH), y_fr h H [1538] [66, 67, 68] → tx_s nd H sg t q → pr_E (y_N sg) t nd.toInt false p 0 = (b, q) → w_a H 66 = some (0, .inl (fr.set pa aI)) → 0 ≤ aI.toInt → K0 (some (.int (y_01 b))) H C S) : aOK s_P X (d + 2) a_m87 0 [some (.ref 14), some (.ref 66), some (.int pI), none, none] [] h C S K0 := by
  obtain ⟨toI, atI, hr, a1, a2, a3, a4, a5, a6, pt, t40⟩ := id s
  have cp := y_cl1 hpa
  refine w_go z_hl [12] [] 30 hr ?_
  intro x hx _ _
  obtain rfl := y_fi a4 hx
  refine ⟨⟨by omega, by omega⟩, ⟨by omega, by omega⟩, fun l hl len bb => fun H hH => ?_⟩
  obtain rfl := y_ai gf hl
  have w := hH.2.2.1 66 _ rfl
  rw [cp] at w
  have f : y_fr h H [] [66] := y_st (y_mo (y_rf hr) rfl rfl) hH (by repeat (first | exact w_nil | refine w_cons (Or.inl (y_m rfl)) ?_ | refine w_cons (Or.inr (by assumption)) ?_)) (by repeat (first | exact w_nil | refine w_cons (Or.inl (y_m rfl)) ?_ | refine w_cons (Or.inr (by assumption)) ?_))
  exact c_evl7 (d := d) n0 n10 hpa pa4 40 H p _ 0 _ (tx_s_fr s f rfl rfl) (by decide) (by decide) (by omega) (fun b q H' f1 f2 f3 => hK b q atI H' (y_sq (y_mo f rfl rfl) f1 rfl rfl) f2 f3 ((y_ae f1 rfl).trans w) (by omega))
end PEV7
end PT33ico
section PT33icp
/-! ===== v21: parseGiven, parseRate, parseTerm of the class with saying 7 (laid by wip/tools/mk21d.py) ===== -/
section PPT7
variable {X : aX} {C S d : Nat} {K0 : Option Value → aH → Nat → Nat → Prop} {sg : List Int32} {t p : Nat} {nd : Int32} {h : aH}
theorem c_gv7 (n0 : 0 ≤ nd.toInt) (n10 : nd.toInt ≤ 10) {sI : Int32} {sd : Nat} (hs : sI.toInt = sd) (hs2 : sd < 2) (s : tx_s nd h sg t p) {fr : List Int32} (gf : w_a h 66 = some (0, .inl fr)) (hK : ∀ (b : Bool) (q k : Nat) (H : aH) (fr' : List Int32), y_fr h H [1538] [66, 67, 68] → tx_s nd H sg t q → pr_gv (y_N sg) t nd.toInt p = (b, q, k) → w_a H 66 = some (0, .inl fr') → tx_f fr fr' sd k → K0 (some (.int (y_01 b))) H C S) : aOK s_P X (d + 3) a_m86 0 [some (.ref 14), some (.ref 66), some (.int sI)] [] h C S K0 := by
  obtain ⟨toI, atI, hr, a1, a2, a3, a4, a5, a6, pt, t40⟩ := id s
  obtain ⟨fr0, f1, fl, -⟩ := c_arr hr (ob := 66) (n := 4) (lo := -1) (hi := 40) rfl
  obtain rfl := y_ai gf f1
  have c47 : ((Int8.ofInt 47).toInt32).toInt = 47 := by decide
  have m1 : (Int32.ofInt 2 * sI).toInt = ((2 * sd : Nat) : Int) := y_mulS (m := 2) _ (by decide) hs rfl (by omega)
  have m2 : (Int32.ofInt 2 * sI + Int32.ofInt 1).toInt = ((2 * sd + 1 : Nat) : Int) := y_addS _ m1 (n := 1) (by decide) rfl (by omega)
  have T44 : ∀ {G : aH} {b : Bool} {q k : Nat} {fr' : List Int32}, y_fr h G [1538] [66, 67, 68] → tx_s nd G sg t q → pr_gv (y_N sg) t nd.toInt p = (b, q, k) → w_a G 66 = some (0, .inl fr') → tx_f fr fr' sd k → aOK s_P X (d + 3) a_m86 44 [some (.ref 14), some (.ref 66), some (.int sI)] [.int (y_01 b)] G C S K0 := by
    intro G b q k fr' e s2 hg g2 hf
    refine w_go z_hl [] [] 20 e.1 ?_
    refine ⟨y_01b b, fun H hH => ?_⟩
    have f : y_fr G H [] [] := y_st (y_rf e.1) hH (by repeat (first | exact w_nil | refine w_cons (Or.inl (y_m rfl)) ?_ | refine w_cons (Or.inr (by assumption)) ?_)) (by repeat (first | exact w_nil | refine w_cons (Or.inl (y_m rfl)) ?_ | refine w_cons (Or.inr (by assumption)) ?_))
    exact hK b q k H fr' (y_sq e f rfl rfl) (tx_s_fr s2 f rfl rfl) hg ((y_ae f rfl).trans g2) hf
  have T24 : ∀ {G : aH} {q : Nat} {aI : Int32}, y_fr h G [1538] [66, 67, 68] → tx_s nd G sg t q → q < t → pr_E (y_N sg) t nd.toInt false p 0 = (true, q) → pr_k (y_N sg) t q = 47 → w_a G 66 = some (0, .inl (fr.set (2 * sd) aI)) → 0 ≤ aI.toInt → aOK s_P X (d + 3) a_m86 24 [some (.ref 14), some (.ref 66), some (.int sI)] [] G C S K0 := by
    intro G q aI e s2 qt hE h47 g2 ha
    obtain ⟨toJ, atJ, -, b1, b2, b3, b4, b5, b6, -, -⟩ := id s2
    have inc : (atJ + Int32.ofInt 1).toInt = ((q + 1 : Nat) : Int) := by rw [y_inc (by omega), b5]; rfl
    refine w_go z_hl [] [87] 30 e.1 ?_
    intro x hx _ _
    obtain rfl := y_fi b4 hx
    refine ⟨rfl, y_zini (by show 0 ≤ (atJ + Int32.ofInt 1).toInt; omega) (by show (atJ + Int32.ofInt 1).toInt ≤ 40; omega), fun H hH => ?_⟩
    have f : y_fr G H [1538] [] := y_st (y_mo (y_rf e.1) rfl rfl) hH (by repeat (first | exact w_nil | refine w_cons (Or.inl (y_m rfl)) ?_ | refine w_cons (Or.inr (by assumption)) ?_)) (by repeat (first | exact w_nil | refine w_cons (Or.inl (y_m rfl)) ?_ | refine w_cons (Or.inr (by assumption)) ?_))
    refine c_ev7 (d := d) n0 n10 m2 (by omega) (tx_s_at s2 f rfl (hH.2.1 1538 _ rfl) inc (by omega)) ((y_ae f rfl).trans g2) (fun b r aJ H2 f2 s3 hE2 g3 ha2 => ⟨fun n e => (by cases e), ?_⟩)
    exact T44 (k := 2) (y_sq (y_sq e f rfl rfl) f2 rfl rfl) s3 (pr_gv_2 hE h47 hE2) g3 (tx_f_2 fl ha ha2 hs2)
  have T17 : ∀ {G : aH} {q : Nat} {aI cI : Int32}, y_fr h G [1538] [66, 67, 68] → tx_s nd G sg t q → cI.toInt = pr_k (y_N sg) t q → pr_E (y_N sg) t nd.toInt false p 0 = (true, q) → w_a G 66 = some (0, .inl (fr.set (2 * sd) aI)) → 0 ≤ aI.toInt → aOK s_P X (d + 3) a_m86 17 [some (.ref 14), some (.ref 66), some (.int sI)] [.int cI] G C S K0 := by
    intro G q aI cI e s2 hc hE g2 ha
    refine w_go z_hl [24] [] 30 e.1 ?_
    refine ⟨fun z => fun H hH => ?_, fun z => ⟨by decide, fun H hH => ?_⟩⟩
    · have y1 : cI.toInt = ((Int8.ofInt 47).toInt32).toInt := (y_ci .eq _ _).mp z
      rw [c47, hc] at y1
      have f : y_fr G H [] [] := y_st (y_rf e.1) hH (by repeat (first | exact w_nil | refine w_cons (Or.inl (y_m rfl)) ?_ | refine w_cons (Or.inr (by assumption)) ?_)) (by repeat (first | exact w_nil | refine w_cons (Or.inl (y_m rfl)) ?_ | refine w_cons (Or.inr (by assumption)) ?_))
      exact T24 (y_sq e f rfl rfl) (tx_s_fr s2 f rfl rfl) (pr_k_t (by decide) y1) hE y1 ((y_ae f rfl).trans g2) ha
    · have y1 : ¬ (cI.toInt = ((Int8.ofInt 47).toInt32).toInt) := y_cif z
      rw [c47, hc] at y1
      have f : y_fr G H [] [] := y_st (y_rf e.1) hH (by repeat (first | exact w_nil | refine w_cons (Or.inl (y_m rfl)) ?_ | refine w_cons (Or.inr (by assumption)) ?_)) (by repeat (first | exact w_nil | refine w_cons (Or.inl (y_m rfl)) ?_ | refine w_cons (Or.inr (by assumption)) ?_))
      exact hK true q 1 H _ (y_sq e f rfl rfl) (tx_s_fr s2 f rfl rfl) (pr_gv_1 hE y1) ((y_ae f rfl).trans g2) (tx_f_1 fl ha hs2)
  have T8 : ∀ {G : aH} {q : Nat} {aI : Int32} (b : Bool), y_fr h G [1538] [66, 67, 68] → tx_s nd G sg t q → pr_E (y_N sg) t nd.toInt false p 0 = (b, q) → w_a G 66 = some (0, .inl (fr.set (2 * sd) aI)) → 0 ≤ aI.toInt → aOK s_P X (d + 3) a_m86 8 [some (.ref 14), some (.ref 66), some (.int sI)] [.int (y_01 b)] G C S K0 := by
    intro G q aI b e s2 hE g2 ha
    cases b with
    | true =>
      refine w_go z_hl [24] [82] 30 e.1 ?_
      refine ⟨fun _ => fun H hH => ?_, fun z => absurd z (by decide)⟩
      have f : y_fr G H [] [] := y_st (y_rf e.1) hH (by repeat (first | exact w_nil | refine w_cons (Or.inl (y_m rfl)) ?_ | refine w_cons (Or.inr (by assumption)) ?_)) (by repeat (first | exact w_nil | refine w_cons (Or.inl (y_m rfl)) ?_ | refine w_cons (Or.inr (by assumption)) ?_))
      refine c_lkT (tx_s_fr s2 f rfl rfl) (fun r H2 f2 er => ⟨fun n e => (by cases e), ?_⟩)
      exact T17 (y_sq (y_sq e f rfl rfl) f2 rfl rfl) (tx_s_fr (tx_s_fr s2 f rfl rfl) f2 rfl rfl) er hE ((y_ae f2 rfl).trans ((y_ae f rfl).trans g2)) ha
    | false =>
      refine w_go z_hl [24] [82] 30 e.1 ?_
      refine ⟨fun z => absurd z (by decide), fun _ => ⟨by decide, fun H hH => ?_⟩⟩
      have f : y_fr G H [] [] := y_st (y_rf e.1) hH (by repeat (first | exact w_nil | refine w_cons (Or.inl (y_m rfl)) ?_ | refine w_cons (Or.inr (by assumption)) ?_)) (by repeat (first | exact w_nil | refine w_cons (Or.inl (y_m rfl)) ?_ | refine w_cons (Or.inr (by assumption)) ?_))
      exact hK false q 1 H _ (y_sq e f rfl rfl) (tx_s_fr s2 f rfl rfl) (pr_gv_n hE) ((y_ae f rfl).trans g2) (tx_f_1 fl ha hs2)
  refine w_go z_hl [] [87] 30 hr ?_
  intro H hH
  have f : y_fr h H [] [] := y_st (y_rf hr) hH (by repeat (first | exact w_nil | refine w_cons (Or.inl (y_m rfl)) ?_ | refine w_cons (Or.inr (by assumption)) ?_)) (by repeat (first | exact w_nil | refine w_cons (Or.inl (y_m rfl)) ?_ | refine w_cons (Or.inr (by assumption)) ?_))
  refine c_ev7 (d := d) n0 n10 m1 (by omega) (tx_s_fr s f rfl rfl) ((y_ae f rfl).trans gf) (fun b q aI H2 f2 s3 hE g3 ha => ⟨fun n e => (by cases e), ?_⟩)
  exact T8 b (y_sq (y_mo f rfl rfl) f2 rfl rfl) s3 hE g3 ha
theorem c_rt7 {sI : Int32} {sd : Nat} (hs : sI.toInt = sd) (hs2 : sd < 2) (s : tx_s nd h sg t p) (hK : ∀ (b : Bool) (q : Nat) (H : aH), y_fr h H [1538] [69, 70] → tx_s nd H sg t q → pr_rt (y_N sg) t p = (b, q, 0) → K0 (some (.int (y_01 b))) H C S) : aOK s_P X (d + 2) a_m84 0 [some (.ref 14), some (.ref 66), some (.int sI)] [] h C S K0 := by
  obtain ⟨toI, atI, hr, a1, a2, a3, a4, a5, a6, pt, t40⟩ := id s
  have c58 : ((Int8.ofInt 58).toInt32).toInt = 58 := by decide
  have c48 : ((Int8.ofInt 48).toInt32).toInt = 48 := by decide
  have T61 : ∀ {G : aH} {q : Nat} {r : Int32}, y_fr h G [1538] [69] → tx_s nd G sg t q → pr_rt (y_N sg) t p = (true, q, 0) → aOK s_P X (d + 2) a_m84 61 [some (.ref 14), some (.ref 66), some (.int sI)] [.int r, .int sI, .ref 72] G C S K0 := by
    intro G q r e s2 hg
    refine w_go z_hl [] [] 20 e.1 ?_
    refine ⟨⟨by omega, by omega⟩, y_l32 _, fun l hl len bb => ⟨by decide, fun H hH => ?_⟩⟩
    have f : y_fr G H [] [70] := y_st (y_mo (y_rf e.1) rfl rfl) hH (by repeat (first | exact w_nil | refine w_cons (Or.inl (y_m rfl)) ?_ | refine w_cons (Or.inr (by assumption)) ?_)) (by repeat (first | exact w_nil | refine w_cons (Or.inl (y_m rfl)) ?_ | refine w_cons (Or.inr (by assumption)) ?_))
    exact hK true q H (y_sq (y_mo e rfl rfl) f rfl rfl) (tx_s_fr s2 f rfl rfl) hg
  have T45 : ∀ {G : aH} {cI : Int32}, y_fr h G [1538] [69] → tx_s nd G sg t (pr_dq (y_N sg) t 8 p + 1) → pr_k (y_N sg) t (pr_dq (y_N sg) t 8 p) = 58 → pr_dg (y_N sg) t (pr_dq (y_N sg) t 8 p + 1) → cI.toInt = pr_k (y_N sg) t (pr_dq (y_N sg) t 8 p + 1) → aOK s_P X (d + 2) a_m84 45 [some (.ref 14), some (.ref 66), some (.int sI)] [.int cI] G C S K0 := by
    intro G cI e s2 h58 hd hc
    have hd1 := hd.1
    have hd2 := hd.2
    refine w_go z_hl [] [85] 30 e.1 ?_
    refine ⟨fun z => fun H hH => ?_, fun z => ⟨by decide, fun H hH => ?_⟩⟩
    · have y1 : cI.toInt ≠ ((Int8.ofInt 48).toInt32).toInt := (y_ci .ne _ _).mp z
      rw [c48, hc] at y1
      have f : y_fr G H [] [] := y_st (y_rf e.1) hH (by repeat (first | exact w_nil | refine w_cons (Or.inl (y_m rfl)) ?_ | refine w_cons (Or.inr (by assumption)) ?_)) (by repeat (first | exact w_nil | refine w_cons (Or.inl (y_m rfl)) ?_ | refine w_cons (Or.inr (by assumption)) ?_))
      refine c_number (d := d) (tx_s_fr s2 f rfl rfl) (fun r H2 f2 s3 => ⟨fun n e => (by cases e), ?_⟩)
      exact T61 (y_sq (y_sq e f rfl rfl) f2 rfl rfl) s3 (pr_rt_1 h58 ⟨by omega, hd2⟩)
    · have y1 : ¬ (cI.toInt ≠ ((Int8.ofInt 48).toInt32).toInt) := y_cif z
      rw [c48, hc] at y1
      have f : y_fr G H [] [] := y_st (y_rf e.1) hH (by repeat (first | exact w_nil | refine w_cons (Or.inl (y_m rfl)) ?_ | refine w_cons (Or.inr (by assumption)) ?_)) (by repeat (first | exact w_nil | refine w_cons (Or.inl (y_m rfl)) ?_ | refine w_cons (Or.inr (by assumption)) ?_))
      exact hK false _ H (y_mo (y_sq e f rfl rfl) rfl rfl) (tx_s_fr s2 f rfl rfl) (pr_rt_0 h58 (fun w => by have := w.1; omega))
  have T38 : ∀ {G : aH} (b : Bool), y_fr h G [1538] [69] → tx_s nd G sg t (pr_dq (y_N sg) t 8 p + 1) → pr_k (y_N sg) t (pr_dq (y_N sg) t 8 p) = 58 → (b = true → pr_dg (y_N sg) t (pr_dq (y_N sg) t 8 p + 1)) → (b = false → ¬ pr_dg (y_N sg) t (pr_dq (y_N sg) t 8 p + 1)) → aOK s_P X (d + 2) a_m84 38 [some (.ref 14), some (.ref 66), some (.int sI)] [.int (y_01 b)] G C S K0 := by
    intro G b e s2 h58 hy hn
    cases b with
    | true =>
      refine w_go z_hl [] [82] 30 e.1 ?_
      refine ⟨fun z => absurd z (by decide), fun _ => fun H hH => ?_⟩
      have f : y_fr G H [] [] := y_st (y_rf e.1) hH (by repeat (first | exact w_nil | refine w_cons (Or.inl (y_m rfl)) ?_ | refine w_cons (Or.inr (by assumption)) ?_)) (by repeat (first | exact w_nil | refine w_cons (Or.inl (y_m rfl)) ?_ | refine w_cons (Or.inr (by assumption)) ?_))
      refine c_lkT (tx_s_fr s2 f rfl rfl) (fun r H2 f2 er => ⟨fun n e => (by cases e), ?_⟩)
      exact T45 (y_sq (y_sq e f rfl rfl) f2 rfl rfl) (tx_s_fr (tx_s_fr s2 f rfl rfl) f2 rfl rfl) h58 (hy rfl) er
    | false =>
      refine w_go z_hl [] [82] 30 e.1 ?_
      refine ⟨fun _ => ⟨by decide, fun H hH => ?_⟩, fun z => absurd z (by decide)⟩
      have f : y_fr G H [] [] := y_st (y_rf e.1) hH (by repeat (first | exact w_nil | refine w_cons (Or.inl (y_m rfl)) ?_ | refine w_cons (Or.inr (by assumption)) ?_)) (by repeat (first | exact w_nil | refine w_cons (Or.inl (y_m rfl)) ?_ | refine w_cons (Or.inr (by assumption)) ?_))
      exact hK false _ H (y_mo (y_sq e f rfl rfl) rfl rfl) (tx_s_fr s2 f rfl rfl) (pr_rt_0 h58 (fun w => hn rfl ⟨by have := w.1; omega, w.2⟩))
  have T35 : ∀ {G : aH} {cI : Int32}, y_fr h G [1538] [69] → tx_s nd G sg t (pr_dq (y_N sg) t 8 p + 1) → pr_k (y_N sg) t (pr_dq (y_N sg) t 8 p) = 58 → cI.toInt = pr_k (y_N sg) t (pr_dq (y_N sg) t 8 p + 1) → aOK s_P X (d + 2) a_m84 35 [some (.ref 14), some (.ref 66), some (.int sI)] [.int cI] G C S K0 := by
    intro G cI e s2 h58 hc
    refine w_go z_hl [] [83] 20 e.1 ?_
    intro H hH
    have f : y_fr G H [] [] := y_st (y_rf e.1) hH (by repeat (first | exact w_nil | refine w_cons (Or.inl (y_m rfl)) ?_ | refine w_cons (Or.inr (by assumption)) ?_)) (by repeat (first | exact w_nil | refine w_cons (Or.inl (y_m rfl)) ?_ | refine w_cons (Or.inr (by assumption)) ?_))
    refine c_isDg (c := cI) f.1 (fun H2 f2 w => ⟨fun n e => (by cases e), ?_⟩) (fun H2 f2 w => ⟨fun n e => (by cases e), ?_⟩)
    · exact T38 true (y_sq (y_sq e f rfl rfl) f2 rfl rfl) (tx_s_fr (tx_s_fr s2 f rfl rfl) f2 rfl rfl) h58 (fun _ => ⟨by omega, by omega⟩) (fun z => absurd z (by decide))
    · exact T38 false (y_sq (y_sq e f rfl rfl) f2 rfl rfl) (tx_s_fr (tx_s_fr s2 f rfl rfl) f2 rfl rfl) h58 (fun z => absurd z (by decide)) (fun _ z => w ⟨by have := z.1; omega, by have := z.2; omega⟩)
  have T14 : ∀ {G : aH} {cI : Int32}, y_fr h G [1538] [69] → tx_s nd G sg t (pr_dq (y_N sg) t 8 p) → cI.toInt = pr_k (y_N sg) t (pr_dq (y_N sg) t 8 p) → aOK s_P X (d + 2) a_m84 14 [some (.ref 14), some (.ref 66), some (.int sI)] [.int cI] G C S K0 := by
    intro G cI e s2 hc
    obtain ⟨toJ, atJ, -, b1, b2, b3, b4, b5, b6, qt, -⟩ := id s2
    refine w_go z_hl [] [82] 40 e.1 ?_
    refine ⟨fun z => ?_, fun z => ⟨by decide, fun H hH => ?_⟩⟩
    · have y1 : cI.toInt = ((Int8.ofInt 58).toInt32).toInt := (y_ci .eq _ _).mp z
      rw [c58, hc] at y1
      have qt' := pr_k_t (by decide) y1
      have inc : (atJ + Int32.ofInt 1).toInt = ((pr_dq (y_N sg) t 8 p + 1 : Nat) : Int) := by rw [y_inc (by omega), b5]; rfl
      intro x hx _ _
      obtain rfl := y_fi b4 hx
      refine ⟨rfl, y_zini (by show 0 ≤ (atJ + Int32.ofInt 1).toInt; omega) (by show (atJ + Int32.ofInt 1).toInt ≤ 40; omega), fun H hH => ?_⟩
      have f : y_fr G H [1538] [] := y_st (y_mo (y_rf e.1) rfl rfl) hH (by repeat (first | exact w_nil | refine w_cons (Or.inl (y_m rfl)) ?_ | refine w_cons (Or.inr (by assumption)) ?_)) (by repeat (first | exact w_nil | refine w_cons (Or.inl (y_m rfl)) ?_ | refine w_cons (Or.inr (by assumption)) ?_))
      have s3 := tx_s_at s2 f rfl (hH.2.1 1538 _ rfl) inc (by omega)
      refine c_lkT s3 (fun r H2 f2 er => ⟨fun n e => (by cases e), ?_⟩)
      exact T35 (y_sq (y_sq e f rfl rfl) f2 rfl rfl) (tx_s_fr s3 f2 rfl rfl) y1 er
    · have y1 : ¬ (cI.toInt = ((Int8.ofInt 58).toInt32).toInt) := y_cif z
      rw [c58, hc] at y1
      have f : y_fr G H [] [] := y_st (y_rf e.1) hH (by repeat (first | exact w_nil | refine w_cons (Or.inl (y_m rfl)) ?_ | refine w_cons (Or.inr (by assumption)) ?_)) (by repeat (first | exact w_nil | refine w_cons (Or.inl (y_m rfl)) ?_ | refine w_cons (Or.inr (by assumption)) ?_))
      exact hK false _ H (y_mo (y_sq e f rfl rfl) rfl rfl) (tx_s_fr s2 f rfl rfl) (pr_rt_n y1)
  have T9 : ∀ {G : aH} {r : Int32}, y_fr h G [1538] [] → tx_s nd G sg t (pr_dq (y_N sg) t 8 p) → aOK s_P X (d + 2) a_m84 9 [some (.ref 14), some (.ref 66), some (.int sI)] [.int r, .int sI, .ref 71] G C S K0 := by
    intro G r e s2
    refine w_go z_hl [] [82] 30 e.1 ?_
    refine ⟨⟨by omega, by omega⟩, y_l32 _, fun l hl len bb => fun H hH => ?_⟩
    have f : y_fr G H [] [69] := y_st (y_mo (y_rf e.1) rfl rfl) hH (by repeat (first | exact w_nil | refine w_cons (Or.inl (y_m rfl)) ?_ | refine w_cons (Or.inr (by assumption)) ?_)) (by repeat (first | exact w_nil | refine w_cons (Or.inl (y_m rfl)) ?_ | refine w_cons (Or.inr (by assumption)) ?_))
    refine c_lkT (tx_s_fr s2 f rfl rfl) (fun r H2 f2 er => ⟨fun n e => (by cases e), ?_⟩)
    exact T14 (y_sq (y_sq (y_mo e rfl rfl) f rfl rfl) f2 rfl rfl) (tx_s_fr (tx_s_fr s2 f rfl rfl) f2 rfl rfl) er
  refine w_go z_hl [] [85] 30 hr ?_
  intro H hH
  have f : y_fr h H [] [] := y_st (y_rf hr) hH (by repeat (first | exact w_nil | refine w_cons (Or.inl (y_m rfl)) ?_ | refine w_cons (Or.inr (by assumption)) ?_)) (by repeat (first | exact w_nil | refine w_cons (Or.inl (y_m rfl)) ?_ | refine w_cons (Or.inr (by assumption)) ?_))
  refine c_number (d := d) (tx_s_fr s f rfl rfl) (fun r H2 f2 s3 => ⟨fun n e => (by cases e), ?_⟩)
  exact T9 (y_sq (y_mo f rfl rfl) f2 rfl rfl) s3
end PPT7
end PT33icp
section PT33icq
/-! ===== v21: clear, parseTerm, parseFirst, parseSecond of the class with saying 7 (laid by wip/tools/mk21e.py) ===== -/
section PFS7
variable {X : aX} {C S d : Nat} {K0 : Option Value → aH → Nat → Nat → Prop} {sg : List Int32} {t p : Nat} {nd : Int32} {h : aH}
theorem c_clearl7 : ∀ (m : Nat) (h : aH) (iI : Int32) (i : Nat) (fr : List Int32), w_hr z_D h → iI.toInt = i → i + m = 4 → w_a h 66 = some (0, .inl fr) → fr.length = 4 → (∀ j, j < i → y_N fr j = -1) → (∀ (H : aH) (fr' : List Int32), y_fr h H [] [66, 67, 68] → w_a H 66 = some (0, .inl fr') → (∀ j, j < 4 → y_N fr' j = -1) → K0 none H C S) → aOK s_P X d a_m79 13 [some (.ref 66), some (.int iI)] [] h C S K0 := by
  have c4 : (Int32.ofInt 4).toInt = 4 := by decide
  intro m
  induction m with
  | zero =>
    intro h iI i fr hr hi hm g len hf hK
    have ei : i = 4 := by omega
    rw [ei] at hf
    refine w_go z_hl [13] [] 30 hr ?_
    refine ⟨fun _ => fun H hH => ?_, fun z => ?_⟩
    · have f : y_fr h H [] [] := y_st (y_rf hr) hH (by repeat (first | exact w_nil | refine w_cons (Or.inl (y_m rfl)) ?_ | refine w_cons (Or.inr (by assumption)) ?_)) (by repeat (first | exact w_nil | refine w_cons (Or.inl (y_m rfl)) ?_ | refine w_cons (Or.inr (by assumption)) ?_))
      exact hK H fr (y_mo f rfl rfl) ((y_ae f rfl).trans g) hf
    · have y1 : ¬ ((Int32.ofInt 4).toInt ≤ iI.toInt) := y_cif z
      rw [c4] at y1
      exfalso
      omega
  | succ m ih =>
    intro h iI i fr hr hi hm g len hf hK
    have ink : (iI + Int32.ofInt 1).toInt = ((i + 1 : Nat) : Int) := by rw [y_inc (by omega), hi]; rfl
    have ci := y_cl1 hi
    refine w_go z_hl [13] [] 60 hr ?_
    refine ⟨fun z => ?_, fun z => ?_⟩
    · have y1 : (Int32.ofInt 4).toInt ≤ iI.toInt := (y_ci .ge _ _).mp z
      rw [c4] at y1
      exfalso
      omega
    · refine ⟨⟨by omega, by omega⟩, by decide, fun l hl len1 bb => ?_⟩
      obtain rfl := y_ai g hl
      refine ⟨⟨by omega, by omega⟩, y_l32 _, fun l2 hl2 len2 bb2 => ⟨⟨by omega, by omega⟩, y_l32 _, fun l3 hl3 len3 bb3 => fun H hH => ?_⟩⟩
      have w := hH.2.2.1 66 _ rfl
      rw [ci] at w
      have f : y_fr h H [] [66, 67, 68] := y_st (y_mo (y_rf hr) rfl rfl) hH (by repeat (first | exact w_nil | refine w_cons (Or.inl (y_m rfl)) ?_ | refine w_cons (Or.inr (by assumption)) ?_)) (by repeat (first | exact w_nil | refine w_cons (Or.inl (y_m rfl)) ?_ | refine w_cons (Or.inr (by assumption)) ?_))
      refine ih H _ (i + 1) _ f.1 ink (by omega) w (by rw [List.length_set]; exact len) (fun j hj => ?_) (fun H' fr' f1 f2 f3 => hK H' fr' (y_sq f f1 rfl rfl) f2 f3)
      rw [y_Nset (by omega)]
      by_cases y : j = i
      · rw [if_pos y]
        decide
      · rw [if_neg y]
        exact hf j (by omega)
theorem c_clear7 (hr : w_hr z_D h) (hK : ∀ (H : aH) (fr : List Int32), y_fr h H [8193, 8194] [66, 67, 68] → w_a H 66 = some (0, .inl fr) → (∀ j, j < 4 → y_N fr j = -1) → K0 none H C S) : aOK s_P X d a_m79 0 [some (.ref 66), none] [] h C S K0 := by
  refine w_go z_hl [13] [] 30 hr ?_
  refine ⟨rfl, y_zini (by decide) (by decide), rfl, y_zini (by decide) (by decide), fun H hH => ?_⟩
  have f : y_fr h H [8193, 8194] [] := y_st (y_mo (y_rf hr) rfl rfl) hH (by repeat (first | exact w_nil | refine w_cons (Or.inl (y_m rfl)) ?_ | refine w_cons (Or.inr (by assumption)) ?_)) (by repeat (first | exact w_nil | refine w_cons (Or.inl (y_m rfl)) ?_ | refine w_cons (Or.inr (by assumption)) ?_))
  obtain ⟨fr, f1, fl, -⟩ := c_arr f.1 (ob := 66) (n := 4) (lo := -1) (hi := 40) rfl
  exact c_clearl7 4 H _ 0 fr f.1 (by decide) rfl f1 fl (fun j hj => absurd hj (Nat.not_lt_zero j)) (fun H' fr' e1 e2 e3 => hK H' fr' (y_sq (y_mo f rfl rfl) e1 rfl rfl) e2 e3)
theorem c_tm7 (n0 : 0 ≤ nd.toInt) (n10 : nd.toInt ≤ 10) {sI : Int32} {sd : Nat} (hs : sI.toInt = sd) (hs2 : sd < 2) (s : tx_s nd h sg t p) {fr : List Int32} (gf : w_a h 66 = some (0, .inl fr)) (hK : ∀ (b : Bool) (q k : Nat) (H : aH) (fr' : List Int32), y_fr h H [1538] [66, 67, 68, 69, 70] → tx_s nd H sg t q → pr_tm (y_N sg) t nd.toInt p = (b, q, k) → w_a H 66 = some (0, .inl fr') → (k = 0 ∧ fr' = fr) ∨ tx_f fr fr' sd k → K0 (some (.int (y_01 b))) H C S) : aOK s_P X (d + 4) a_m81 0 [some (.ref 14), some (.ref 66), some (.int sI)] [] h C S K0 := by
  have hr := (tx_s_hr s).1
  have T25 : ∀ {G : aH} {b : Bool} {q k : Nat} {pc : Nat} {fr' : List Int32}, (pc = 16 ∨ pc = 25) → y_fr h G [1538] [66, 67, 68, 69, 70] → tx_s nd G sg t q → pr_tm (y_N sg) t nd.toInt p = (b, q, k) → w_a G 66 = some (0, .inl fr') → (k = 0 ∧ fr' = fr) ∨ tx_f fr fr' sd k → aOK s_P X (d + 4) a_m81 pc [some (.ref 14), some (.ref 66), some (.int sI)] [.int (y_01 b)] G C S K0 := by
    intro G b q k pc fr' hpc e s2 hg g2 hf
    rcases hpc with rfl | rfl
    · refine w_go z_hl [] [] 20 e.1 ?_
      refine ⟨y_01b b, fun H hH => ?_⟩
      have f : y_fr G H [] [] := y_st (y_rf e.1) hH (by repeat (first | exact w_nil | refine w_cons (Or.inl (y_m rfl)) ?_ | refine w_cons (Or.inr (by assumption)) ?_)) (by repeat (first | exact w_nil | refine w_cons (Or.inl (y_m rfl)) ?_ | refine w_cons (Or.inr (by assumption)) ?_))
      exact hK b q k H fr' (y_sq e f rfl rfl) (tx_s_fr s2 f rfl rfl) hg ((y_ae f rfl).trans g2) hf
    · refine w_go z_hl [] [] 20 e.1 ?_
      refine ⟨y_01b b, fun H hH => ?_⟩
      have f : y_fr G H [] [] := y_st (y_rf e.1) hH (by repeat (first | exact w_nil | refine w_cons (Or.inl (y_m rfl)) ?_ | refine w_cons (Or.inr (by assumption)) ?_)) (by repeat (first | exact w_nil | refine w_cons (Or.inl (y_m rfl)) ?_ | refine w_cons (Or.inr (by assumption)) ?_))
      exact hK b q k H fr' (y_sq e f rfl rfl) (tx_s_fr s2 f rfl rfl) hg ((y_ae f rfl).trans g2) hf
  have T7 : ∀ {G : aH} (b : Bool), y_fr h G [] [] → (b = true → pr_dg (y_N sg) t p) → (b = false → ¬ pr_dg (y_N sg) t p) → aOK s_P X (d + 4) a_m81 7 [some (.ref 14), some (.ref 66), some (.int sI)] [.int (y_01 b)] G C S K0 := by
    intro G b e hy hn
    cases b with
    | true =>
      refine w_go z_hl [] [84, 86] 30 e.1 ?_
      refine ⟨fun z => absurd z (by decide), fun _ => fun H hH => ?_⟩
      have f : y_fr h H [] [] := y_st e hH (by repeat (first | exact w_nil | refine w_cons (Or.inl (y_m rfl)) ?_ | refine w_cons (Or.inr (by assumption)) ?_)) (by repeat (first | exact w_nil | refine w_cons (Or.inl (y_m rfl)) ?_ | refine w_cons (Or.inr (by assumption)) ?_))
      refine c_rt7 (d := d + 1) hs hs2 (tx_s_fr s f rfl rfl) (fun b q H2 f2 s3 hg => ⟨fun n e => (by cases e), ?_⟩)
      exact T25 (k := 0) (Or.inl rfl) (y_sq (y_mo f rfl rfl) f2 rfl rfl) s3 (by rw [pr_tm_1 (hy rfl)]; exact hg) ((y_ae f2 rfl).trans ((y_ae f rfl).trans gf)) (Or.inl ⟨rfl, rfl⟩)
    | false =>
      refine w_go z_hl [] [84, 86] 30 e.1 ?_
      refine ⟨fun _ => fun H hH => ?_, fun z => absurd z (by decide)⟩
      have f : y_fr h H [] [] := y_st e hH (by repeat (first | exact w_nil | refine w_cons (Or.inl (y_m rfl)) ?_ | refine w_cons (Or.inr (by assumption)) ?_)) (by repeat (first | exact w_nil | refine w_cons (Or.inl (y_m rfl)) ?_ | refine w_cons (Or.inr (by assumption)) ?_))
      refine c_gv7 (d := d) n0 n10 hs hs2 (tx_s_fr s f rfl rfl) ((y_ae f rfl).trans gf) (fun b q k H2 fr' f2 s3 hg g3 hf => ⟨fun n e => (by cases e), ?_⟩)
      exact T25 (Or.inr rfl) (y_sq (y_mo f rfl rfl) f2 rfl rfl) s3 (by rw [pr_tm_0 (hn rfl)]; exact hg) g3 (Or.inr hf)
  have T4 : ∀ {G : aH} {cI : Int32}, y_fr h G [] [] → cI.toInt = pr_k (y_N sg) t p → aOK s_P X (d + 4) a_m81 4 [some (.ref 14), some (.ref 66), some (.int sI)] [.int cI] G C S K0 := by
    intro G cI e hc
    refine w_go z_hl [] [83] 20 e.1 ?_
    intro H hH
    have f : y_fr h H [] [] := y_st e hH (by repeat (first | exact w_nil | refine w_cons (Or.inl (y_m rfl)) ?_ | refine w_cons (Or.inr (by assumption)) ?_)) (by repeat (first | exact w_nil | refine w_cons (Or.inl (y_m rfl)) ?_ | refine w_cons (Or.inr (by assumption)) ?_))
    refine c_isDg (c := cI) f.1 (fun H2 f2 w => ⟨fun n e => (by cases e), ?_⟩) (fun H2 f2 w => ⟨fun n e => (by cases e), ?_⟩)
    · exact T7 true (y_sq f f2 rfl rfl) (fun _ => ⟨by omega, by omega⟩) (fun z => absurd z (by decide))
    · exact T7 false (y_sq f f2 rfl rfl) (fun z => absurd z (by decide)) (fun _ z => w ⟨by have := z.1; omega, by have := z.2; omega⟩)
  refine w_go z_hl [] [82] 20 hr ?_
  intro H hH
  have f : y_fr h H [] [] := y_st (y_rf hr) hH (by repeat (first | exact w_nil | refine w_cons (Or.inl (y_m rfl)) ?_ | refine w_cons (Or.inr (by assumption)) ?_)) (by repeat (first | exact w_nil | refine w_cons (Or.inl (y_m rfl)) ?_ | refine w_cons (Or.inr (by assumption)) ?_))
  refine c_lkT (tx_s_fr s f rfl rfl) (fun r H2 f2 er => ⟨fun n e => (by cases e), ?_⟩)
  exact T4 (y_sq f f2 rfl rfl) er
theorem c_isNum7 (hr : w_hr z_D h) {fr : List Int32} (gf : w_a h 66 = some (0, .inl fr)) (hK : ∀ (H : aH), y_fr h H [] [] → K0 (some (.int (y_01 (decide (y_N fr 0 = -1))))) H C S) : aOK s_P X d a_m89 0 [some (.ref 66), some (.int (Int32.ofInt 0))] [] h C S K0 := by
  have m1 : (Int32.ofInt 2 * Int32.ofInt 0).toInt = ((0 : Nat) : Int) := by decide
  have cm := y_cl1 m1
  have cn : (Int32.ofInt (-1)).toInt = -1 := by decide
  refine w_go z_hl [] [] 30 hr ?_
  refine ⟨⟨by decide, by decide⟩, fun l hl len bb => ?_⟩
  obtain rfl := y_ai gf hl
  refine ⟨fun z => ⟨by decide, fun H hH => ?_⟩, fun z => ⟨by decide, fun H hH => ?_⟩⟩
  · have y1 : (fr.getD (Int32.ofInt 2 * Int32.ofInt 0).toNatClampNeg 0).toInt ≠ (Int32.ofInt (-1)).toInt := (y_ci .ne _ _).mp z
    rw [cm, cn] at y1
    have w := hK H (y_st (y_rf hr) hH (by repeat (first | exact w_nil | refine w_cons (Or.inl (y_m rfl)) ?_ | refine w_cons (Or.inr (by assumption)) ?_)) (by repeat (first | exact w_nil | refine w_cons (Or.inl (y_m rfl)) ?_ | refine w_cons (Or.inr (by assumption)) ?_)))
    rw [decide_eq_false (show ¬ (y_N fr 0 = -1) from y1)] at w
    exact w
  · have y1 : ¬ ((fr.getD (Int32.ofInt 2 * Int32.ofInt 0).toNatClampNeg 0).toInt ≠ (Int32.ofInt (-1)).toInt) := y_cif z
    rw [cm, cn] at y1
    have w := hK H (y_st (y_rf hr) hH (by repeat (first | exact w_nil | refine w_cons (Or.inl (y_m rfl)) ?_ | refine w_cons (Or.inr (by assumption)) ?_)) (by repeat (first | exact w_nil | refine w_cons (Or.inl (y_m rfl)) ?_ | refine w_cons (Or.inr (by assumption)) ?_)))
    rw [decide_eq_true (show y_N fr 0 = -1 from Decidable.not_not.mp y1)] at w
    exact w
theorem c_first7 (n0 : 0 ≤ nd.toInt) (n10 : nd.toInt ≤ 10) (s : tx_s nd h sg t 0) {fr : List Int32} (gf : w_a h 66 = some (0, .inl fr)) (hf0 : y_N fr 0 = -1) (hf1 : y_N fr 1 = -1) (yes : ∀ (q k : Nat) (H : aH) (rel : Int32) (fr' : List Int32), y_fr h H [1538, 8194] [66, 67, 68, 69, 70] → tx_s nd H sg t (q + 1) → pr_tm (y_N sg) t nd.toInt 0 = (true, q, k) → w_f H 8194 = some (.int rel) → w_a H 66 = some (0, .inl fr') → ((pr_k (y_N sg) t q = 126 ∧ k = 1) ∧ rel.toInt = 126) ∨ (¬ (pr_k (y_N sg) t q = 126 ∧ k = 1) ∧ (pr_k (y_N sg) t q = 61 ∨ pr_k (y_N sg) t q = 60 ∨ pr_k (y_N sg) t q = 62) ∧ rel.toInt ≠ 126) → K0 (some (.int (y_01 true))) H C S) (no : ∀ (q : Nat) (H : aH), y_fr h H [1538, 8194] [66, 67, 68, 69, 70] → tx_s nd H sg t q → pr_sy (y_N sg) t nd.toInt = (false, q) → K0 (some (.int (y_01 false))) H C S) : aOK s_P X (d + 5) a_m80 0 [some (.ref 14), some (.ref 66), none, none] [] h C S K0 := by
  have hr := (tx_s_hr s).1
  have c126 : ((Int8.ofInt 126).toInt32).toInt = 126 := by decide
  have c61 : ((Int8.ofInt 61).toInt32).toInt = 61 := by decide
  have c60 : ((Int8.ofInt 60).toInt32).toInt = 60 := by decide
  have c62 : ((Int8.ofInt 62).toInt32).toInt = 62 := by decide
  have cn : (Int32.ofInt (-1)).toInt = -1 := by decide
  have T70 : ∀ {G : aH} {q k : Nat} {cI : Int32} {p3 : Option Value} {fr' : List Int32}, y_fr h G [1538, 8194] [66, 67, 68, 69, 70] → tx_s nd G sg t q → q < t → pr_tm (y_N sg) t nd.toInt 0 = (true, q, k) → w_a G 66 = some (0, .inl fr') → cI.toInt = pr_k (y_N sg) t q → 0 ≤ cI.toInt → cI.toInt ≤ 65535 → ((pr_k (y_N sg) t q = 126 ∧ k = 1) ∨ (¬ (pr_k (y_N sg) t q = 126 ∧ k = 1) ∧ (pr_k (y_N sg) t q = 61 ∨ pr_k (y_N sg) t q = 60 ∨ pr_k (y_N sg) t q = 62))) → aOK s_P X (d + 5) a_m80 70 [some (.ref 14), some (.ref 66), some (.int cI), p3] [] G C S K0 := by
    intro G q k cI p3 fr' e s2 qt ht g2 hc c0 c65 hw
    obtain ⟨toJ, atJ, -, b1, b2, b3, b4, b5, b6, -, t40⟩ := id s2
    have inc : (atJ + Int32.ofInt 1).toInt = ((q + 1 : Nat) : Int) := by rw [y_inc (by omega), b5]; rfl
    refine w_go z_hl [] [] 40 e.1 ?_
    refine ⟨y_fitC c0 c65, y_zini c0 c65, ?_⟩
    intro x hx _ _
    obtain rfl := y_fi b4 hx
    refine ⟨rfl, y_zini (by show 0 ≤ (atJ + Int32.ofInt 1).toInt; omega) (by show (atJ + Int32.ofInt 1).toInt ≤ 40; omega), by decide, fun H hH => ?_⟩
    have f : y_fr G H [1538, 8194] [] := y_st (y_mo (y_rf e.1) rfl rfl) hH (by repeat (first | exact w_nil | refine w_cons (Or.inl (y_m rfl)) ?_ | refine w_cons (Or.inr (by assumption)) ?_)) (by repeat (first | exact w_nil | refine w_cons (Or.inl (y_m rfl)) ?_ | refine w_cons (Or.inr (by assumption)) ?_))
    have s3 : tx_s nd H sg t (q + 1) := ⟨toJ, _, f.1, (y_ae f rfl).trans b1, (y_fe f rfl).trans b2, b3, hH.2.1 1538 _ rfl, inc, (y_fe f rfl).trans b6, by omega, t40⟩
    refine yes q k H cI fr' (y_sq e f rfl rfl) s3 ht (hH.2.1 8194 _ rfl) ((y_ae f rfl).trans g2) ?_
    rcases hw with w | ⟨w, w2⟩
    · exact Or.inl ⟨w, by rw [hc]; exact w.1⟩
    · refine Or.inr ⟨w, w2, ?_⟩
      rw [hc]
      rcases w2 with w3 | w3 | w3
      · omega
      · omega
      · omega
  have T45 : ∀ {G : aH} {q k : Nat} {cI : Int32} {fr' : List Int32} (b : Bool), y_fr h G [1538, 8194] [66, 67, 68, 69, 70] → tx_s nd G sg t q → pr_tm (y_N sg) t nd.toInt 0 = (true, q, k) → w_a G 66 = some (0, .inl fr') → cI.toInt = pr_k (y_N sg) t q → 0 ≤ cI.toInt → cI.toInt ≤ 65535 → (b = true → pr_k (y_N sg) t q = 126 ∧ k = 1) → (b = false → ¬ (pr_k (y_N sg) t q = 126 ∧ k = 1)) → aOK s_P X (d + 5) a_m80 45 [some (.ref 14), some (.ref 66), some (.int cI), none] [.int (y_01 b)] G C S K0 := by
    intro G q k cI fr' b e s2 ht g2 hc c0 c65 hy hn
    have f0 : y_fr G G [] [] := y_rf e.1
    have go : ∀ {H : aH} {p3 : Option Value}, y_fr G H [] [] → q < t → ((pr_k (y_N sg) t q = 126 ∧ k = 1) ∨ (¬ (pr_k (y_N sg) t q = 126 ∧ k = 1) ∧ (pr_k (y_N sg) t q = 61 ∨ pr_k (y_N sg) t q = 60 ∨ pr_k (y_N sg) t q = 62))) → aOK s_P X (d + 5) a_m80 70 [some (.ref 14), some (.ref 66), some (.int cI), p3] [] H C S K0 := fun f qt w => T70 (y_sq e f rfl rfl) (tx_s_fr s2 f rfl rfl) qt ht ((y_ae f rfl).trans g2) hc c0 c65 w
    have q61 : cI.toInt = 61 → ¬ (pr_k (y_N sg) t q = 126 ∧ k = 1) := fun z w => by have := w.1; omega
    have q60 : cI.toInt = 60 → ¬ (pr_k (y_N sg) t q = 126 ∧ k = 1) := fun z w => by have := w.1; omega
    have q62 : cI.toInt = 62 → ¬ (pr_k (y_N sg) t q = 126 ∧ k = 1) := fun z w => by have := w.1; omega
    cases b with
    | true =>
      refine w_go z_hl [70] [] 40 e.1 ?_
      refine ⟨fun z => fun H hH => ?_, fun z => ⟨fun z2 => fun H hH => ?_, fun z2 => ⟨fun z3 => fun H hH => ?_, fun z3 => ⟨fun _ => fun H hH => ?_, fun z4 => absurd z4 (by decide)⟩⟩⟩⟩
      · have y1 : cI.toInt = ((Int8.ofInt 61).toInt32).toInt := (y_ci .eq _ _).mp z
        rw [c61] at y1
        exact go (y_st f0 hH (by repeat (first | exact w_nil | refine w_cons (Or.inl (y_m rfl)) ?_ | refine w_cons (Or.inr (by assumption)) ?_)) (by repeat (first | exact w_nil | refine w_cons (Or.inl (y_m rfl)) ?_ | refine w_cons (Or.inr (by assumption)) ?_))) (pr_k_t (c := 61) (by decide) (hc.symm.trans y1)) (Or.inr ⟨q61 y1, Or.inl (hc.symm.trans y1)⟩)
      · have y1 : cI.toInt = ((Int8.ofInt 60).toInt32).toInt := (y_ci .eq _ _).mp z2
        rw [c60] at y1
        exact go (y_st f0 hH (by repeat (first | exact w_nil | refine w_cons (Or.inl (y_m rfl)) ?_ | refine w_cons (Or.inr (by assumption)) ?_)) (by repeat (first | exact w_nil | refine w_cons (Or.inl (y_m rfl)) ?_ | refine w_cons (Or.inr (by assumption)) ?_))) (pr_k_t (c := 60) (by decide) (hc.symm.trans y1)) (Or.inr ⟨q60 y1, Or.inr (Or.inl (hc.symm.trans y1))⟩)
      · have y1 : cI.toInt = ((Int8.ofInt 62).toInt32).toInt := (y_ci .eq _ _).mp z3
        rw [c62] at y1
        exact go (y_st f0 hH (by repeat (first | exact w_nil | refine w_cons (Or.inl (y_m rfl)) ?_ | refine w_cons (Or.inr (by assumption)) ?_)) (by repeat (first | exact w_nil | refine w_cons (Or.inl (y_m rfl)) ?_ | refine w_cons (Or.inr (by assumption)) ?_))) (pr_k_t (c := 62) (by decide) (hc.symm.trans y1)) (Or.inr ⟨q62 y1, Or.inr (Or.inr (hc.symm.trans y1))⟩)
      · exact go (y_st f0 hH (by repeat (first | exact w_nil | refine w_cons (Or.inl (y_m rfl)) ?_ | refine w_cons (Or.inr (by assumption)) ?_)) (by repeat (first | exact w_nil | refine w_cons (Or.inl (y_m rfl)) ?_ | refine w_cons (Or.inr (by assumption)) ?_))) (pr_k_t (c := 126) (by decide) (hy rfl).1) (Or.inl (hy rfl))
    | false =>
      refine w_go z_hl [70] [] 40 e.1 ?_
      refine ⟨fun z => fun H hH => ?_, fun z => ⟨fun z2 => fun H hH => ?_, fun z2 => ⟨fun z3 => fun H hH => ?_, fun z3 => ⟨fun z4 => absurd z4 (by decide), fun _ => ⟨by decide, fun H hH => ?_⟩⟩⟩⟩⟩
      · have y1 : cI.toInt = ((Int8.ofInt 61).toInt32).toInt := (y_ci .eq _ _).mp z
        rw [c61] at y1
        exact go (y_st f0 hH (by repeat (first | exact w_nil | refine w_cons (Or.inl (y_m rfl)) ?_ | refine w_cons (Or.inr (by assumption)) ?_)) (by repeat (first | exact w_nil | refine w_cons (Or.inl (y_m rfl)) ?_ | refine w_cons (Or.inr (by assumption)) ?_))) (pr_k_t (c := 61) (by decide) (hc.symm.trans y1)) (Or.inr ⟨q61 y1, Or.inl (hc.symm.trans y1)⟩)
      · have y1 : cI.toInt = ((Int8.ofInt 60).toInt32).toInt := (y_ci .eq _ _).mp z2
        rw [c60] at y1
        exact go (y_st f0 hH (by repeat (first | exact w_nil | refine w_cons (Or.inl (y_m rfl)) ?_ | refine w_cons (Or.inr (by assumption)) ?_)) (by repeat (first | exact w_nil | refine w_cons (Or.inl (y_m rfl)) ?_ | refine w_cons (Or.inr (by assumption)) ?_))) (pr_k_t (c := 60) (by decide) (hc.symm.trans y1)) (Or.inr ⟨q60 y1, Or.inr (Or.inl (hc.symm.trans y1))⟩)
      · have y1 : cI.toInt = ((Int8.ofInt 62).toInt32).toInt := (y_ci .eq _ _).mp z3
        rw [c62] at y1
        exact go (y_st f0 hH (by repeat (first | exact w_nil | refine w_cons (Or.inl (y_m rfl)) ?_ | refine w_cons (Or.inr (by assumption)) ?_)) (by repeat (first | exact w_nil | refine w_cons (Or.inl (y_m rfl)) ?_ | refine w_cons (Or.inr (by assumption)) ?_))) (pr_k_t (c := 62) (by decide) (hc.symm.trans y1)) (Or.inr ⟨q62 y1, Or.inr (Or.inr (hc.symm.trans y1))⟩)
      · have y1 : ¬ (cI.toInt = ((Int8.ofInt 61).toInt32).toInt) := y_cif z
        have y2 : ¬ (cI.toInt = ((Int8.ofInt 60).toInt32).toInt) := y_cif z2
        have y3 : ¬ (cI.toInt = ((Int8.ofInt 62).toInt32).toInt) := y_cif z3
        rw [c61, hc] at y1
        rw [c60, hc] at y2
        rw [c62, hc] at y3
        have f : y_fr G H [] [] := y_st f0 hH (by repeat (first | exact w_nil | refine w_cons (Or.inl (y_m rfl)) ?_ | refine w_cons (Or.inr (by assumption)) ?_)) (by repeat (first | exact w_nil | refine w_cons (Or.inl (y_m rfl)) ?_ | refine w_cons (Or.inr (by assumption)) ?_))
        exact no q H (y_sq e f rfl rfl) (tx_s_fr s2 f rfl rfl) (pr_sy_x ht (hn rfl) (fun w => by rcases w with w | w | w; exact y1 w; exact y2 w; exact y3 w))
  have T27 : ∀ {G : aH} {q k : Nat} {cI : Int32} {fr' : List Int32} (b : Bool), y_fr h G [1538, 8194] [66, 67, 68, 69, 70] → tx_s nd G sg t q → pr_tm (y_N sg) t nd.toInt 0 = (true, q, k) → w_a G 66 = some (0, .inl fr') → cI.toInt = pr_k (y_N sg) t q → 0 ≤ cI.toInt → cI.toInt ≤ 65535 → pr_k (y_N sg) t q = 126 → (b = true → k = 0) → (b = false → k ≠ 0 ∧ (k = 1 → y_N fr' 1 = -1) ∧ (k ≠ 1 → 0 ≤ y_N fr' 1)) → aOK s_P X (d + 5) a_m80 27 [some (.ref 14), some (.ref 66), some (.int cI), none] [.int (y_01 b)] G C S K0 := by
    intro G q k cI fr' b e s2 ht g2 hc c0 c65 h126 hy hn
    have f0 : y_fr G G [] [] := y_rf e.1
    cases b with
    | true =>
      refine w_go z_hl [45] [] 30 e.1 ?_
      refine ⟨fun _ => fun H hH => ?_, fun z => absurd z (by decide)⟩
      have f : y_fr G H [] [] := y_st f0 hH (by repeat (first | exact w_nil | refine w_cons (Or.inl (y_m rfl)) ?_ | refine w_cons (Or.inr (by assumption)) ?_)) (by repeat (first | exact w_nil | refine w_cons (Or.inl (y_m rfl)) ?_ | refine w_cons (Or.inr (by assumption)) ?_))
      exact T45 false (y_sq e f rfl rfl) (tx_s_fr s2 f rfl rfl) ht ((y_ae f rfl).trans g2) hc c0 c65 (fun w => absurd w (by decide)) (fun _ w => by have := hy rfl; omega)
    | false =>
      obtain ⟨k0, k1, k2⟩ := hn rfl
      have i1 : (Int32.ofInt 1).toInt = ((1 : Nat) : Int) := by decide
      have ci1 := y_cl1 i1
      refine w_go z_hl [45] [] 30 e.1 ?_
      refine ⟨fun z => absurd z (by decide), fun _ => ⟨⟨by decide, by decide⟩, fun l hl len bb => ?_⟩⟩
      obtain rfl := y_ai g2 hl
      refine ⟨fun z => fun H hH => ?_, fun z => fun H hH => ?_⟩
      · have y1 : (fr'.getD (Int32.ofInt 1).toNatClampNeg 0).toInt ≠ (Int32.ofInt (-1)).toInt := (y_ci .ne _ _).mp z
        rw [ci1, cn] at y1
        have y2 : y_N fr' 1 ≠ -1 := y1
        have f : y_fr G H [] [] := y_st f0 hH (by repeat (first | exact w_nil | refine w_cons (Or.inl (y_m rfl)) ?_ | refine w_cons (Or.inr (by assumption)) ?_)) (by repeat (first | exact w_nil | refine w_cons (Or.inl (y_m rfl)) ?_ | refine w_cons (Or.inr (by assumption)) ?_))
        exact T45 false (y_sq e f rfl rfl) (tx_s_fr s2 f rfl rfl) ht ((y_ae f rfl).trans g2) hc c0 c65 (fun w => absurd w (by decide)) (fun _ w => y2 (k1 w.2))
      · have y1 : ¬ ((fr'.getD (Int32.ofInt 1).toNatClampNeg 0).toInt ≠ (Int32.ofInt (-1)).toInt) := y_cif z
        rw [ci1, cn] at y1
        have y2 : y_N fr' 1 = -1 := Decidable.not_not.mp y1
        have f : y_fr G H [] [] := y_st f0 hH (by repeat (first | exact w_nil | refine w_cons (Or.inl (y_m rfl)) ?_ | refine w_cons (Or.inr (by assumption)) ?_)) (by repeat (first | exact w_nil | refine w_cons (Or.inl (y_m rfl)) ?_ | refine w_cons (Or.inr (by assumption)) ?_))
        refine T45 true (y_sq e f rfl rfl) (tx_s_fr s2 f rfl rfl) ht ((y_ae f rfl).trans g2) hc c0 c65 (fun _ => ⟨h126, ?_⟩) (fun w => absurd w (by decide))
        rcases Nat.decEq k 1 with w | w
        · have := k2 w
          omega
        · exact w
  have T15 : ∀ {G : aH} {q k : Nat} {cI : Int32} {fr' : List Int32}, y_fr h G [1538, 8194] [66, 67, 68, 69, 70] → tx_s nd G sg t q → pr_tm (y_N sg) t nd.toInt 0 = (true, q, k) → w_a G 66 = some (0, .inl fr') → (k = 0 ∧ fr' = fr) ∨ tx_f fr fr' 0 k → cI.toInt = pr_k (y_N sg) t q → 0 ≤ cI.toInt → cI.toInt ≤ 65535 → aOK s_P X (d + 5) a_m80 15 [some (.ref 14), some (.ref 66), none, none] [.int cI] G C S K0 := by
    intro G q k cI fr' e s2 ht g2 hf hc c0 c65
    have f0 : y_fr G G [] [] := y_rf e.1
    refine w_go z_hl [45] [89] 30 e.1 ?_
    refine ⟨fun z => fun H hH => ?_, fun z => fun H hH => ?_⟩
    · have y1 : cI.toInt ≠ ((Int8.ofInt 126).toInt32).toInt := (y_ci .ne _ _).mp z
      rw [c126, hc] at y1
      have f : y_fr G H [] [] := y_st f0 hH (by repeat (first | exact w_nil | refine w_cons (Or.inl (y_m rfl)) ?_ | refine w_cons (Or.inr (by assumption)) ?_)) (by repeat (first | exact w_nil | refine w_cons (Or.inl (y_m rfl)) ?_ | refine w_cons (Or.inr (by assumption)) ?_))
      exact T45 false (y_sq e f rfl rfl) (tx_s_fr s2 f rfl rfl) ht ((y_ae f rfl).trans g2) hc c0 c65 (fun w => absurd w (by decide)) (fun _ w => y1 w.1)
    · have y1 : ¬ (cI.toInt ≠ ((Int8.ofInt 126).toInt32).toInt) := y_cif z
      rw [c126, hc] at y1
      have y2 : pr_k (y_N sg) t q = 126 := Decidable.not_not.mp y1
      have f : y_fr G H [] [] := y_st f0 hH (by repeat (first | exact w_nil | refine w_cons (Or.inl (y_m rfl)) ?_ | refine w_cons (Or.inr (by assumption)) ?_)) (by repeat (first | exact w_nil | refine w_cons (Or.inl (y_m rfl)) ?_ | refine w_cons (Or.inr (by assumption)) ?_))
      refine c_isNum7 f.1 ((y_ae f rfl).trans g2) (fun H2 f2 => ⟨fun n e => (by cases e), ?_⟩)
      have e3 := y_sq (y_sq e f rfl rfl) f2 rfl rfl
      have s3 := tx_s_fr (tx_s_fr s2 f rfl rfl) f2 rfl rfl
      have g3 := (y_ae f2 rfl).trans ((y_ae f rfl).trans g2)
      rcases hf with ⟨hf, hf'⟩ | ⟨hf, hg, hh, hi⟩
      · rw [decide_eq_true (show y_N fr' 0 = -1 by rw [hf']; exact hf0)]
        exact T27 true e3 s3 ht g3 hc c0 c65 y2 (fun _ => hf) (fun w => absurd w (by decide))
      · have hg' : 0 ≤ y_N fr' 0 := hg
        rw [decide_eq_false (show ¬ (y_N fr' 0 = -1) by omega)]
        refine T27 false e3 s3 ht g3 hc c0 c65 y2 (fun w => absurd w (by decide)) (fun _ => ⟨by omega, fun w => ?_, fun w => ?_⟩)
        · rw [hh w 1 (by decide)]
          exact hf1
        · exact (hi (by omega)).1
  have T6 : ∀ {G : aH} {q k : Nat} {fr' : List Int32} (b : Bool), y_fr h G [1538, 8194] [66, 67, 68, 69, 70] → tx_s nd G sg t q → pr_tm (y_N sg) t nd.toInt 0 = (b, q, k) → w_a G 66 = some (0, .inl fr') → (k = 0 ∧ fr' = fr) ∨ tx_f fr fr' 0 k → aOK s_P X (d + 5) a_m80 6 [some (.ref 14), some (.ref 66), none, none] [.int (y_01 b)] G C S K0 := by
    intro G q k fr' b e s2 ht g2 hf
    cases b with
    | true =>
      refine w_go z_hl [] [82] 30 e.1 ?_
      refine ⟨fun _ => fun H hH => ?_, fun z => absurd z (by decide)⟩
      have f : y_fr G H [] [] := y_st (y_rf e.1) hH (by repeat (first | exact w_nil | refine w_cons (Or.inl (y_m rfl)) ?_ | refine w_cons (Or.inr (by assumption)) ?_)) (by repeat (first | exact w_nil | refine w_cons (Or.inl (y_m rfl)) ?_ | refine w_cons (Or.inr (by assumption)) ?_))
      obtain ⟨sg', z1, z2, z3⟩ := w_arrI f.1 (o := 13) (t := 3) (n := 60) (lo := 0) (hi := 65535) (by decide) rfl
      have kb : 0 ≤ pr_k (y_N sg) t q ∧ pr_k (y_N sg) t q ≤ 65535 := by
        obtain ⟨-, -, -, b1, -, -, -, -, -, -, t40⟩ := tx_s_fr s2 f rfl rfl
        have e4 := w_a_at z1
        rw [b1] at e4
        obtain rfl : sg = sg' := by
          injection e4 with e5
          injection e5 with _ e6
          injection e6
        by_cases w : q < t
        · rw [pr_k_1 w]
          exact z3 _ (z_gd (0 : Int32) (show q < sg.length by omega))
        · rw [show pr_k (y_N sg) t q = 0 from if_neg w]
          decide
      refine c_lkT (tx_s_fr s2 f rfl rfl) (fun r H2 f2 er => ⟨fun n e => (by cases e), ?_⟩)
      exact T15 (y_sq (y_sq e f rfl rfl) f2 rfl rfl) (tx_s_fr (tx_s_fr s2 f rfl rfl) f2 rfl rfl) ht ((y_ae f2 rfl).trans ((y_ae f rfl).trans g2)) hf er (by omega) (by omega)
    | false =>
      refine w_go z_hl [] [82] 30 e.1 ?_
      refine ⟨fun z => absurd z (by decide), fun _ => ⟨by decide, fun H hH => ?_⟩⟩
      have f : y_fr G H [] [] := y_st (y_rf e.1) hH (by repeat (first | exact w_nil | refine w_cons (Or.inl (y_m rfl)) ?_ | refine w_cons (Or.inr (by assumption)) ?_)) (by repeat (first | exact w_nil | refine w_cons (Or.inl (y_m rfl)) ?_ | refine w_cons (Or.inr (by assumption)) ?_))
      exact no q H (y_sq e f rfl rfl) (tx_s_fr s2 f rfl rfl) (pr_sy_n ht)
  refine w_go z_hl [] [81] 20 hr ?_
  intro H hH
  have f : y_fr h H [] [] := y_st (y_rf hr) hH (by repeat (first | exact w_nil | refine w_cons (Or.inl (y_m rfl)) ?_ | refine w_cons (Or.inr (by assumption)) ?_)) (by repeat (first | exact w_nil | refine w_cons (Or.inl (y_m rfl)) ?_ | refine w_cons (Or.inr (by assumption)) ?_))
  refine c_tm7 (d := d) (sd := 0) n0 n10 (by decide) (by decide) (tx_s_fr s f rfl rfl) ((y_ae f rfl).trans gf) (fun b q k H2 fr' f2 s3 ht g3 hf => ⟨fun n e => (by cases e), ?_⟩)
  exact T6 b (y_sq (y_mo f rfl rfl) f2 rfl rfl) s3 ht g3 hf
theorem c_second7 (n0 : 0 ≤ nd.toInt) (n10 : nd.toInt ≤ 10) (s : tx_s nd h sg t p) {rel : Int32} (gr : w_f h 8194 = some (.int rel)) (hK : ∀ (b : Bool) (q k : Nat) (H : aH), y_fr h H [1538] [66, 67, 68, 69, 70] → tx_s nd H sg t q → (rel.toInt = 126 → pr_gv (y_N sg) t nd.toInt p = (b, q, k)) → (rel.toInt ≠ 126 → pr_tm (y_N sg) t nd.toInt p = (b, q, k)) → K0 (some (.int (y_01 b))) H C S) : aOK s_P X (d + 5) a_m90 0 [some (.ref 14), some (.ref 66)] [] h C S K0 := by
  have hr := (tx_s_hr s).1
  have c126 : ((Int8.ofInt 126).toInt32).toInt = 126 := by decide
  obtain ⟨fr, gf, -, -⟩ := c_arr hr (ob := 66) (n := 4) (lo := -1) (hi := 40) rfl
  have T22 : ∀ {G : aH} {b : Bool} {q k pc : Nat}, (pc = 13 ∨ pc = 22) → y_fr h G [1538] [66, 67, 68, 69, 70] → tx_s nd G sg t q → (rel.toInt = 126 → pr_gv (y_N sg) t nd.toInt p = (b, q, k)) → (rel.toInt ≠ 126 → pr_tm (y_N sg) t nd.toInt p = (b, q, k)) → aOK s_P X (d + 5) a_m90 pc [some (.ref 14), some (.ref 66)] [.int (y_01 b)] G C S K0 := by
    intro G b q k pc hpc e s2 h1 h2
    rcases hpc with rfl | rfl
    · refine w_go z_hl [] [] 20 e.1 ?_
      refine ⟨y_01b b, fun H hH => ?_⟩
      have f : y_fr G H [] [] := y_st (y_rf e.1) hH (by repeat (first | exact w_nil | refine w_cons (Or.inl (y_m rfl)) ?_ | refine w_cons (Or.inr (by assumption)) ?_)) (by repeat (first | exact w_nil | refine w_cons (Or.inl (y_m rfl)) ?_ | refine w_cons (Or.inr (by assumption)) ?_))
      exact hK b q k H (y_sq e f rfl rfl) (tx_s_fr s2 f rfl rfl) h1 h2
    · refine w_go z_hl [] [] 20 e.1 ?_
      refine ⟨y_01b b, fun H hH => ?_⟩
      have f : y_fr G H [] [] := y_st (y_rf e.1) hH (by repeat (first | exact w_nil | refine w_cons (Or.inl (y_m rfl)) ?_ | refine w_cons (Or.inr (by assumption)) ?_)) (by repeat (first | exact w_nil | refine w_cons (Or.inl (y_m rfl)) ?_ | refine w_cons (Or.inr (by assumption)) ?_))
      exact hK b q k H (y_sq e f rfl rfl) (tx_s_fr s2 f rfl rfl) h1 h2
  refine w_go z_hl [] [81, 86] 40 hr ?_
  intro x hx _ _
  obtain rfl := y_fi gr hx
  refine ⟨fun z => ⟨by decide, ⟨fun _ => fun H hH => ?_, fun z2 => absurd z2 (by decide)⟩⟩, fun z => ⟨by decide, ⟨fun z2 => absurd z2 (by decide), fun _ => fun H hH => ?_⟩⟩⟩
  · have y1 : rel.toInt ≠ ((Int8.ofInt 126).toInt32).toInt := (y_ci .ne _ _).mp z
    rw [c126] at y1
    have f : y_fr h H [] [] := y_st (y_rf hr) hH (by repeat (first | exact w_nil | refine w_cons (Or.inl (y_m rfl)) ?_ | refine w_cons (Or.inr (by assumption)) ?_)) (by repeat (first | exact w_nil | refine w_cons (Or.inl (y_m rfl)) ?_ | refine w_cons (Or.inr (by assumption)) ?_))
    refine c_tm7 (d := d) (sd := 1) n0 n10 (by decide) (by decide) (tx_s_fr s f rfl rfl) ((y_ae f rfl).trans gf) (fun b q k H2 fr' f2 s3 ht g3 hf => ⟨fun n e => (by cases e), ?_⟩)
    exact T22 (k := k) (Or.inr rfl) (y_sq (y_mo f rfl rfl) f2 rfl rfl) s3 (fun w => absurd w y1) (fun _ => ht)
  · have y1 : ¬ (rel.toInt ≠ ((Int8.ofInt 126).toInt32).toInt) := y_cif z
    rw [c126] at y1
    have f : y_fr h H [] [] := y_st (y_rf hr) hH (by repeat (first | exact w_nil | refine w_cons (Or.inl (y_m rfl)) ?_ | refine w_cons (Or.inr (by assumption)) ?_)) (by repeat (first | exact w_nil | refine w_cons (Or.inl (y_m rfl)) ?_ | refine w_cons (Or.inr (by assumption)) ?_))
    refine c_gv7 (d := d + 1) (sd := 1) n0 n10 (by decide) (by decide) (tx_s_fr s f rfl rfl) ((y_ae f rfl).trans gf) (fun b q k H2 fr' f2 s3 hg g3 hf => ⟨fun n e => (by cases e), ?_⟩)
    exact T22 (k := k) (Or.inl rfl) (y_sq (y_mo f rfl rfl) f2 rfl rfl) s3 (fun _ => hg) (fun w => absurd w y1)
end PFS7
end PT33icq
section PT33icr
/-! ===== v21: parse of the class with saying 7 (laid by wip/tools/mk21f.py) ===== -/
section PPS7
variable {X : aX} {C S d : Nat} {K0 : Option Value → aH → Nat → Nat → Prop} {sg : List Int32} {nd len : Int32} {h : aH}
theorem c_parse7 (hr : w_hr z_D h) (n0 : 0 ≤ nd.toInt) (n10 : nd.toInt ≤ 10) (l0 : 0 ≤ len.toInt) (l60 : len.toInt ≤ 60) (gs : w_a h 13 = some (3, .inl sg)) (hK : ∀ (r : Int32) (H : aH), y_fr h H [1538, 1539, 1540, 8193, 8194] [65, 66, 67, 68, 69, 70] → r.toInt = pr_wr (y_N sg) len.toInt.toNat nd.toInt → (pr_sy (y_N sg) (pr_t len.toInt.toNat) nd.toInt).2 ≤ pr_t len.toInt.toNat → K0 (some (.int r)) H C S) : aOK s_P X (d + 6) a_m78 0 [some (.ref 14), some (.int len), some (.int nd), some (.ref 66), none] [] h C S K0 := by
  have c40 : ((Int8.ofInt 40).toInt32).toInt = 40 := by decide
  have tl := pr_t_le (len := len.toInt.toNat)
  -- the end: whole or not
  have T56 : ∀ {G : aH} {q : Nat} (b : Bool), y_fr h G [1538, 1539, 1540, 8193, 8194] [66, 67, 68, 69, 70] → tx_s nd G sg (pr_t len.toInt.toNat) q → (pr_sy (y_N sg) (pr_t len.toInt.toNat) nd.toInt).2 = q → pr_wh (y_N sg) (pr_t len.toInt.toNat) nd.toInt = b → aOK s_P X (d + 6) a_m78 56 [some (.ref 14), some (.int len), some (.int nd), some (.ref 66), none] [.int (y_01 b)] G C S K0 := by
    intro G q b e s hq hb
    obtain ⟨toI, atI, -, a1, a2, a3, a4, a5, a6, pt, t40⟩ := id s
    have f0 : y_fr G G [] [] := y_rf e.1
    have out : ∀ {H : aH} {r : Int32}, y_fr G H [] [] → r.toInt = pr_wr (y_N sg) len.toInt.toNat nd.toInt → K0 (some (.int r)) H C S := fun f er => hK _ _ (y_mo (y_sq e f rfl rfl) rfl rfl) er (by omega)
    cases b with
    | true =>
      have ew : pr_wr (y_N sg) len.toInt.toNat nd.toInt = if 40 < len.toInt.toNat then 40 else -1 := if_pos hb
      have T97 : ∀ {H : aH}, y_fr G H [] [] → ¬ (40 < len.toInt.toNat) → aOK s_P X (d + 6) a_m78 97 [some (.ref 14), some (.int len), some (.int nd), some (.ref 66), some (.int (y_01 true))] [] H C S K0 := by
        intro H f nl
        refine w_go z_hl [111] [] 30 f.1 ?_
        intro x hx _ _
        obtain rfl := y_fi ((y_fe f rfl).trans a2) hx
        intro H2 h2
        have f2 : y_fr G H2 [] [] := y_st f h2 (by repeat (first | exact w_nil | refine w_cons (Or.inl (y_m rfl)) ?_ | refine w_cons (Or.inr (by assumption)) ?_)) (by repeat (first | exact w_nil | refine w_cons (Or.inl (y_m rfl)) ?_ | refine w_cons (Or.inr (by assumption)) ?_))
        refine y_copy3 (o := 13) (dd := 65) (m := pr_t len.toInt.toNat) (n1 := 60) (n2 := 40) f2.1 a3 rfl rfl (by omega) (by omega) rfl rfl (by decide) (fun H3 f3 => ?_)
        show aOK s_P X (d + 6) a_m78 114 [some (.ref 14), some (.int len), some (.int nd), some (.ref 66), some (.int (y_01 true))] [] H3 C S K0
        have f4 : y_fr G H3 [] [65] := y_sq (y_mo f2 rfl rfl) f3 rfl rfl
        refine w_go z_hl [] [] 30 f3.1 ?_
        intro x hx x0 x40
        obtain rfl := y_fi ((y_fe f4 rfl).trans a2) hx
        refine ⟨rfl, y_zini x0 x40, fun H5 h5 => ?_⟩
        have f5 : y_fr H3 H5 [8193] [] := y_st (y_mo (y_rf f3.1) rfl rfl) h5 (by repeat (first | exact w_nil | refine w_cons (Or.inl (y_m rfl)) ?_ | refine w_cons (Or.inr (by assumption)) ?_)) (by repeat (first | exact w_nil | refine w_cons (Or.inl (y_m rfl)) ?_ | refine w_cons (Or.inr (by assumption)) ?_))
        refine hK _ H5 (y_sq (y_sq (y_mo e rfl rfl) f4 rfl rfl) f5 rfl rfl) ?_ (by omega)
        rw [ew, if_neg nl]
        decide
      refine w_go z_hl [97] [] 40 e.1 ?_
      refine ⟨fun _ => ⟨fun z => absurd z (by decide), fun _ => ?_⟩, fun z => absurd z (by decide)⟩
      intro x hx _ _
      obtain rfl := y_fi a2 hx
      refine ⟨fun z => fun H hH => ?_, fun z => fun H hH => ?_⟩
      · have y1 : len.toInt ≤ toI.toInt := (y_ci .le _ _).mp z
        exact T97 (y_st f0 hH (by repeat (first | exact w_nil | refine w_cons (Or.inl (y_m rfl)) ?_ | refine w_cons (Or.inr (by assumption)) ?_)) (by repeat (first | exact w_nil | refine w_cons (Or.inl (y_m rfl)) ?_ | refine w_cons (Or.inr (by assumption)) ?_))) (by omega)
      · have y1 : ¬ (len.toInt ≤ toI.toInt) := y_cif z
        have lt : 40 < len.toInt.toNat := by
          rcases Nat.lt_or_ge 40 len.toInt.toNat with w | w
          · exact w
          · have et : pr_t len.toInt.toNat = len.toInt.toNat := if_neg (by omega)
            omega
        have et : pr_t len.toInt.toNat = 40 := if_pos lt
        exact out (y_st f0 hH (by repeat (first | exact w_nil | refine w_cons (Or.inl (y_m rfl)) ?_ | refine w_cons (Or.inr (by assumption)) ?_)) (by repeat (first | exact w_nil | refine w_cons (Or.inl (y_m rfl)) ?_ | refine w_cons (Or.inr (by assumption)) ?_))) (by rw [ew, if_pos lt]; omega)
    | false =>
      have ew : pr_wr (y_N sg) len.toInt.toNat nd.toInt = (q : Nat) := by
        unfold pr_wr
        rw [if_neg (by rw [hb]; decide), hq]
      refine w_go z_hl [97] [] 40 e.1 ?_
      refine ⟨fun z => absurd z (by decide), fun _ => ?_⟩
      intro x hx _ _
      obtain rfl := y_fi a4 hx
      intro y hy _ _
      obtain rfl := y_fi a2 hy
      refine ⟨fun z => ⟨fun _ => fun H hH => ?_, fun z2 => absurd z2 (by decide)⟩, fun z => fun H hH => ?_⟩
      · have y1 : toI.toInt ≤ atI.toInt := (y_ci .ge _ _).mp z
        exact out (y_st f0 hH (by repeat (first | exact w_nil | refine w_cons (Or.inl (y_m rfl)) ?_ | refine w_cons (Or.inr (by assumption)) ?_)) (by repeat (first | exact w_nil | refine w_cons (Or.inl (y_m rfl)) ?_ | refine w_cons (Or.inr (by assumption)) ?_))) (by rw [ew]; omega)
      · exact out (y_st f0 hH (by repeat (first | exact w_nil | refine w_cons (Or.inl (y_m rfl)) ?_ | refine w_cons (Or.inr (by assumption)) ?_)) (by repeat (first | exact w_nil | refine w_cons (Or.inl (y_m rfl)) ?_ | refine w_cons (Or.inr (by assumption)) ?_))) (by rw [ew]; exact a5)
  have T37 : ∀ {G : aH} {q : Nat} (b : Bool), y_fr h G [1538, 1539, 1540, 8193, 8194] [66, 67, 68, 69, 70] → tx_s nd G sg (pr_t len.toInt.toNat) q → pr_sy (y_N sg) (pr_t len.toInt.toNat) nd.toInt = (b, q) → aOK s_P X (d + 6) a_m78 37 [some (.ref 14), some (.int len), some (.int nd), some (.ref 66), none] [.int (y_01 b)] G C S K0 := by
    intro G q b e s hs
    obtain ⟨toI, atI, -, a1, a2, a3, a4, a5, a6, pt, t40⟩ := id s
    have f0 : y_fr G G [] [] := y_rf e.1
    cases b with
    | true =>
      refine w_go z_hl [56] [] 40 e.1 ?_
      refine ⟨fun z => absurd z (by decide), fun _ => ?_⟩
      intro x hx _ _
      obtain rfl := y_fi a4 hx
      intro y hy _ _
      obtain rfl := y_fi a2 hy
      refine ⟨fun z => fun H hH => ?_, fun z => fun H hH => ?_⟩
      · have y1 : atI.toInt ≠ toI.toInt := (y_ci .ne _ _).mp z
        have f : y_fr G H [] [] := y_st f0 hH (by repeat (first | exact w_nil | refine w_cons (Or.inl (y_m rfl)) ?_ | refine w_cons (Or.inr (by assumption)) ?_)) (by repeat (first | exact w_nil | refine w_cons (Or.inl (y_m rfl)) ?_ | refine w_cons (Or.inr (by assumption)) ?_))
        refine T56 false (y_sq e f rfl rfl) (tx_s_fr s f rfl rfl) (by rw [hs]) ?_
        unfold pr_wh
        rw [hs]
        show (true && decide (q = pr_t len.toInt.toNat)) = false
        rw [decide_eq_false (by omega)]
        rfl
      · have y1 : ¬ (atI.toInt ≠ toI.toInt) := y_cif z
        have f : y_fr G H [] [] := y_st f0 hH (by repeat (first | exact w_nil | refine w_cons (Or.inl (y_m rfl)) ?_ | refine w_cons (Or.inr (by assumption)) ?_)) (by repeat (first | exact w_nil | refine w_cons (Or.inl (y_m rfl)) ?_ | refine w_cons (Or.inr (by assumption)) ?_))
        refine T56 true (y_sq e f rfl rfl) (tx_s_fr s f rfl rfl) (by rw [hs]) ?_
        unfold pr_wh
        rw [hs]
        show (true && decide (q = pr_t len.toInt.toNat)) = true
        rw [decide_eq_true (by omega)]
        rfl
    | false =>
      refine w_go z_hl [56] [] 40 e.1 ?_
      refine ⟨fun _ => fun H hH => ?_, fun z => absurd z (by decide)⟩
      have f : y_fr G H [] [] := y_st f0 hH (by repeat (first | exact w_nil | refine w_cons (Or.inl (y_m rfl)) ?_ | refine w_cons (Or.inr (by assumption)) ?_)) (by repeat (first | exact w_nil | refine w_cons (Or.inl (y_m rfl)) ?_ | refine w_cons (Or.inr (by assumption)) ?_))
      refine T56 false (y_sq e f rfl rfl) (tx_s_fr s f rfl rfl) (by rw [hs]) ?_
      unfold pr_wh
      rw [hs]
      rfl
  have T29n : ∀ {G : aH} {q : Nat}, y_fr h G [1538, 1539, 1540, 8193, 8194] [66, 67, 68, 69, 70] → tx_s nd G sg (pr_t len.toInt.toNat) q → pr_sy (y_N sg) (pr_t len.toInt.toNat) nd.toInt = (false, q) → aOK s_P X (d + 6) a_m78 29 [some (.ref 14), some (.int len), some (.int nd), some (.ref 66), none] [.int (y_01 false)] G C S K0 := by
    intro G q e s hs
    refine w_go z_hl [56] [] 40 e.1 ?_
    refine ⟨fun _ => fun H hH => ?_, fun z => absurd z (by decide)⟩
    have f : y_fr G H [] [] := y_st (y_rf e.1) hH (by repeat (first | exact w_nil | refine w_cons (Or.inl (y_m rfl)) ?_ | refine w_cons (Or.inr (by assumption)) ?_)) (by repeat (first | exact w_nil | refine w_cons (Or.inl (y_m rfl)) ?_ | refine w_cons (Or.inr (by assumption)) ?_))
    refine T56 false (y_sq e f rfl rfl) (tx_s_fr s f rfl rfl) (by rw [hs]) ?_
    unfold pr_wh
    rw [hs]
    rfl
  have T29 : ∀ {G : aH} {q k : Nat} {rel : Int32}, y_fr h G [1538, 1539, 1540, 8193, 8194] [66, 67, 68, 69, 70] → tx_s nd G sg (pr_t len.toInt.toNat) (q + 1) → pr_tm (y_N sg) (pr_t len.toInt.toNat) nd.toInt 0 = (true, q, k) → w_f G 8194 = some (.int rel) → ((pr_k (y_N sg) (pr_t len.toInt.toNat) q = 126 ∧ k = 1) ∧ rel.toInt = 126) ∨ (¬ (pr_k (y_N sg) (pr_t len.toInt.toNat) q = 126 ∧ k = 1) ∧ (pr_k (y_N sg) (pr_t len.toInt.toNat) q = 61 ∨ pr_k (y_N sg) (pr_t len.toInt.toNat) q = 60 ∨ pr_k (y_N sg) (pr_t len.toInt.toNat) q = 62) ∧ rel.toInt ≠ 126) → aOK s_P X (d + 6) a_m78 29 [some (.ref 14), some (.int len), some (.int nd), some (.ref 66), none] [.int (y_01 true)] G C S K0 := by
    intro G q k rel e s ht gr hw
    refine w_go z_hl [56] [90] 40 e.1 ?_
    refine ⟨fun z => absurd z (by decide), fun _ => fun H hH => ?_⟩
    have f : y_fr G H [] [] := y_st (y_rf e.1) hH (by repeat (first | exact w_nil | refine w_cons (Or.inl (y_m rfl)) ?_ | refine w_cons (Or.inr (by assumption)) ?_)) (by repeat (first | exact w_nil | refine w_cons (Or.inl (y_m rfl)) ?_ | refine w_cons (Or.inr (by assumption)) ?_))
    refine c_second7 (d := d) n0 n10 (tx_s_fr s f rfl rfl) ((y_fe f rfl).trans gr) (fun b r k2 H2 f2 s3 h1 h2 => ⟨fun n e => (by cases e), ?_⟩)
    refine T37 b (y_sq (y_sq e f rfl rfl) f2 rfl rfl) s3 ?_
    rcases hw with ⟨⟨w1, w2⟩, w3⟩ | ⟨w1, w2, w3⟩
    · rw [w2] at ht
      exact pr_sy_b ht w1 (h1 w3)
    · exact pr_sy_c ht w1 w2 (h2 w3)
  have T24 : ∀ {G : aH} {fr : List Int32}, y_fr h G [1538, 1539, 1540, 8193, 8194] [66, 67, 68, 69, 70] → tx_s nd G sg (pr_t len.toInt.toNat) 0 → w_a G 66 = some (0, .inl fr) → (∀ j, j < 4 → y_N fr j = -1) → aOK s_P X (d + 6) a_m78 24 [some (.ref 14), some (.int len), some (.int nd), some (.ref 66), none] [] G C S K0 := by
    intro G fr e s g hf
    refine w_go z_hl [56] [80] 40 e.1 ?_
    intro H hH
    have f : y_fr G H [] [] := y_st (y_rf e.1) hH (by repeat (first | exact w_nil | refine w_cons (Or.inl (y_m rfl)) ?_ | refine w_cons (Or.inr (by assumption)) ?_)) (by repeat (first | exact w_nil | refine w_cons (Or.inl (y_m rfl)) ?_ | refine w_cons (Or.inr (by assumption)) ?_))
    refine c_first7 (d := d) n0 n10 (tx_s_fr s f rfl rfl) ((y_ae f rfl).trans g) (hf 0 (by decide)) (hf 1 (by decide)) (fun q k H2 rel fr' f2 s3 ht gr g3 hw => ⟨fun n e => (by cases e), ?_⟩) (fun q H2 f2 s3 hs => ⟨fun n e => (by cases e), ?_⟩)
    · exact T29 (y_sq (y_sq e f rfl rfl) f2 rfl rfl) s3 ht gr hw
    · exact T29n (y_sq (y_sq e f rfl rfl) f2 rfl rfl) s3 hs
  refine w_go z_hl [56] [79] 60 hr ?_
  refine ⟨rfl, y_zini (by decide) (by decide), ?_⟩
  refine ⟨fun z => ⟨rfl, y_zini (by decide) (by decide), rfl, y_zini n0 n10, fun H hH => ?_⟩, fun z => ⟨rfl, y_zini l0 ?_, rfl, y_zini n0 n10, fun H hH => ?_⟩⟩
  · have y1 : ((Int8.ofInt 40).toInt32).toInt < len.toInt := (y_ci .gt _ _).mp z
    rw [c40] at y1
    have et : pr_t len.toInt.toNat = 40 := if_pos (by omega)
    have f : y_fr h H [1538, 1539, 1540] [] := y_st (y_mo (y_rf hr) rfl rfl) hH (by repeat (first | exact w_nil | refine w_cons (Or.inl (y_m rfl)) ?_ | refine w_cons (Or.inr (by assumption)) ?_)) (by repeat (first | exact w_nil | refine w_cons (Or.inl (y_m rfl)) ?_ | refine w_cons (Or.inr (by assumption)) ?_))
    have s : tx_s nd H sg (pr_t len.toInt.toNat) 0 := ⟨_, _, f.1, (y_ae f rfl).trans gs, hH.2.1 1539 _ rfl, by rw [et]; exact c40, hH.2.1 1538 _ rfl, rfl, hH.2.1 1540 _ rfl, Nat.zero_le _, tl.1⟩
    refine c_clear7 f.1 (fun H2 fr f2 g2 hf => ⟨fun n e => (by cases e), ?_⟩)
    exact T24 (y_sq (y_mo f rfl rfl) f2 rfl rfl) (tx_s_fr s f2 rfl rfl) g2 hf
  · have y1 : ¬ (((Int8.ofInt 40).toInt32).toInt < len.toInt) := y_cif z
    rw [c40] at y1
    show len.toInt ≤ 40
    omega
  · have y1 : ¬ (((Int8.ofInt 40).toInt32).toInt < len.toInt) := y_cif z
    rw [c40] at y1
    have et : pr_t len.toInt.toNat = len.toInt.toNat := if_neg (by omega)
    have f : y_fr h H [1538, 1539, 1540] [] := y_st (y_mo (y_rf hr) rfl rfl) hH (by repeat (first | exact w_nil | refine w_cons (Or.inl (y_m rfl)) ?_ | refine w_cons (Or.inr (by assumption)) ?_)) (by repeat (first | exact w_nil | refine w_cons (Or.inl (y_m rfl)) ?_ | refine w_cons (Or.inr (by assumption)) ?_))
    have s : tx_s nd H sg (pr_t len.toInt.toNat) 0 := ⟨_, _, f.1, (y_ae f rfl).trans gs, hH.2.1 1539 _ rfl, by rw [et]; omega, hH.2.1 1538 _ rfl, rfl, hH.2.1 1540 _ rfl, Nat.zero_le _, tl.1⟩
    refine c_clear7 f.1 (fun H2 fr f2 g2 hf => ⟨fun n e => (by cases e), ?_⟩)
    exact T24 (y_sq (y_mo f rfl rfl) f2 rfl rfl) (tx_s_fr s f2 rfl rfl) g2 hf
end PPS7
end PT33icr
section PT33ics
/-! ===== v21: parseEvent of the class with saying 8 (laid by wip/tools/mk21c.py) ===== -/
section PEV8
variable {X : aX} {C S d : Nat} {K0 : Option Value → aH → Nat → Nat → Prop} {sg : List Int32} {t : Nat} {nd : Int32}
theorem c_evl8 (n0 : 0 ≤ nd.toInt) (n10 : nd.toInt ≤ 10) {pI : Int32} {pa : Nat} (hpa : pI.toInt = pa) (pa4 : pa < 4) : ∀ (m : Nat) (h : aH) (p : Nat) (oI : Int32) (o : Nat) (o4 : Option Value), tx_s nd h sg t p → oI.toInt = o → o ≤ 5 → t - p ≤ m → (∀ (b : Bool) (q : Nat) (H : aH), y_fr h H [1538] [74, 75] → tx_s nd H sg t q → pr_E (y_N sg) t nd.toInt false p o = (b, q) → K0 (some (.int (y_01 b))) H C S) → aOK s_P X (d + 2) a_m87 12 [some (.ref 14), some (.ref 73), some (.int pI), some (.int oI), o4] [] h C S K0 := by
  have c33 : ((Int8.ofInt 33).toInt32).toInt = 33 := by decide
  have c38 : ((Int8.ofInt 38).toInt32).toInt = 38 := by decide
  have c40 : ((Int8.ofInt 40).toInt32).toInt = 40 := by decide
  have c97 : ((Int8.ofInt 97).toInt32).toInt = 97 := by decide
  have c124 : ((Int8.ofInt 124).toInt32).toInt = 124 := by decide
  have c5 : (Int32.ofInt 5).toInt = 5 := by decide
  have z0 : (0 : Int32).toInt = 0 := by decide
  have cn : ((Int8.ofInt 97).toInt32 + nd).toInt = 97 + nd.toInt := by
    rw [Int32.toInt_add, c97]
    exact Int.bmod_eq_of_le (by omega) (by omega)
  intro m
  induction m with
  | zero =>
    intro h p oI o o4 s ho o5 hm hK
    obtain ⟨toI, atI, hr, a1, a2, a3, a4, a5, a6, pt, t40⟩ := id s
    refine w_go z_hl [12] [82] 30 hr ?_
    intro x hx _ _
    obtain rfl := y_fi a4 hx
    intro y hy _ _
    obtain rfl := y_fi a2 hy
    refine ⟨fun _ => ⟨by decide, fun H hH => ?_⟩, fun z => ?_⟩
    · have f : y_fr h H [] [] := y_st (y_rf hr) hH (by repeat (first | exact w_nil | refine w_cons (Or.inl (y_m rfl)) ?_ | refine w_cons (Or.inr (by assumption)) ?_)) (by repeat (first | exact w_nil | refine w_cons (Or.inl (y_m rfl)) ?_ | refine w_cons (Or.inr (by assumption)) ?_))
      have k0 : pr_k (y_N sg) t p = 0 := if_neg (by omega)
      exact hK false p H (y_mo f rfl rfl) (tx_s_fr s f rfl rfl) (pr_bad (by omega) (by omega) (fun w => by have := w.1; omega) (fun w => by have := w.1; omega))
    · have y1 : ¬ (toI.toInt ≤ atI.toInt) := y_cif z
      exfalso
      omega
  | succ m ih =>
    intro h p oI o o4 s ho o5 hm hK
    obtain ⟨toI, atI, hr, a1, a2, a3, a4, a5, a6, pt, t40⟩ := id s
    -- on to the next sign
    have T189 : ∀ {G : aH} {oJ : Int32} {q o' : Nat} {p4 : Option Value}, y_fr h G [1538] [74, 75] → tx_s nd G sg t q → p < q → q < t → oJ.toInt = o' → o' ≤ 5 → pr_E (y_N sg) t nd.toInt false p o = pr_E (y_N sg) t nd.toInt false (q + 1) o' → aOK s_P X (d + 2) a_m87 189 [some (.ref 14), some (.ref 73), some (.int pI), some (.int oJ), p4] [] G C S K0 := by
      intro G oJ q o' p4 e s2 pq qt hoJ o5' hE
      obtain ⟨toJ, atJ, -, b1, b2, b3, b4, b5, b6, -, -⟩ := id s2
      have inc : (atJ + Int32.ofInt 1).toInt = ((q + 1 : Nat) : Int) := by rw [y_inc (by omega), b5]; rfl
      refine w_go z_hl [12] [82] 30 e.1 ?_
      intro x hx _ _
      obtain rfl := y_fi b4 hx
      refine ⟨rfl, y_zini (by show 0 ≤ (atJ + Int32.ofInt 1).toInt; omega) (by show (atJ + Int32.ofInt 1).toInt ≤ 40; omega), fun H hH => ?_⟩
      have f : y_fr G H [1538] [] := y_st (y_mo (y_rf e.1) rfl rfl) hH (by repeat (first | exact w_nil | refine w_cons (Or.inl (y_m rfl)) ?_ | refine w_cons (Or.inr (by assumption)) ?_)) (by repeat (first | exact w_nil | refine w_cons (Or.inl (y_m rfl)) ?_ | refine w_cons (Or.inr (by assumption)) ?_))
      exact ih H (q + 1) _ o' _ (tx_s_at s2 f rfl (hH.2.1 1538 _ rfl) inc (by omega)) hoJ o5' (by omega) (fun b r H' f1 f2 f3 => hK b r H' (y_sq (y_sq e f rfl rfl) f1 rfl rfl) f2 (hE.trans f3))
    have T143 : ∀ {G : aH} {oJ cI : Int32} {q o' : Nat}, y_fr h G [1538] [74, 75] → tx_s nd G sg t q → p < q → q < t → oJ.toInt = o' → o' ≤ 5 → pr_E (y_N sg) t nd.toInt false p o = pr_E (y_N sg) t nd.toInt false (q + 1) o' → aOK s_P X (d + 2) a_m87 143 [some (.ref 14), some (.ref 73), some (.int pI), some (.int oJ), some (.int cI)] [] G C S K0 := by
      intro G oJ cI q o' e s2 pq qt hoJ o5' hE
      have f0 : y_fr G G [] [] := y_rf e.1
      have T168 : ∀ {G2 : aH}, y_fr G G2 [] [74] → aOK s_P X (d + 2) a_m87 168 [some (.ref 14), some (.ref 73), some (.int pI), some (.int oJ), some (.int cI)] [] G2 C S K0 := by
        intro G2 f
        refine w_go z_hl [189] [82] 40 f.1 ?_
        refine ⟨⟨by omega, by omega⟩, fun l hl len bb => ⟨fun _ => ⟨⟨by omega, by omega⟩, y_l32 _, fun H hH => ?_⟩, fun _ => ⟨⟨by omega, by omega⟩, y_l32 _, fun H hH => ?_⟩⟩⟩
        · have f2 : y_fr G H [] [74, 75] := y_st (y_mo f rfl rfl) hH (by repeat (first | exact w_nil | refine w_cons (Or.inl (y_m rfl)) ?_ | refine w_cons (Or.inr (by assumption)) ?_)) (by repeat (first | exact w_nil | refine w_cons (Or.inl (y_m rfl)) ?_ | refine w_cons (Or.inr (by assumption)) ?_))
          exact T189 (y_sq e (y_mo f2 rfl rfl : y_fr G H [1538] [74, 75]) rfl rfl) (tx_s_fr s2 f2 rfl rfl) pq qt hoJ o5' hE
        · have f2 : y_fr G H [] [74, 75] := y_st (y_mo f rfl rfl) hH (by repeat (first | exact w_nil | refine w_cons (Or.inl (y_m rfl)) ?_ | refine w_cons (Or.inr (by assumption)) ?_)) (by repeat (first | exact w_nil | refine w_cons (Or.inl (y_m rfl)) ?_ | refine w_cons (Or.inr (by assumption)) ?_))
          exact T189 (y_sq e (y_mo f2 rfl rfl : y_fr G H [1538] [74, 75]) rfl rfl) (tx_s_fr s2 f2 rfl rfl) pq qt hoJ o5' hE
      refine w_go z_hl [168, 189] [82] 40 e.1 ?_
      refine ⟨fun _ => fun H hH => ?_, fun _ => ⟨⟨by omega, by omega⟩, fun l hl len bb => ⟨fun _ => ⟨⟨by omega, by omega⟩, y_l32 _, fun H hH => ?_⟩, fun _ => ⟨⟨by omega, by omega⟩, y_l32 _, fun H hH => ?_⟩⟩⟩⟩
      · have f2 : y_fr G H [] [] := y_st f0 hH (by repeat (first | exact w_nil | refine w_cons (Or.inl (y_m rfl)) ?_ | refine w_cons (Or.inr (by assumption)) ?_)) (by repeat (first | exact w_nil | refine w_cons (Or.inl (y_m rfl)) ?_ | refine w_cons (Or.inr (by assumption)) ?_))
        exact T189 (y_sq e f2 rfl rfl) (tx_s_fr s2 f2 rfl rfl) pq qt hoJ o5' hE
      · exact T168 (y_st (y_mo f0 rfl rfl) hH (by repeat (first | exact w_nil | refine w_cons (Or.inl (y_m rfl)) ?_ | refine w_cons (Or.inr (by assumption)) ?_)) (by repeat (first | exact w_nil | refine w_cons (Or.inl (y_m rfl)) ?_ | refine w_cons (Or.inr (by assumption)) ?_)))
      · exact T168 (y_st (y_mo f0 rfl rfl) hH (by repeat (first | exact w_nil | refine w_cons (Or.inl (y_m rfl)) ?_ | refine w_cons (Or.inr (by assumption)) ?_)) (by repeat (first | exact w_nil | refine w_cons (Or.inl (y_m rfl)) ?_ | refine w_cons (Or.inr (by assumption)) ?_)))
    have T117 : ∀ {G : aH} {oJ cI : Int32} {q o' : Nat} {p4 : Option Value}, y_fr h G [1538] [] → tx_s nd G sg t q → p < q → oJ.toInt = o' → o' ≤ 5 → cI.toInt = pr_k (y_N sg) t q → pr_E (y_N sg) t nd.toInt false p o = pr_E (y_N sg) t nd.toInt true q o' → ¬ (pr_k (y_N sg) t q = 41 ∧ 0 < o') → aOK s_P X (d + 2) a_m87 117 [some (.ref 14), some (.ref 73), some (.int pI), some (.int oJ), p4] [.int cI] G C S K0 := by
      intro G oJ cI q o' p4 e s2 pq hoJ o5' hc hE h41
      have q40 := (tx_s_hr s2).2.1
      have f0 : y_fr G G [] [] := y_rf e.1
      refine w_go z_hl [143] [82] 40 e.1 ?_
      refine ⟨fun z => fun H hH => ?_, fun z => ⟨fun z2 => fun H hH => ?_, fun z2 => ⟨fun z3 => ⟨by decide, fun H hH => ?_⟩, fun z3 => ⟨by decide, fun H hH => ?_⟩⟩⟩⟩
      · have y1 : cI.toInt = ((Int8.ofInt 38).toInt32).toInt := (y_ci .eq _ _).mp z
        rw [c38, hc] at y1
        have f2 : y_fr G H [] [] := y_st f0 hH (by repeat (first | exact w_nil | refine w_cons (Or.inl (y_m rfl)) ?_ | refine w_cons (Or.inr (by assumption)) ?_)) (by repeat (first | exact w_nil | refine w_cons (Or.inl (y_m rfl)) ?_ | refine w_cons (Or.inr (by assumption)) ?_))
        exact T143 (y_mo (y_sq e f2 rfl rfl) rfl rfl) (tx_s_fr s2 f2 rfl rfl) pq (pr_k_t (by decide) y1) hoJ o5' (hE.trans (pr_op (by omega) (Or.inl y1)))
      · have y1 : cI.toInt = ((Int8.ofInt 124).toInt32).toInt := (y_ci .eq _ _).mp z2
        rw [c124, hc] at y1
        have f2 : y_fr G H [] [] := y_st f0 hH (by repeat (first | exact w_nil | refine w_cons (Or.inl (y_m rfl)) ?_ | refine w_cons (Or.inr (by assumption)) ?_)) (by repeat (first | exact w_nil | refine w_cons (Or.inl (y_m rfl)) ?_ | refine w_cons (Or.inr (by assumption)) ?_))
        exact T143 (y_mo (y_sq e f2 rfl rfl) rfl rfl) (tx_s_fr s2 f2 rfl rfl) pq (pr_k_t (by decide) y1) hoJ o5' (hE.trans (pr_op (by omega) (Or.inr y1)))
      · have y1 : ¬ (cI.toInt = ((Int8.ofInt 38).toInt32).toInt) := y_cif z
        have y2 : ¬ (cI.toInt = ((Int8.ofInt 124).toInt32).toInt) := y_cif z2
        have y3 : oJ.toInt ≠ (0 : Int32).toInt := (y_ci .ne _ _).mp z3
        rw [c38, hc] at y1
        rw [c124, hc] at y2
        rw [z0] at y3
        have f2 : y_fr G H [] [] := y_st f0 hH (by repeat (first | exact w_nil | refine w_cons (Or.inl (y_m rfl)) ?_ | refine w_cons (Or.inr (by assumption)) ?_)) (by repeat (first | exact w_nil | refine w_cons (Or.inl (y_m rfl)) ?_ | refine w_cons (Or.inr (by assumption)) ?_))
        refine hK false q H (y_mo (y_sq e f2 rfl rfl) rfl rfl) (tx_s_fr s2 f2 rfl rfl) (hE.trans ?_)
        rw [pr_end (by omega) h41 y1 y2, decide_eq_false (by omega)]
      · have y1 : ¬ (cI.toInt = ((Int8.ofInt 38).toInt32).toInt) := y_cif z
        have y2 : ¬ (cI.toInt = ((Int8.ofInt 124).toInt32).toInt) := y_cif z2
        have y3 : ¬ (oJ.toInt ≠ (0 : Int32).toInt) := y_cif z3
        rw [c38, hc] at y1
        rw [c124, hc] at y2
        rw [z0] at y3
        have f2 : y_fr G H [] [] := y_st f0 hH (by repeat (first | exact w_nil | refine w_cons (Or.inl (y_m rfl)) ?_ | refine w_cons (Or.inr (by assumption)) ?_)) (by repeat (first | exact w_nil | refine w_cons (Or.inl (y_m rfl)) ?_ | refine w_cons (Or.inr (by assumption)) ?_))
        refine hK true q H (y_mo (y_sq e f2 rfl rfl) rfl rfl) (tx_s_fr s2 f2 rfl rfl) (hE.trans ?_)
        rw [pr_end (by omega) h41 y1 y2, decide_eq_true (by omega)]
    have T112 : ∀ {G : aH} {oJ : Int32} {q o' : Nat} {p3 p4 : Option Value}, y_fr h G [1538] [] → tx_s nd G sg t q → p < q → oJ.toInt = o' → o' ≤ 5 → pr_E (y_N sg) t nd.toInt false p o = pr_E (y_N sg) t nd.toInt true q o' → ¬ (pr_k (y_N sg) t q = 41 ∧ 0 < o') → aOK s_P X (d + 2) a_m87 112 [some (.ref 14), some (.ref 73), some (.int pI), p3, p4] [.int oJ] G C S K0 := by
      intro G oJ q o' p3 p4 e s2 pq hoJ o5' hE h41
      refine w_go z_hl [143] [82] 20 e.1 ?_
      intro H hH
      have f2 : y_fr G H [] [] := y_st (y_rf e.1) hH (by repeat (first | exact w_nil | refine w_cons (Or.inl (y_m rfl)) ?_ | refine w_cons (Or.inr (by assumption)) ?_)) (by repeat (first | exact w_nil | refine w_cons (Or.inl (y_m rfl)) ?_ | refine w_cons (Or.inr (by assumption)) ?_))
      refine c_lkT (tx_s_fr s2 f2 rfl rfl) (fun r H2 f3 er => ⟨fun n e => (by cases e), ?_⟩)
      exact T117 (y_sq (y_sq e f2 rfl rfl) f3 rfl rfl) (tx_s_fr (tx_s_fr s2 f2 rfl rfl) f3 rfl rfl) pq hoJ o5' er hE h41
    have T97 : ∀ {G : aH} {cI : Int32}, y_fr h G [] [] → p < t → 97 ≤ pr_k (y_N sg) t p → pr_k (y_N sg) t p < 97 + nd.toInt → aOK s_P X (d + 2) a_m87 97 [some (.ref 14), some (.ref 73), some (.int pI), some (.int oI), some (.int cI)] [] G C S K0 := by
      intro G cI e ptt h97 h98
      have s2 := tx_s_fr s e rfl rfl
      have inc : (atI + Int32.ofInt 1).toInt = ((p + 1 : Nat) : Int) := by rw [y_inc (by omega), a5]; rfl
      refine w_go z_hl [12] [88] 30 e.1 ?_
      intro x hx _ _
      obtain rfl := y_fi ((y_fe e rfl).trans a4) hx
      refine ⟨rfl, y_zini (by show 0 ≤ (atI + Int32.ofInt 1).toInt; omega) (by show (atI + Int32.ofInt 1).toInt ≤ 40; omega), fun H hH => ?_⟩
      have f : y_fr G H [1538] [] := y_st (y_mo (y_rf e.1) rfl rfl) hH (by repeat (first | exact w_nil | refine w_cons (Or.inl (y_m rfl)) ?_ | refine w_cons (Or.inr (by assumption)) ?_)) (by repeat (first | exact w_nil | refine w_cons (Or.inl (y_m rfl)) ?_ | refine w_cons (Or.inr (by assumption)) ?_))
      have s3 := tx_s_at s2 f rfl (hH.2.1 1538 _ rfl) inc (by omega)
      obtain ⟨k1, k2, k3, k4, k5⟩ := pr_c_p (T := y_N sg) (n := nd.toInt) t40 o (p + 1) (by omega)
      refine c_closeBr (d := d) s3 ho o5 (fun r H2 f2 s4 er => ⟨fun n e => (by cases e), ?_⟩)
      exact T112 (y_sq (y_sq (y_mo e rfl rfl) f rfl rfl) f2 rfl rfl) s4 (by omega) er (by omega) ((pr_let (by omega) h97 h98).trans k4) k5
    have T76 : ∀ {G : aH} {cI : Int32}, y_fr h G [] [] → p < t → cI.toInt = pr_k (y_N sg) t p → pr_k (y_N sg) t p ≠ 33 → ¬ (pr_k (y_N sg) t p = 40 ∧ o < 5) → aOK s_P X (d + 2) a_m87 76 [some (.ref 14), some (.ref 73), some (.int pI), some (.int oI), some (.int cI)] [] G C S K0 := by
      intro G cI e ptt hc h33 h40
      have bad : ∀ {H : aH}, y_fr h H [] [] → ¬ (97 ≤ pr_k (y_N sg) t p ∧ pr_k (y_N sg) t p < 97 + nd.toInt) → K0 (some (.int (y_01 false))) H C S := fun f w => hK false p _ (y_mo f rfl rfl) (tx_s_fr s f rfl rfl) (pr_bad (by omega) h33 h40 w)
      refine w_go z_hl [97] [88] 30 e.1 ?_
      refine ⟨fun z => ⟨by decide, fun H hH => bad (y_st e hH (by repeat (first | exact w_nil | refine w_cons (Or.inl (y_m rfl)) ?_ | refine w_cons (Or.inr (by assumption)) ?_)) (by repeat (first | exact w_nil | refine w_cons (Or.inl (y_m rfl)) ?_ | refine w_cons (Or.inr (by assumption)) ?_))) (fun w => ?_)⟩, fun z => ?_⟩
      · have y1 : cI.toInt < ((Int8.ofInt 97).toInt32).toInt := (y_ci .lt _ _).mp z
        rw [c97, hc] at y1
        have := w.1
        omega
      · have y1 : ¬ (cI.toInt < ((Int8.ofInt 97).toInt32).toInt) := y_cif z
        rw [c97, hc] at y1
        intro x hx _ _
        obtain rfl := y_fi ((y_fe e rfl).trans a6) hx
        refine ⟨fun z2 => fun H hH => ?_, fun z2 => ⟨by decide, fun H hH => bad (y_st e hH (by repeat (first | exact w_nil | refine w_cons (Or.inl (y_m rfl)) ?_ | refine w_cons (Or.inr (by assumption)) ?_)) (by repeat (first | exact w_nil | refine w_cons (Or.inl (y_m rfl)) ?_ | refine w_cons (Or.inr (by assumption)) ?_))) (fun w => ?_)⟩⟩
        · have y2 : cI.toInt < ((Int8.ofInt 97).toInt32 + nd).toInt := (y_ci .lt _ _).mp z2
          rw [cn, hc] at y2
          exact T97 (y_st e hH (by repeat (first | exact w_nil | refine w_cons (Or.inl (y_m rfl)) ?_ | refine w_cons (Or.inr (by assumption)) ?_)) (by repeat (first | exact w_nil | refine w_cons (Or.inl (y_m rfl)) ?_ | refine w_cons (Or.inr (by assumption)) ?_))) ptt (by omega) y2
        · have y2 : ¬ (cI.toInt < ((Int8.ofInt 97).toInt32 + nd).toInt) := y_cif z2
          rw [cn, hc] at y2
          exact y2 w.2
    have T48 : ∀ {G : aH} {cI : Int32} (b : Bool), y_fr h G [] [] → p < t → cI.toInt = (if b then 40 else 33) → pr_E (y_N sg) t nd.toInt false p o = pr_E (y_N sg) t nd.toInt false (p + 1) (o + (if b then 1 else 0)) → o + (if b then 1 else 0) ≤ 5 → aOK s_P X (d + 2) a_m87 48 [some (.ref 14), some (.ref 73), some (.int pI), some (.int oI), some (.int cI)] [] G C S K0 := by
      intro G cI b e ptt hc hE o5'
      have s2 := tx_s_fr s e rfl rfl
      have inc : (atI + Int32.ofInt 1).toInt = ((p + 1 : Nat) : Int) := by rw [y_inc (by omega), a5]; rfl
      cases b with
      | true =>
        have hc' : cI.toInt = 40 := hc
        have ino : (oI + Int32.ofInt 1).toInt = ((o + 1 : Nat) : Int) := by rw [y_inc (by omega), ho]; rfl
        have o6 : o + 1 ≤ 5 := o5'
        refine w_go z_hl [12] [88] 40 e.1 ?_
        refine ⟨fun z => ?_, fun _ => ?_⟩
        · have y1 : cI.toInt ≠ ((Int8.ofInt 40).toInt32).toInt := (y_ci .ne _ _).mp z
          rw [c40] at y1
          exact absurd hc' y1
        · intro x hx _ _
          obtain rfl := y_fi ((y_fe e rfl).trans a4) hx
          refine ⟨rfl, y_zini (by show 0 ≤ (atI + Int32.ofInt 1).toInt; omega) (by show (atI + Int32.ofInt 1).toInt ≤ 40; omega), fun H hH => ?_⟩
          have f : y_fr G H [1538] [] := y_st (y_mo (y_rf e.1) rfl rfl) hH (by repeat (first | exact w_nil | refine w_cons (Or.inl (y_m rfl)) ?_ | refine w_cons (Or.inr (by assumption)) ?_)) (by repeat (first | exact w_nil | refine w_cons (Or.inl (y_m rfl)) ?_ | refine w_cons (Or.inr (by assumption)) ?_))
          exact ih H (p + 1) _ (o + 1) _ (tx_s_at s2 f rfl (hH.2.1 1538 _ rfl) inc (by omega)) ino o6 (by omega) (fun b r H' f1 f2 f3 => hK b r H' (y_sq (y_mo (y_sq (y_mo e rfl rfl) f rfl rfl : y_fr h H [1538] []) rfl rfl) f1 rfl rfl) f2 (hE.trans f3))
      | false =>
        have hc' : cI.toInt = 33 := hc
        have ino : (oI + Int32.ofInt 0).toInt = (o : Nat) := by rw [show Int32.ofInt 0 = (0 : Int32) by decide, Int32.add_zero]; exact ho
        refine w_go z_hl [12] [88] 40 e.1 ?_
        refine ⟨fun _ => ?_, fun z => ?_⟩
        · intro x hx _ _
          obtain rfl := y_fi ((y_fe e rfl).trans a4) hx
          refine ⟨rfl, y_zini (by show 0 ≤ (atI + Int32.ofInt 1).toInt; omega) (by show (atI + Int32.ofInt 1).toInt ≤ 40; omega), fun H hH => ?_⟩
          have f : y_fr G H [1538] [] := y_st (y_mo (y_rf e.1) rfl rfl) hH (by repeat (first | exact w_nil | refine w_cons (Or.inl (y_m rfl)) ?_ | refine w_cons (Or.inr (by assumption)) ?_)) (by repeat (first | exact w_nil | refine w_cons (Or.inl (y_m rfl)) ?_ | refine w_cons (Or.inr (by assumption)) ?_))
          exact ih H (p + 1) _ o _ (tx_s_at s2 f rfl (hH.2.1 1538 _ rfl) inc (by omega)) ino o5 (by omega) (fun b r H' f1 f2 f3 => hK b r H' (y_sq (y_mo (y_sq (y_mo e rfl rfl) f rfl rfl : y_fr h H [1538] []) rfl rfl) f1 rfl rfl) f2 (hE.trans f3))
        · have y1 : ¬ (cI.toInt ≠ ((Int8.ofInt 40).toInt32).toInt) := y_cif z
          rw [c40] at y1
          exfalso
          omega
    have T27 : ∀ {G : aH} {cI : Int32}, y_fr h G [] [] → p < t → cI.toInt = pr_k (y_N sg) t p → aOK s_P X (d + 2) a_m87 27 [some (.ref 14), some (.ref 73), some (.int pI), some (.int oI), o4] [.int cI] G C S K0 := by
      intro G cI e ptt hc
      refine w_go z_hl [48, 76] [88] 40 e.1 ?_
      refine ⟨fun z => fun H hH => ?_, fun z => ⟨fun z2 => fun H hH => ?_, fun z2 => ⟨fun z3 => fun H hH => ?_, fun z3 => fun H hH => ?_⟩⟩⟩
      · have y1 : cI.toInt = ((Int8.ofInt 33).toInt32).toInt := (y_ci .eq _ _).mp z
        rw [c33] at y1
        exact T48 false (y_st e hH (by repeat (first | exact w_nil | refine w_cons (Or.inl (y_m rfl)) ?_ | refine w_cons (Or.inr (by assumption)) ?_)) (by repeat (first | exact w_nil | refine w_cons (Or.inl (y_m rfl)) ?_ | refine w_cons (Or.inr (by assumption)) ?_))) ptt y1 (pr_bang (by omega) (hc.symm.trans y1)) o5
      · have y1 : ¬ (cI.toInt = ((Int8.ofInt 33).toInt32).toInt) := y_cif z
        have y2 : cI.toInt ≠ ((Int8.ofInt 40).toInt32).toInt := (y_ci .ne _ _).mp z2
        rw [c33, hc] at y1
        rw [c40, hc] at y2
        exact T76 (y_st e hH (by repeat (first | exact w_nil | refine w_cons (Or.inl (y_m rfl)) ?_ | refine w_cons (Or.inr (by assumption)) ?_)) (by repeat (first | exact w_nil | refine w_cons (Or.inl (y_m rfl)) ?_ | refine w_cons (Or.inr (by assumption)) ?_))) ptt hc y1 (fun w => y2 w.1)
      · have y1 : ¬ (cI.toInt = ((Int8.ofInt 33).toInt32).toInt) := y_cif z
        have y3 : (Int32.ofInt 5).toInt ≤ oI.toInt := (y_ci .ge _ _).mp z3
        rw [c33, hc] at y1
        rw [c5] at y3
        exact T76 (y_st e hH (by repeat (first | exact w_nil | refine w_cons (Or.inl (y_m rfl)) ?_ | refine w_cons (Or.inr (by assumption)) ?_)) (by repeat (first | exact w_nil | refine w_cons (Or.inl (y_m rfl)) ?_ | refine w_cons (Or.inr (by assumption)) ?_))) ptt hc y1 (fun w => by have := w.2; omega)
      · have y2 : ¬ (cI.toInt ≠ ((Int8.ofInt 40).toInt32).toInt) := y_cif z2
        have y3 : ¬ ((Int32.ofInt 5).toInt ≤ oI.toInt) := y_cif z3
        rw [c40] at y2
        rw [c5] at y3
        have y4 : cI.toInt = 40 := Decidable.not_not.mp y2
        exact T48 true (y_st e hH (by repeat (first | exact w_nil | refine w_cons (Or.inl (y_m rfl)) ?_ | refine w_cons (Or.inr (by assumption)) ?_)) (by repeat (first | exact w_nil | refine w_cons (Or.inl (y_m rfl)) ?_ | refine w_cons (Or.inr (by assumption)) ?_))) ptt y4 (pr_open (by omega) (hc.symm.trans y4) (by omega)) (by show o + 1 ≤ 5; omega)
    refine w_go z_hl [12] [82] 30 hr ?_
    intro x hx _ _
    obtain rfl := y_fi a4 hx
    intro y hy _ _
    obtain rfl := y_fi a2 hy
    refine ⟨fun z => ⟨by decide, fun H hH => ?_⟩, fun z => fun H hH => ?_⟩
    · have y1 : toI.toInt ≤ atI.toInt := (y_ci .ge _ _).mp z
      have f : y_fr h H [] [] := y_st (y_rf hr) hH (by repeat (first | exact w_nil | refine w_cons (Or.inl (y_m rfl)) ?_ | refine w_cons (Or.inr (by assumption)) ?_)) (by repeat (first | exact w_nil | refine w_cons (Or.inl (y_m rfl)) ?_ | refine w_cons (Or.inr (by assumption)) ?_))
      have k0 : pr_k (y_N sg) t p = 0 := if_neg (by omega)
      exact hK false p H (y_mo f rfl rfl) (tx_s_fr s f rfl rfl) (pr_bad (by omega) (by omega) (fun w => by have := w.1; omega) (fun w => by have := w.1; omega))
    · have y1 : ¬ (toI.toInt ≤ atI.toInt) := y_cif z
      have f : y_fr h H [] [] := y_st (y_rf hr) hH (by repeat (first | exact w_nil | refine w_cons (Or.inl (y_m rfl)) ?_ | refine w_cons (Or.inr (by assumption)) ?_)) (by repeat (first | exact w_nil | refine w_cons (Or.inl (y_m rfl)) ?_ | refine w_cons (Or.inr (by assumption)) ?_))
      refine c_lkT (tx_s_fr s f rfl rfl) (fun r H2 f2 er => ⟨fun n e => (by cases e), ?_⟩)
      exact T27 (y_sq f f2 rfl rfl) (by omega) er
theorem c_ev8 {h : aH} {p : Nat} (n0 : 0 ≤ nd.toInt) (n10 : nd.toInt ≤ 10) {pI : Int32} {pa : Nat} (hpa : pI.toInt = pa) (pa4 : pa < 4) (s : tx_s nd h sg t p) {fr : List Int32} (gf : w_a h 73 = some (0, .inl fr)) (hK : ∀ (b : Bool) (q : Nat) (aI : Int32) (H : aH), y_fr h H [1538] [73, 74, 75] → tx_s nd H sg t q → pr_E (y_N sg) t nd.toInt false p 0 = (b, q) → w_a H 73 = some (0, .inl (fr.set pa aI)) → 0 ≤ aI.toInt → K0 (some (.int (y_01 b))) H C S) : aOK s_P X (d + 2) a_m87 0 [some (.ref 14), some (.ref 73), some (.int pI), none, none] [] h C S K0 := by
  obtain ⟨toI, atI, hr, a1, a2, a3, a4, a5, a6, pt, t40⟩ := id s
  have cp := y_cl1 hpa
  refine w_go z_hl [12] [] 30 hr ?_
  intro x hx _ _
  obtain rfl := y_fi a4 hx
  refine ⟨⟨by omega, by omega⟩, ⟨by omega, by omega⟩, fun l hl len bb => fun H hH => ?_⟩
  obtain rfl := y_ai gf hl
  have w := hH.2.2.1 73 _ rfl
  rw [cp] at w
  have f : y_fr h H [] [73] := y_st (y_mo (y_rf hr) rfl rfl) hH (by repeat (first | exact w_nil | refine w_cons (Or.inl (y_m rfl)) ?_ | refine w_cons (Or.inr (by assumption)) ?_)) (by repeat (first | exact w_nil | refine w_cons (Or.inl (y_m rfl)) ?_ | refine w_cons (Or.inr (by assumption)) ?_))
  exact c_evl8 (d := d) n0 n10 hpa pa4 40 H p _ 0 _ (tx_s_fr s f rfl rfl) (by decide) (by decide) (by omega) (fun b q H' f1 f2 f3 => hK b q atI H' (y_sq (y_mo f rfl rfl) f1 rfl rfl) f2 f3 ((y_ae f1 rfl).trans w) (by omega))
end PEV8
end PT33ics
section PT33ict
/-! ===== v21: parseGiven, parseRate, parseTerm of the class with saying 8 (laid by wip/tools/mk21d.py) ===== -/
section PPT8
variable {X : aX} {C S d : Nat} {K0 : Option Value → aH → Nat → Nat → Prop} {sg : List Int32} {t p : Nat} {nd : Int32} {h : aH}
theorem c_gv8 (n0 : 0 ≤ nd.toInt) (n10 : nd.toInt ≤ 10) {sI : Int32} {sd : Nat} (hs : sI.toInt = sd) (hs2 : sd < 2) (s : tx_s nd h sg t p) {fr : List Int32} (gf : w_a h 73 = some (0, .inl fr)) (hK : ∀ (b : Bool) (q k : Nat) (H : aH) (fr' : List Int32), y_fr h H [1538] [73, 74, 75] → tx_s nd H sg t q → pr_gv (y_N sg) t nd.toInt p = (b, q, k) → w_a H 73 = some (0, .inl fr') → tx_f fr fr' sd k → K0 (some (.int (y_01 b))) H C S) : aOK s_P X (d + 3) a_m86 0 [some (.ref 14), some (.ref 73), some (.int sI)] [] h C S K0 := by
  obtain ⟨toI, atI, hr, a1, a2, a3, a4, a5, a6, pt, t40⟩ := id s
  obtain ⟨fr0, f1, fl, -⟩ := c_arr hr (ob := 73) (n := 4) (lo := -1) (hi := 40) rfl
  obtain rfl := y_ai gf f1
  have c47 : ((Int8.ofInt 47).toInt32).toInt = 47 := by decide
  have m1 : (Int32.ofInt 2 * sI).toInt = ((2 * sd : Nat) : Int) := y_mulS (m := 2) _ (by decide) hs rfl (by omega)
  have m2 : (Int32.ofInt 2 * sI + Int32.ofInt 1).toInt = ((2 * sd + 1 : Nat) : Int) := y_addS _ m1 (n := 1) (by decide) rfl (by omega)
  have T44 : ∀ {G : aH} {b : Bool} {q k : Nat} {fr' : List Int32}, y_fr h G [1538] [73, 74, 75] → tx_s nd G sg t q → pr_gv (y_N sg) t nd.toInt p = (b, q, k) → w_a G 73 = some (0, .inl fr') → tx_f fr fr' sd k → aOK s_P X (d + 3) a_m86 44 [some (.ref 14), some (.ref 73), some (.int sI)] [.int (y_01 b)] G C S K0 := by
    intro G b q k fr' e s2 hg g2 hf
    refine w_go z_hl [] [] 20 e.1 ?_
    refine ⟨y_01b b, fun H hH => ?_⟩
    have f : y_fr G H [] [] := y_st (y_rf e.1) hH (by repeat (first | exact w_nil | refine w_cons (Or.inl (y_m rfl)) ?_ | refine w_cons (Or.inr (by assumption)) ?_)) (by repeat (first | exact w_nil | refine w_cons (Or.inl (y_m rfl)) ?_ | refine w_cons (Or.inr (by assumption)) ?_))
    exact hK b q k H fr' (y_sq e f rfl rfl) (tx_s_fr s2 f rfl rfl) hg ((y_ae f rfl).trans g2) hf
  have T24 : ∀ {G : aH} {q : Nat} {aI : Int32}, y_fr h G [1538] [73, 74, 75] → tx_s nd G sg t q → q < t → pr_E (y_N sg) t nd.toInt false p 0 = (true, q) → pr_k (y_N sg) t q = 47 → w_a G 73 = some (0, .inl (fr.set (2 * sd) aI)) → 0 ≤ aI.toInt → aOK s_P X (d + 3) a_m86 24 [some (.ref 14), some (.ref 73), some (.int sI)] [] G C S K0 := by
    intro G q aI e s2 qt hE h47 g2 ha
    obtain ⟨toJ, atJ, -, b1, b2, b3, b4, b5, b6, -, -⟩ := id s2
    have inc : (atJ + Int32.ofInt 1).toInt = ((q + 1 : Nat) : Int) := by rw [y_inc (by omega), b5]; rfl
    refine w_go z_hl [] [87] 30 e.1 ?_
    intro x hx _ _
    obtain rfl := y_fi b4 hx
    refine ⟨rfl, y_zini (by show 0 ≤ (atJ + Int32.ofInt 1).toInt; omega) (by show (atJ + Int32.ofInt 1).toInt ≤ 40; omega), fun H hH => ?_⟩
    have f : y_fr G H [1538] [] := y_st (y_mo (y_rf e.1) rfl rfl) hH (by repeat (first | exact w_nil | refine w_cons (Or.inl (y_m rfl)) ?_ | refine w_cons (Or.inr (by assumption)) ?_)) (by repeat (first | exact w_nil | refine w_cons (Or.inl (y_m rfl)) ?_ | refine w_cons (Or.inr (by assumption)) ?_))
    refine c_ev8 (d := d) n0 n10 m2 (by omega) (tx_s_at s2 f rfl (hH.2.1 1538 _ rfl) inc (by omega)) ((y_ae f rfl).trans g2) (fun b r aJ H2 f2 s3 hE2 g3 ha2 => ⟨fun n e => (by cases e), ?_⟩)
    exact T44 (k := 2) (y_sq (y_sq e f rfl rfl) f2 rfl rfl) s3 (pr_gv_2 hE h47 hE2) g3 (tx_f_2 fl ha ha2 hs2)
  have T17 : ∀ {G : aH} {q : Nat} {aI cI : Int32}, y_fr h G [1538] [73, 74, 75] → tx_s nd G sg t q → cI.toInt = pr_k (y_N sg) t q → pr_E (y_N sg) t nd.toInt false p 0 = (true, q) → w_a G 73 = some (0, .inl (fr.set (2 * sd) aI)) → 0 ≤ aI.toInt → aOK s_P X (d + 3) a_m86 17 [some (.ref 14), some (.ref 73), some (.int sI)] [.int cI] G C S K0 := by
    intro G q aI cI e s2 hc hE g2 ha
    refine w_go z_hl [24] [] 30 e.1 ?_
    refine ⟨fun z => fun H hH => ?_, fun z => ⟨by decide, fun H hH => ?_⟩⟩
    · have y1 : cI.toInt = ((Int8.ofInt 47).toInt32).toInt := (y_ci .eq _ _).mp z
      rw [c47, hc] at y1
      have f : y_fr G H [] [] := y_st (y_rf e.1) hH (by repeat (first | exact w_nil | refine w_cons (Or.inl (y_m rfl)) ?_ | refine w_cons (Or.inr (by assumption)) ?_)) (by repeat (first | exact w_nil | refine w_cons (Or.inl (y_m rfl)) ?_ | refine w_cons (Or.inr (by assumption)) ?_))
      exact T24 (y_sq e f rfl rfl) (tx_s_fr s2 f rfl rfl) (pr_k_t (by decide) y1) hE y1 ((y_ae f rfl).trans g2) ha
    · have y1 : ¬ (cI.toInt = ((Int8.ofInt 47).toInt32).toInt) := y_cif z
      rw [c47, hc] at y1
      have f : y_fr G H [] [] := y_st (y_rf e.1) hH (by repeat (first | exact w_nil | refine w_cons (Or.inl (y_m rfl)) ?_ | refine w_cons (Or.inr (by assumption)) ?_)) (by repeat (first | exact w_nil | refine w_cons (Or.inl (y_m rfl)) ?_ | refine w_cons (Or.inr (by assumption)) ?_))
      exact hK true q 1 H _ (y_sq e f rfl rfl) (tx_s_fr s2 f rfl rfl) (pr_gv_1 hE y1) ((y_ae f rfl).trans g2) (tx_f_1 fl ha hs2)
  have T8 : ∀ {G : aH} {q : Nat} {aI : Int32} (b : Bool), y_fr h G [1538] [73, 74, 75] → tx_s nd G sg t q → pr_E (y_N sg) t nd.toInt false p 0 = (b, q) → w_a G 73 = some (0, .inl (fr.set (2 * sd) aI)) → 0 ≤ aI.toInt → aOK s_P X (d + 3) a_m86 8 [some (.ref 14), some (.ref 73), some (.int sI)] [.int (y_01 b)] G C S K0 := by
    intro G q aI b e s2 hE g2 ha
    cases b with
    | true =>
      refine w_go z_hl [24] [82] 30 e.1 ?_
      refine ⟨fun _ => fun H hH => ?_, fun z => absurd z (by decide)⟩
      have f : y_fr G H [] [] := y_st (y_rf e.1) hH (by repeat (first | exact w_nil | refine w_cons (Or.inl (y_m rfl)) ?_ | refine w_cons (Or.inr (by assumption)) ?_)) (by repeat (first | exact w_nil | refine w_cons (Or.inl (y_m rfl)) ?_ | refine w_cons (Or.inr (by assumption)) ?_))
      refine c_lkT (tx_s_fr s2 f rfl rfl) (fun r H2 f2 er => ⟨fun n e => (by cases e), ?_⟩)
      exact T17 (y_sq (y_sq e f rfl rfl) f2 rfl rfl) (tx_s_fr (tx_s_fr s2 f rfl rfl) f2 rfl rfl) er hE ((y_ae f2 rfl).trans ((y_ae f rfl).trans g2)) ha
    | false =>
      refine w_go z_hl [24] [82] 30 e.1 ?_
      refine ⟨fun z => absurd z (by decide), fun _ => ⟨by decide, fun H hH => ?_⟩⟩
      have f : y_fr G H [] [] := y_st (y_rf e.1) hH (by repeat (first | exact w_nil | refine w_cons (Or.inl (y_m rfl)) ?_ | refine w_cons (Or.inr (by assumption)) ?_)) (by repeat (first | exact w_nil | refine w_cons (Or.inl (y_m rfl)) ?_ | refine w_cons (Or.inr (by assumption)) ?_))
      exact hK false q 1 H _ (y_sq e f rfl rfl) (tx_s_fr s2 f rfl rfl) (pr_gv_n hE) ((y_ae f rfl).trans g2) (tx_f_1 fl ha hs2)
  refine w_go z_hl [] [87] 30 hr ?_
  intro H hH
  have f : y_fr h H [] [] := y_st (y_rf hr) hH (by repeat (first | exact w_nil | refine w_cons (Or.inl (y_m rfl)) ?_ | refine w_cons (Or.inr (by assumption)) ?_)) (by repeat (first | exact w_nil | refine w_cons (Or.inl (y_m rfl)) ?_ | refine w_cons (Or.inr (by assumption)) ?_))
  refine c_ev8 (d := d) n0 n10 m1 (by omega) (tx_s_fr s f rfl rfl) ((y_ae f rfl).trans gf) (fun b q aI H2 f2 s3 hE g3 ha => ⟨fun n e => (by cases e), ?_⟩)
  exact T8 b (y_sq (y_mo f rfl rfl) f2 rfl rfl) s3 hE g3 ha
theorem c_rt8 {sI : Int32} {sd : Nat} (hs : sI.toInt = sd) (hs2 : sd < 2) (s : tx_s nd h sg t p) (hK : ∀ (b : Bool) (q : Nat) (H : aH), y_fr h H [1538] [76, 77] → tx_s nd H sg t q → pr_rt (y_N sg) t p = (b, q, 0) → K0 (some (.int (y_01 b))) H C S) : aOK s_P X (d + 2) a_m84 0 [some (.ref 14), some (.ref 73), some (.int sI)] [] h C S K0 := by
  obtain ⟨toI, atI, hr, a1, a2, a3, a4, a5, a6, pt, t40⟩ := id s
  have c58 : ((Int8.ofInt 58).toInt32).toInt = 58 := by decide
  have c48 : ((Int8.ofInt 48).toInt32).toInt = 48 := by decide
  have T61 : ∀ {G : aH} {q : Nat} {r : Int32}, y_fr h G [1538] [76] → tx_s nd G sg t q → pr_rt (y_N sg) t p = (true, q, 0) → aOK s_P X (d + 2) a_m84 61 [some (.ref 14), some (.ref 73), some (.int sI)] [.int r, .int sI, .ref 79] G C S K0 := by
    intro G q r e s2 hg
    refine w_go z_hl [] [] 20 e.1 ?_
    refine ⟨⟨by omega, by omega⟩, y_l32 _, fun l hl len bb => ⟨by decide, fun H hH => ?_⟩⟩
    have f : y_fr G H [] [77] := y_st (y_mo (y_rf e.1) rfl rfl) hH (by repeat (first | exact w_nil | refine w_cons (Or.inl (y_m rfl)) ?_ | refine w_cons (Or.inr (by assumption)) ?_)) (by repeat (first | exact w_nil | refine w_cons (Or.inl (y_m rfl)) ?_ | refine w_cons (Or.inr (by assumption)) ?_))
    exact hK true q H (y_sq (y_mo e rfl rfl) f rfl rfl) (tx_s_fr s2 f rfl rfl) hg
  have T45 : ∀ {G : aH} {cI : Int32}, y_fr h G [1538] [76] → tx_s nd G sg t (pr_dq (y_N sg) t 8 p + 1) → pr_k (y_N sg) t (pr_dq (y_N sg) t 8 p) = 58 → pr_dg (y_N sg) t (pr_dq (y_N sg) t 8 p + 1) → cI.toInt = pr_k (y_N sg) t (pr_dq (y_N sg) t 8 p + 1) → aOK s_P X (d + 2) a_m84 45 [some (.ref 14), some (.ref 73), some (.int sI)] [.int cI] G C S K0 := by
    intro G cI e s2 h58 hd hc
    have hd1 := hd.1
    have hd2 := hd.2
    refine w_go z_hl [] [85] 30 e.1 ?_
    refine ⟨fun z => fun H hH => ?_, fun z => ⟨by decide, fun H hH => ?_⟩⟩
    · have y1 : cI.toInt ≠ ((Int8.ofInt 48).toInt32).toInt := (y_ci .ne _ _).mp z
      rw [c48, hc] at y1
      have f : y_fr G H [] [] := y_st (y_rf e.1) hH (by repeat (first | exact w_nil | refine w_cons (Or.inl (y_m rfl)) ?_ | refine w_cons (Or.inr (by assumption)) ?_)) (by repeat (first | exact w_nil | refine w_cons (Or.inl (y_m rfl)) ?_ | refine w_cons (Or.inr (by assumption)) ?_))
      refine c_number (d := d) (tx_s_fr s2 f rfl rfl) (fun r H2 f2 s3 => ⟨fun n e => (by cases e), ?_⟩)
      exact T61 (y_sq (y_sq e f rfl rfl) f2 rfl rfl) s3 (pr_rt_1 h58 ⟨by omega, hd2⟩)
    · have y1 : ¬ (cI.toInt ≠ ((Int8.ofInt 48).toInt32).toInt) := y_cif z
      rw [c48, hc] at y1
      have f : y_fr G H [] [] := y_st (y_rf e.1) hH (by repeat (first | exact w_nil | refine w_cons (Or.inl (y_m rfl)) ?_ | refine w_cons (Or.inr (by assumption)) ?_)) (by repeat (first | exact w_nil | refine w_cons (Or.inl (y_m rfl)) ?_ | refine w_cons (Or.inr (by assumption)) ?_))
      exact hK false _ H (y_mo (y_sq e f rfl rfl) rfl rfl) (tx_s_fr s2 f rfl rfl) (pr_rt_0 h58 (fun w => by have := w.1; omega))
  have T38 : ∀ {G : aH} (b : Bool), y_fr h G [1538] [76] → tx_s nd G sg t (pr_dq (y_N sg) t 8 p + 1) → pr_k (y_N sg) t (pr_dq (y_N sg) t 8 p) = 58 → (b = true → pr_dg (y_N sg) t (pr_dq (y_N sg) t 8 p + 1)) → (b = false → ¬ pr_dg (y_N sg) t (pr_dq (y_N sg) t 8 p + 1)) → aOK s_P X (d + 2) a_m84 38 [some (.ref 14), some (.ref 73), some (.int sI)] [.int (y_01 b)] G C S K0 := by
    intro G b e s2 h58 hy hn
    cases b with
    | true =>
      refine w_go z_hl [] [82] 30 e.1 ?_
      refine ⟨fun z => absurd z (by decide), fun _ => fun H hH => ?_⟩
      have f : y_fr G H [] [] := y_st (y_rf e.1) hH (by repeat (first | exact w_nil | refine w_cons (Or.inl (y_m rfl)) ?_ | refine w_cons (Or.inr (by assumption)) ?_)) (by repeat (first | exact w_nil | refine w_cons (Or.inl (y_m rfl)) ?_ | refine w_cons (Or.inr (by assumption)) ?_))
      refine c_lkT (tx_s_fr s2 f rfl rfl) (fun r H2 f2 er => ⟨fun n e => (by cases e), ?_⟩)
      exact T45 (y_sq (y_sq e f rfl rfl) f2 rfl rfl) (tx_s_fr (tx_s_fr s2 f rfl rfl) f2 rfl rfl) h58 (hy rfl) er
    | false =>
      refine w_go z_hl [] [82] 30 e.1 ?_
      refine ⟨fun _ => ⟨by decide, fun H hH => ?_⟩, fun z => absurd z (by decide)⟩
      have f : y_fr G H [] [] := y_st (y_rf e.1) hH (by repeat (first | exact w_nil | refine w_cons (Or.inl (y_m rfl)) ?_ | refine w_cons (Or.inr (by assumption)) ?_)) (by repeat (first | exact w_nil | refine w_cons (Or.inl (y_m rfl)) ?_ | refine w_cons (Or.inr (by assumption)) ?_))
      exact hK false _ H (y_mo (y_sq e f rfl rfl) rfl rfl) (tx_s_fr s2 f rfl rfl) (pr_rt_0 h58 (fun w => hn rfl ⟨by have := w.1; omega, w.2⟩))
  have T35 : ∀ {G : aH} {cI : Int32}, y_fr h G [1538] [76] → tx_s nd G sg t (pr_dq (y_N sg) t 8 p + 1) → pr_k (y_N sg) t (pr_dq (y_N sg) t 8 p) = 58 → cI.toInt = pr_k (y_N sg) t (pr_dq (y_N sg) t 8 p + 1) → aOK s_P X (d + 2) a_m84 35 [some (.ref 14), some (.ref 73), some (.int sI)] [.int cI] G C S K0 := by
    intro G cI e s2 h58 hc
    refine w_go z_hl [] [83] 20 e.1 ?_
    intro H hH
    have f : y_fr G H [] [] := y_st (y_rf e.1) hH (by repeat (first | exact w_nil | refine w_cons (Or.inl (y_m rfl)) ?_ | refine w_cons (Or.inr (by assumption)) ?_)) (by repeat (first | exact w_nil | refine w_cons (Or.inl (y_m rfl)) ?_ | refine w_cons (Or.inr (by assumption)) ?_))
    refine c_isDg (c := cI) f.1 (fun H2 f2 w => ⟨fun n e => (by cases e), ?_⟩) (fun H2 f2 w => ⟨fun n e => (by cases e), ?_⟩)
    · exact T38 true (y_sq (y_sq e f rfl rfl) f2 rfl rfl) (tx_s_fr (tx_s_fr s2 f rfl rfl) f2 rfl rfl) h58 (fun _ => ⟨by omega, by omega⟩) (fun z => absurd z (by decide))
    · exact T38 false (y_sq (y_sq e f rfl rfl) f2 rfl rfl) (tx_s_fr (tx_s_fr s2 f rfl rfl) f2 rfl rfl) h58 (fun z => absurd z (by decide)) (fun _ z => w ⟨by have := z.1; omega, by have := z.2; omega⟩)
  have T14 : ∀ {G : aH} {cI : Int32}, y_fr h G [1538] [76] → tx_s nd G sg t (pr_dq (y_N sg) t 8 p) → cI.toInt = pr_k (y_N sg) t (pr_dq (y_N sg) t 8 p) → aOK s_P X (d + 2) a_m84 14 [some (.ref 14), some (.ref 73), some (.int sI)] [.int cI] G C S K0 := by
    intro G cI e s2 hc
    obtain ⟨toJ, atJ, -, b1, b2, b3, b4, b5, b6, qt, -⟩ := id s2
    refine w_go z_hl [] [82] 40 e.1 ?_
    refine ⟨fun z => ?_, fun z => ⟨by decide, fun H hH => ?_⟩⟩
    · have y1 : cI.toInt = ((Int8.ofInt 58).toInt32).toInt := (y_ci .eq _ _).mp z
      rw [c58, hc] at y1
      have qt' := pr_k_t (by decide) y1
      have inc : (atJ + Int32.ofInt 1).toInt = ((pr_dq (y_N sg) t 8 p + 1 : Nat) : Int) := by rw [y_inc (by omega), b5]; rfl
      intro x hx _ _
      obtain rfl := y_fi b4 hx
      refine ⟨rfl, y_zini (by show 0 ≤ (atJ + Int32.ofInt 1).toInt; omega) (by show (atJ + Int32.ofInt 1).toInt ≤ 40; omega), fun H hH => ?_⟩
      have f : y_fr G H [1538] [] := y_st (y_mo (y_rf e.1) rfl rfl) hH (by repeat (first | exact w_nil | refine w_cons (Or.inl (y_m rfl)) ?_ | refine w_cons (Or.inr (by assumption)) ?_)) (by repeat (first | exact w_nil | refine w_cons (Or.inl (y_m rfl)) ?_ | refine w_cons (Or.inr (by assumption)) ?_))
      have s3 := tx_s_at s2 f rfl (hH.2.1 1538 _ rfl) inc (by omega)
      refine c_lkT s3 (fun r H2 f2 er => ⟨fun n e => (by cases e), ?_⟩)
      exact T35 (y_sq (y_sq e f rfl rfl) f2 rfl rfl) (tx_s_fr s3 f2 rfl rfl) y1 er
    · have y1 : ¬ (cI.toInt = ((Int8.ofInt 58).toInt32).toInt) := y_cif z
      rw [c58, hc] at y1
      have f : y_fr G H [] [] := y_st (y_rf e.1) hH (by repeat (first | exact w_nil | refine w_cons (Or.inl (y_m rfl)) ?_ | refine w_cons (Or.inr (by assumption)) ?_)) (by repeat (first | exact w_nil | refine w_cons (Or.inl (y_m rfl)) ?_ | refine w_cons (Or.inr (by assumption)) ?_))
      exact hK false _ H (y_mo (y_sq e f rfl rfl) rfl rfl) (tx_s_fr s2 f rfl rfl) (pr_rt_n y1)
  have T9 : ∀ {G : aH} {r : Int32}, y_fr h G [1538] [] → tx_s nd G sg t (pr_dq (y_N sg) t 8 p) → aOK s_P X (d + 2) a_m84 9 [some (.ref 14), some (.ref 73), some (.int sI)] [.int r, .int sI, .ref 78] G C S K0 := by
    intro G r e s2
    refine w_go z_hl [] [82] 30 e.1 ?_
    refine ⟨⟨by omega, by omega⟩, y_l32 _, fun l hl len bb => fun H hH => ?_⟩
    have f : y_fr G H [] [76] := y_st (y_mo (y_rf e.1) rfl rfl) hH (by repeat (first | exact w_nil | refine w_cons (Or.inl (y_m rfl)) ?_ | refine w_cons (Or.inr (by assumption)) ?_)) (by repeat (first | exact w_nil | refine w_cons (Or.inl (y_m rfl)) ?_ | refine w_cons (Or.inr (by assumption)) ?_))
    refine c_lkT (tx_s_fr s2 f rfl rfl) (fun r H2 f2 er => ⟨fun n e => (by cases e), ?_⟩)
    exact T14 (y_sq (y_sq (y_mo e rfl rfl) f rfl rfl) f2 rfl rfl) (tx_s_fr (tx_s_fr s2 f rfl rfl) f2 rfl rfl) er
  refine w_go z_hl [] [85] 30 hr ?_
  intro H hH
  have f : y_fr h H [] [] := y_st (y_rf hr) hH (by repeat (first | exact w_nil | refine w_cons (Or.inl (y_m rfl)) ?_ | refine w_cons (Or.inr (by assumption)) ?_)) (by repeat (first | exact w_nil | refine w_cons (Or.inl (y_m rfl)) ?_ | refine w_cons (Or.inr (by assumption)) ?_))
  refine c_number (d := d) (tx_s_fr s f rfl rfl) (fun r H2 f2 s3 => ⟨fun n e => (by cases e), ?_⟩)
  exact T9 (y_sq (y_mo f rfl rfl) f2 rfl rfl) s3
end PPT8
end PT33ict
section PT33icu
/-! ===== v21: clear, parseTerm, parseFirst, parseSecond of the class with saying 8 (laid by wip/tools/mk21e.py) ===== -/
section PFS8
variable {X : aX} {C S d : Nat} {K0 : Option Value → aH → Nat → Nat → Prop} {sg : List Int32} {t p : Nat} {nd : Int32} {h : aH}
theorem c_clearl8 : ∀ (m : Nat) (h : aH) (iI : Int32) (i : Nat) (fr : List Int32), w_hr z_D h → iI.toInt = i → i + m = 4 → w_a h 73 = some (0, .inl fr) → fr.length = 4 → (∀ j, j < i → y_N fr j = -1) → (∀ (H : aH) (fr' : List Int32), y_fr h H [] [73, 74, 75] → w_a H 73 = some (0, .inl fr') → (∀ j, j < 4 → y_N fr' j = -1) → K0 none H C S) → aOK s_P X d a_m79 13 [some (.ref 73), some (.int iI)] [] h C S K0 := by
  have c4 : (Int32.ofInt 4).toInt = 4 := by decide
  intro m
  induction m with
  | zero =>
    intro h iI i fr hr hi hm g len hf hK
    have ei : i = 4 := by omega
    rw [ei] at hf
    refine w_go z_hl [13] [] 30 hr ?_
    refine ⟨fun _ => fun H hH => ?_, fun z => ?_⟩
    · have f : y_fr h H [] [] := y_st (y_rf hr) hH (by repeat (first | exact w_nil | refine w_cons (Or.inl (y_m rfl)) ?_ | refine w_cons (Or.inr (by assumption)) ?_)) (by repeat (first | exact w_nil | refine w_cons (Or.inl (y_m rfl)) ?_ | refine w_cons (Or.inr (by assumption)) ?_))
      exact hK H fr (y_mo f rfl rfl) ((y_ae f rfl).trans g) hf
    · have y1 : ¬ ((Int32.ofInt 4).toInt ≤ iI.toInt) := y_cif z
      rw [c4] at y1
      exfalso
      omega
  | succ m ih =>
    intro h iI i fr hr hi hm g len hf hK
    have ink : (iI + Int32.ofInt 1).toInt = ((i + 1 : Nat) : Int) := by rw [y_inc (by omega), hi]; rfl
    have ci := y_cl1 hi
    refine w_go z_hl [13] [] 60 hr ?_
    refine ⟨fun z => ?_, fun z => ?_⟩
    · have y1 : (Int32.ofInt 4).toInt ≤ iI.toInt := (y_ci .ge _ _).mp z
      rw [c4] at y1
      exfalso
      omega
    · refine ⟨⟨by omega, by omega⟩, by decide, fun l hl len1 bb => ?_⟩
      obtain rfl := y_ai g hl
      refine ⟨⟨by omega, by omega⟩, y_l32 _, fun l2 hl2 len2 bb2 => ⟨⟨by omega, by omega⟩, y_l32 _, fun l3 hl3 len3 bb3 => fun H hH => ?_⟩⟩
      have w := hH.2.2.1 73 _ rfl
      rw [ci] at w
      have f : y_fr h H [] [73, 74, 75] := y_st (y_mo (y_rf hr) rfl rfl) hH (by repeat (first | exact w_nil | refine w_cons (Or.inl (y_m rfl)) ?_ | refine w_cons (Or.inr (by assumption)) ?_)) (by repeat (first | exact w_nil | refine w_cons (Or.inl (y_m rfl)) ?_ | refine w_cons (Or.inr (by assumption)) ?_))
      refine ih H _ (i + 1) _ f.1 ink (by omega) w (by rw [List.length_set]; exact len) (fun j hj => ?_) (fun H' fr' f1 f2 f3 => hK H' fr' (y_sq f f1 rfl rfl) f2 f3)
      rw [y_Nset (by omega)]
      by_cases y : j = i
      · rw [if_pos y]
        decide
      · rw [if_neg y]
        exact hf j (by omega)
theorem c_clear8 (hr : w_hr z_D h) (hK : ∀ (H : aH) (fr : List Int32), y_fr h H [9089, 9090] [73, 74, 75] → w_a H 73 = some (0, .inl fr) → (∀ j, j < 4 → y_N fr j = -1) → K0 none H C S) : aOK s_P X d a_m79 0 [some (.ref 73), none] [] h C S K0 := by
  refine w_go z_hl [13] [] 30 hr ?_
  refine ⟨rfl, y_zini (by decide) (by decide), rfl, y_zini (by decide) (by decide), fun H hH => ?_⟩
  have f : y_fr h H [9089, 9090] [] := y_st (y_mo (y_rf hr) rfl rfl) hH (by repeat (first | exact w_nil | refine w_cons (Or.inl (y_m rfl)) ?_ | refine w_cons (Or.inr (by assumption)) ?_)) (by repeat (first | exact w_nil | refine w_cons (Or.inl (y_m rfl)) ?_ | refine w_cons (Or.inr (by assumption)) ?_))
  obtain ⟨fr, f1, fl, -⟩ := c_arr f.1 (ob := 73) (n := 4) (lo := -1) (hi := 40) rfl
  exact c_clearl8 4 H _ 0 fr f.1 (by decide) rfl f1 fl (fun j hj => absurd hj (Nat.not_lt_zero j)) (fun H' fr' e1 e2 e3 => hK H' fr' (y_sq (y_mo f rfl rfl) e1 rfl rfl) e2 e3)
theorem c_tm8 (n0 : 0 ≤ nd.toInt) (n10 : nd.toInt ≤ 10) {sI : Int32} {sd : Nat} (hs : sI.toInt = sd) (hs2 : sd < 2) (s : tx_s nd h sg t p) {fr : List Int32} (gf : w_a h 73 = some (0, .inl fr)) (hK : ∀ (b : Bool) (q k : Nat) (H : aH) (fr' : List Int32), y_fr h H [1538] [73, 74, 75, 76, 77] → tx_s nd H sg t q → pr_tm (y_N sg) t nd.toInt p = (b, q, k) → w_a H 73 = some (0, .inl fr') → (k = 0 ∧ fr' = fr) ∨ tx_f fr fr' sd k → K0 (some (.int (y_01 b))) H C S) : aOK s_P X (d + 4) a_m81 0 [some (.ref 14), some (.ref 73), some (.int sI)] [] h C S K0 := by
  have hr := (tx_s_hr s).1
  have T25 : ∀ {G : aH} {b : Bool} {q k : Nat} {pc : Nat} {fr' : List Int32}, (pc = 16 ∨ pc = 25) → y_fr h G [1538] [73, 74, 75, 76, 77] → tx_s nd G sg t q → pr_tm (y_N sg) t nd.toInt p = (b, q, k) → w_a G 73 = some (0, .inl fr') → (k = 0 ∧ fr' = fr) ∨ tx_f fr fr' sd k → aOK s_P X (d + 4) a_m81 pc [some (.ref 14), some (.ref 73), some (.int sI)] [.int (y_01 b)] G C S K0 := by
    intro G b q k pc fr' hpc e s2 hg g2 hf
    rcases hpc with rfl | rfl
    · refine w_go z_hl [] [] 20 e.1 ?_
      refine ⟨y_01b b, fun H hH => ?_⟩
      have f : y_fr G H [] [] := y_st (y_rf e.1) hH (by repeat (first | exact w_nil | refine w_cons (Or.inl (y_m rfl)) ?_ | refine w_cons (Or.inr (by assumption)) ?_)) (by repeat (first | exact w_nil | refine w_cons (Or.inl (y_m rfl)) ?_ | refine w_cons (Or.inr (by assumption)) ?_))
      exact hK b q k H fr' (y_sq e f rfl rfl) (tx_s_fr s2 f rfl rfl) hg ((y_ae f rfl).trans g2) hf
    · refine w_go z_hl [] [] 20 e.1 ?_
      refine ⟨y_01b b, fun H hH => ?_⟩
      have f : y_fr G H [] [] := y_st (y_rf e.1) hH (by repeat (first | exact w_nil | refine w_cons (Or.inl (y_m rfl)) ?_ | refine w_cons (Or.inr (by assumption)) ?_)) (by repeat (first | exact w_nil | refine w_cons (Or.inl (y_m rfl)) ?_ | refine w_cons (Or.inr (by assumption)) ?_))
      exact hK b q k H fr' (y_sq e f rfl rfl) (tx_s_fr s2 f rfl rfl) hg ((y_ae f rfl).trans g2) hf
  have T7 : ∀ {G : aH} (b : Bool), y_fr h G [] [] → (b = true → pr_dg (y_N sg) t p) → (b = false → ¬ pr_dg (y_N sg) t p) → aOK s_P X (d + 4) a_m81 7 [some (.ref 14), some (.ref 73), some (.int sI)] [.int (y_01 b)] G C S K0 := by
    intro G b e hy hn
    cases b with
    | true =>
      refine w_go z_hl [] [84, 86] 30 e.1 ?_
      refine ⟨fun z => absurd z (by decide), fun _ => fun H hH => ?_⟩
      have f : y_fr h H [] [] := y_st e hH (by repeat (first | exact w_nil | refine w_cons (Or.inl (y_m rfl)) ?_ | refine w_cons (Or.inr (by assumption)) ?_)) (by repeat (first | exact w_nil | refine w_cons (Or.inl (y_m rfl)) ?_ | refine w_cons (Or.inr (by assumption)) ?_))
      refine c_rt8 (d := d + 1) hs hs2 (tx_s_fr s f rfl rfl) (fun b q H2 f2 s3 hg => ⟨fun n e => (by cases e), ?_⟩)
      exact T25 (k := 0) (Or.inl rfl) (y_sq (y_mo f rfl rfl) f2 rfl rfl) s3 (by rw [pr_tm_1 (hy rfl)]; exact hg) ((y_ae f2 rfl).trans ((y_ae f rfl).trans gf)) (Or.inl ⟨rfl, rfl⟩)
    | false =>
      refine w_go z_hl [] [84, 86] 30 e.1 ?_
      refine ⟨fun _ => fun H hH => ?_, fun z => absurd z (by decide)⟩
      have f : y_fr h H [] [] := y_st e hH (by repeat (first | exact w_nil | refine w_cons (Or.inl (y_m rfl)) ?_ | refine w_cons (Or.inr (by assumption)) ?_)) (by repeat (first | exact w_nil | refine w_cons (Or.inl (y_m rfl)) ?_ | refine w_cons (Or.inr (by assumption)) ?_))
      refine c_gv8 (d := d) n0 n10 hs hs2 (tx_s_fr s f rfl rfl) ((y_ae f rfl).trans gf) (fun b q k H2 fr' f2 s3 hg g3 hf => ⟨fun n e => (by cases e), ?_⟩)
      exact T25 (Or.inr rfl) (y_sq (y_mo f rfl rfl) f2 rfl rfl) s3 (by rw [pr_tm_0 (hn rfl)]; exact hg) g3 (Or.inr hf)
  have T4 : ∀ {G : aH} {cI : Int32}, y_fr h G [] [] → cI.toInt = pr_k (y_N sg) t p → aOK s_P X (d + 4) a_m81 4 [some (.ref 14), some (.ref 73), some (.int sI)] [.int cI] G C S K0 := by
    intro G cI e hc
    refine w_go z_hl [] [83] 20 e.1 ?_
    intro H hH
    have f : y_fr h H [] [] := y_st e hH (by repeat (first | exact w_nil | refine w_cons (Or.inl (y_m rfl)) ?_ | refine w_cons (Or.inr (by assumption)) ?_)) (by repeat (first | exact w_nil | refine w_cons (Or.inl (y_m rfl)) ?_ | refine w_cons (Or.inr (by assumption)) ?_))
    refine c_isDg (c := cI) f.1 (fun H2 f2 w => ⟨fun n e => (by cases e), ?_⟩) (fun H2 f2 w => ⟨fun n e => (by cases e), ?_⟩)
    · exact T7 true (y_sq f f2 rfl rfl) (fun _ => ⟨by omega, by omega⟩) (fun z => absurd z (by decide))
    · exact T7 false (y_sq f f2 rfl rfl) (fun z => absurd z (by decide)) (fun _ z => w ⟨by have := z.1; omega, by have := z.2; omega⟩)
  refine w_go z_hl [] [82] 20 hr ?_
  intro H hH
  have f : y_fr h H [] [] := y_st (y_rf hr) hH (by repeat (first | exact w_nil | refine w_cons (Or.inl (y_m rfl)) ?_ | refine w_cons (Or.inr (by assumption)) ?_)) (by repeat (first | exact w_nil | refine w_cons (Or.inl (y_m rfl)) ?_ | refine w_cons (Or.inr (by assumption)) ?_))
  refine c_lkT (tx_s_fr s f rfl rfl) (fun r H2 f2 er => ⟨fun n e => (by cases e), ?_⟩)
  exact T4 (y_sq f f2 rfl rfl) er
theorem c_isNum8 (hr : w_hr z_D h) {fr : List Int32} (gf : w_a h 73 = some (0, .inl fr)) (hK : ∀ (H : aH), y_fr h H [] [] → K0 (some (.int (y_01 (decide (y_N fr 0 = -1))))) H C S) : aOK s_P X d a_m89 0 [some (.ref 73), some (.int (Int32.ofInt 0))] [] h C S K0 := by
  have m1 : (Int32.ofInt 2 * Int32.ofInt 0).toInt = ((0 : Nat) : Int) := by decide
  have cm := y_cl1 m1
  have cn : (Int32.ofInt (-1)).toInt = -1 := by decide
  refine w_go z_hl [] [] 30 hr ?_
  refine ⟨⟨by decide, by decide⟩, fun l hl len bb => ?_⟩
  obtain rfl := y_ai gf hl
  refine ⟨fun z => ⟨by decide, fun H hH => ?_⟩, fun z => ⟨by decide, fun H hH => ?_⟩⟩
  · have y1 : (fr.getD (Int32.ofInt 2 * Int32.ofInt 0).toNatClampNeg 0).toInt ≠ (Int32.ofInt (-1)).toInt := (y_ci .ne _ _).mp z
    rw [cm, cn] at y1
    have w := hK H (y_st (y_rf hr) hH (by repeat (first | exact w_nil | refine w_cons (Or.inl (y_m rfl)) ?_ | refine w_cons (Or.inr (by assumption)) ?_)) (by repeat (first | exact w_nil | refine w_cons (Or.inl (y_m rfl)) ?_ | refine w_cons (Or.inr (by assumption)) ?_)))
    rw [decide_eq_false (show ¬ (y_N fr 0 = -1) from y1)] at w
    exact w
  · have y1 : ¬ ((fr.getD (Int32.ofInt 2 * Int32.ofInt 0).toNatClampNeg 0).toInt ≠ (Int32.ofInt (-1)).toInt) := y_cif z
    rw [cm, cn] at y1
    have w := hK H (y_st (y_rf hr) hH (by repeat (first | exact w_nil | refine w_cons (Or.inl (y_m rfl)) ?_ | refine w_cons (Or.inr (by assumption)) ?_)) (by repeat (first | exact w_nil | refine w_cons (Or.inl (y_m rfl)) ?_ | refine w_cons (Or.inr (by assumption)) ?_)))
    rw [decide_eq_true (show y_N fr 0 = -1 from Decidable.not_not.mp y1)] at w
    exact w
theorem c_first8 (n0 : 0 ≤ nd.toInt) (n10 : nd.toInt ≤ 10) (s : tx_s nd h sg t 0) {fr : List Int32} (gf : w_a h 73 = some (0, .inl fr)) (hf0 : y_N fr 0 = -1) (hf1 : y_N fr 1 = -1) (yes : ∀ (q k : Nat) (H : aH) (rel : Int32) (fr' : List Int32), y_fr h H [1538, 9090] [73, 74, 75, 76, 77] → tx_s nd H sg t (q + 1) → pr_tm (y_N sg) t nd.toInt 0 = (true, q, k) → w_f H 9090 = some (.int rel) → w_a H 73 = some (0, .inl fr') → ((pr_k (y_N sg) t q = 126 ∧ k = 1) ∧ rel.toInt = 126) ∨ (¬ (pr_k (y_N sg) t q = 126 ∧ k = 1) ∧ (pr_k (y_N sg) t q = 61 ∨ pr_k (y_N sg) t q = 60 ∨ pr_k (y_N sg) t q = 62) ∧ rel.toInt ≠ 126) → K0 (some (.int (y_01 true))) H C S) (no : ∀ (q : Nat) (H : aH), y_fr h H [1538, 9090] [73, 74, 75, 76, 77] → tx_s nd H sg t q → pr_sy (y_N sg) t nd.toInt = (false, q) → K0 (some (.int (y_01 false))) H C S) : aOK s_P X (d + 5) a_m80 0 [some (.ref 14), some (.ref 73), none, none] [] h C S K0 := by
  have hr := (tx_s_hr s).1
  have c126 : ((Int8.ofInt 126).toInt32).toInt = 126 := by decide
  have c61 : ((Int8.ofInt 61).toInt32).toInt = 61 := by decide
  have c60 : ((Int8.ofInt 60).toInt32).toInt = 60 := by decide
  have c62 : ((Int8.ofInt 62).toInt32).toInt = 62 := by decide
  have cn : (Int32.ofInt (-1)).toInt = -1 := by decide
  have T70 : ∀ {G : aH} {q k : Nat} {cI : Int32} {p3 : Option Value} {fr' : List Int32}, y_fr h G [1538, 9090] [73, 74, 75, 76, 77] → tx_s nd G sg t q → q < t → pr_tm (y_N sg) t nd.toInt 0 = (true, q, k) → w_a G 73 = some (0, .inl fr') → cI.toInt = pr_k (y_N sg) t q → 0 ≤ cI.toInt → cI.toInt ≤ 65535 → ((pr_k (y_N sg) t q = 126 ∧ k = 1) ∨ (¬ (pr_k (y_N sg) t q = 126 ∧ k = 1) ∧ (pr_k (y_N sg) t q = 61 ∨ pr_k (y_N sg) t q = 60 ∨ pr_k (y_N sg) t q = 62))) → aOK s_P X (d + 5) a_m80 70 [some (.ref 14), some (.ref 73), some (.int cI), p3] [] G C S K0 := by
    intro G q k cI p3 fr' e s2 qt ht g2 hc c0 c65 hw
    obtain ⟨toJ, atJ, -, b1, b2, b3, b4, b5, b6, -, t40⟩ := id s2
    have inc : (atJ + Int32.ofInt 1).toInt = ((q + 1 : Nat) : Int) := by rw [y_inc (by omega), b5]; rfl
    refine w_go z_hl [] [] 40 e.1 ?_
    refine ⟨y_fitC c0 c65, y_zini c0 c65, ?_⟩
    intro x hx _ _
    obtain rfl := y_fi b4 hx
    refine ⟨rfl, y_zini (by show 0 ≤ (atJ + Int32.ofInt 1).toInt; omega) (by show (atJ + Int32.ofInt 1).toInt ≤ 40; omega), by decide, fun H hH => ?_⟩
    have f : y_fr G H [1538, 9090] [] := y_st (y_mo (y_rf e.1) rfl rfl) hH (by repeat (first | exact w_nil | refine w_cons (Or.inl (y_m rfl)) ?_ | refine w_cons (Or.inr (by assumption)) ?_)) (by repeat (first | exact w_nil | refine w_cons (Or.inl (y_m rfl)) ?_ | refine w_cons (Or.inr (by assumption)) ?_))
    have s3 : tx_s nd H sg t (q + 1) := ⟨toJ, _, f.1, (y_ae f rfl).trans b1, (y_fe f rfl).trans b2, b3, hH.2.1 1538 _ rfl, inc, (y_fe f rfl).trans b6, by omega, t40⟩
    refine yes q k H cI fr' (y_sq e f rfl rfl) s3 ht (hH.2.1 9090 _ rfl) ((y_ae f rfl).trans g2) ?_
    rcases hw with w | ⟨w, w2⟩
    · exact Or.inl ⟨w, by rw [hc]; exact w.1⟩
    · refine Or.inr ⟨w, w2, ?_⟩
      rw [hc]
      rcases w2 with w3 | w3 | w3
      · omega
      · omega
      · omega
  have T45 : ∀ {G : aH} {q k : Nat} {cI : Int32} {fr' : List Int32} (b : Bool), y_fr h G [1538, 9090] [73, 74, 75, 76, 77] → tx_s nd G sg t q → pr_tm (y_N sg) t nd.toInt 0 = (true, q, k) → w_a G 73 = some (0, .inl fr') → cI.toInt = pr_k (y_N sg) t q → 0 ≤ cI.toInt → cI.toInt ≤ 65535 → (b = true → pr_k (y_N sg) t q = 126 ∧ k = 1) → (b = false → ¬ (pr_k (y_N sg) t q = 126 ∧ k = 1)) → aOK s_P X (d + 5) a_m80 45 [some (.ref 14), some (.ref 73), some (.int cI), none] [.int (y_01 b)] G C S K0 := by
    intro G q k cI fr' b e s2 ht g2 hc c0 c65 hy hn
    have f0 : y_fr G G [] [] := y_rf e.1
    have go : ∀ {H : aH} {p3 : Option Value}, y_fr G H [] [] → q < t → ((pr_k (y_N sg) t q = 126 ∧ k = 1) ∨ (¬ (pr_k (y_N sg) t q = 126 ∧ k = 1) ∧ (pr_k (y_N sg) t q = 61 ∨ pr_k (y_N sg) t q = 60 ∨ pr_k (y_N sg) t q = 62))) → aOK s_P X (d + 5) a_m80 70 [some (.ref 14), some (.ref 73), some (.int cI), p3] [] H C S K0 := fun f qt w => T70 (y_sq e f rfl rfl) (tx_s_fr s2 f rfl rfl) qt ht ((y_ae f rfl).trans g2) hc c0 c65 w
    have q61 : cI.toInt = 61 → ¬ (pr_k (y_N sg) t q = 126 ∧ k = 1) := fun z w => by have := w.1; omega
    have q60 : cI.toInt = 60 → ¬ (pr_k (y_N sg) t q = 126 ∧ k = 1) := fun z w => by have := w.1; omega
    have q62 : cI.toInt = 62 → ¬ (pr_k (y_N sg) t q = 126 ∧ k = 1) := fun z w => by have := w.1; omega
    cases b with
    | true =>
      refine w_go z_hl [70] [] 40 e.1 ?_
      refine ⟨fun z => fun H hH => ?_, fun z => ⟨fun z2 => fun H hH => ?_, fun z2 => ⟨fun z3 => fun H hH => ?_, fun z3 => ⟨fun _ => fun H hH => ?_, fun z4 => absurd z4 (by decide)⟩⟩⟩⟩
      · have y1 : cI.toInt = ((Int8.ofInt 61).toInt32).toInt := (y_ci .eq _ _).mp z
        rw [c61] at y1
        exact go (y_st f0 hH (by repeat (first | exact w_nil | refine w_cons (Or.inl (y_m rfl)) ?_ | refine w_cons (Or.inr (by assumption)) ?_)) (by repeat (first | exact w_nil | refine w_cons (Or.inl (y_m rfl)) ?_ | refine w_cons (Or.inr (by assumption)) ?_))) (pr_k_t (c := 61) (by decide) (hc.symm.trans y1)) (Or.inr ⟨q61 y1, Or.inl (hc.symm.trans y1)⟩)
      · have y1 : cI.toInt = ((Int8.ofInt 60).toInt32).toInt := (y_ci .eq _ _).mp z2
        rw [c60] at y1
        exact go (y_st f0 hH (by repeat (first | exact w_nil | refine w_cons (Or.inl (y_m rfl)) ?_ | refine w_cons (Or.inr (by assumption)) ?_)) (by repeat (first | exact w_nil | refine w_cons (Or.inl (y_m rfl)) ?_ | refine w_cons (Or.inr (by assumption)) ?_))) (pr_k_t (c := 60) (by decide) (hc.symm.trans y1)) (Or.inr ⟨q60 y1, Or.inr (Or.inl (hc.symm.trans y1))⟩)
      · have y1 : cI.toInt = ((Int8.ofInt 62).toInt32).toInt := (y_ci .eq _ _).mp z3
        rw [c62] at y1
        exact go (y_st f0 hH (by repeat (first | exact w_nil | refine w_cons (Or.inl (y_m rfl)) ?_ | refine w_cons (Or.inr (by assumption)) ?_)) (by repeat (first | exact w_nil | refine w_cons (Or.inl (y_m rfl)) ?_ | refine w_cons (Or.inr (by assumption)) ?_))) (pr_k_t (c := 62) (by decide) (hc.symm.trans y1)) (Or.inr ⟨q62 y1, Or.inr (Or.inr (hc.symm.trans y1))⟩)
      · exact go (y_st f0 hH (by repeat (first | exact w_nil | refine w_cons (Or.inl (y_m rfl)) ?_ | refine w_cons (Or.inr (by assumption)) ?_)) (by repeat (first | exact w_nil | refine w_cons (Or.inl (y_m rfl)) ?_ | refine w_cons (Or.inr (by assumption)) ?_))) (pr_k_t (c := 126) (by decide) (hy rfl).1) (Or.inl (hy rfl))
    | false =>
      refine w_go z_hl [70] [] 40 e.1 ?_
      refine ⟨fun z => fun H hH => ?_, fun z => ⟨fun z2 => fun H hH => ?_, fun z2 => ⟨fun z3 => fun H hH => ?_, fun z3 => ⟨fun z4 => absurd z4 (by decide), fun _ => ⟨by decide, fun H hH => ?_⟩⟩⟩⟩⟩
      · have y1 : cI.toInt = ((Int8.ofInt 61).toInt32).toInt := (y_ci .eq _ _).mp z
        rw [c61] at y1
        exact go (y_st f0 hH (by repeat (first | exact w_nil | refine w_cons (Or.inl (y_m rfl)) ?_ | refine w_cons (Or.inr (by assumption)) ?_)) (by repeat (first | exact w_nil | refine w_cons (Or.inl (y_m rfl)) ?_ | refine w_cons (Or.inr (by assumption)) ?_))) (pr_k_t (c := 61) (by decide) (hc.symm.trans y1)) (Or.inr ⟨q61 y1, Or.inl (hc.symm.trans y1)⟩)
      · have y1 : cI.toInt = ((Int8.ofInt 60).toInt32).toInt := (y_ci .eq _ _).mp z2
        rw [c60] at y1
        exact go (y_st f0 hH (by repeat (first | exact w_nil | refine w_cons (Or.inl (y_m rfl)) ?_ | refine w_cons (Or.inr (by assumption)) ?_)) (by repeat (first | exact w_nil | refine w_cons (Or.inl (y_m rfl)) ?_ | refine w_cons (Or.inr (by assumption)) ?_))) (pr_k_t (c := 60) (by decide) (hc.symm.trans y1)) (Or.inr ⟨q60 y1, Or.inr (Or.inl (hc.symm.trans y1))⟩)
      · have y1 : cI.toInt = ((Int8.ofInt 62).toInt32).toInt := (y_ci .eq _ _).mp z3
        rw [c62] at y1
        exact go (y_st f0 hH (by repeat (first | exact w_nil | refine w_cons (Or.inl (y_m rfl)) ?_ | refine w_cons (Or.inr (by assumption)) ?_)) (by repeat (first | exact w_nil | refine w_cons (Or.inl (y_m rfl)) ?_ | refine w_cons (Or.inr (by assumption)) ?_))) (pr_k_t (c := 62) (by decide) (hc.symm.trans y1)) (Or.inr ⟨q62 y1, Or.inr (Or.inr (hc.symm.trans y1))⟩)
      · have y1 : ¬ (cI.toInt = ((Int8.ofInt 61).toInt32).toInt) := y_cif z
        have y2 : ¬ (cI.toInt = ((Int8.ofInt 60).toInt32).toInt) := y_cif z2
        have y3 : ¬ (cI.toInt = ((Int8.ofInt 62).toInt32).toInt) := y_cif z3
        rw [c61, hc] at y1
        rw [c60, hc] at y2
        rw [c62, hc] at y3
        have f : y_fr G H [] [] := y_st f0 hH (by repeat (first | exact w_nil | refine w_cons (Or.inl (y_m rfl)) ?_ | refine w_cons (Or.inr (by assumption)) ?_)) (by repeat (first | exact w_nil | refine w_cons (Or.inl (y_m rfl)) ?_ | refine w_cons (Or.inr (by assumption)) ?_))
        exact no q H (y_sq e f rfl rfl) (tx_s_fr s2 f rfl rfl) (pr_sy_x ht (hn rfl) (fun w => by rcases w with w | w | w; exact y1 w; exact y2 w; exact y3 w))
  have T27 : ∀ {G : aH} {q k : Nat} {cI : Int32} {fr' : List Int32} (b : Bool), y_fr h G [1538, 9090] [73, 74, 75, 76, 77] → tx_s nd G sg t q → pr_tm (y_N sg) t nd.toInt 0 = (true, q, k) → w_a G 73 = some (0, .inl fr') → cI.toInt = pr_k (y_N sg) t q → 0 ≤ cI.toInt → cI.toInt ≤ 65535 → pr_k (y_N sg) t q = 126 → (b = true → k = 0) → (b = false → k ≠ 0 ∧ (k = 1 → y_N fr' 1 = -1) ∧ (k ≠ 1 → 0 ≤ y_N fr' 1)) → aOK s_P X (d + 5) a_m80 27 [some (.ref 14), some (.ref 73), some (.int cI), none] [.int (y_01 b)] G C S K0 := by
    intro G q k cI fr' b e s2 ht g2 hc c0 c65 h126 hy hn
    have f0 : y_fr G G [] [] := y_rf e.1
    cases b with
    | true =>
      refine w_go z_hl [45] [] 30 e.1 ?_
      refine ⟨fun _ => fun H hH => ?_, fun z => absurd z (by decide)⟩
      have f : y_fr G H [] [] := y_st f0 hH (by repeat (first | exact w_nil | refine w_cons (Or.inl (y_m rfl)) ?_ | refine w_cons (Or.inr (by assumption)) ?_)) (by repeat (first | exact w_nil | refine w_cons (Or.inl (y_m rfl)) ?_ | refine w_cons (Or.inr (by assumption)) ?_))
      exact T45 false (y_sq e f rfl rfl) (tx_s_fr s2 f rfl rfl) ht ((y_ae f rfl).trans g2) hc c0 c65 (fun w => absurd w (by decide)) (fun _ w => by have := hy rfl; omega)
    | false =>
      obtain ⟨k0, k1, k2⟩ := hn rfl
      have i1 : (Int32.ofInt 1).toInt = ((1 : Nat) : Int) := by decide
      have ci1 := y_cl1 i1
      refine w_go z_hl [45] [] 30 e.1 ?_
      refine ⟨fun z => absurd z (by decide), fun _ => ⟨⟨by decide, by decide⟩, fun l hl len bb => ?_⟩⟩
      obtain rfl := y_ai g2 hl
      refine ⟨fun z => fun H hH => ?_, fun z => fun H hH => ?_⟩
      · have y1 : (fr'.getD (Int32.ofInt 1).toNatClampNeg 0).toInt ≠ (Int32.ofInt (-1)).toInt := (y_ci .ne _ _).mp z
        rw [ci1, cn] at y1
        have y2 : y_N fr' 1 ≠ -1 := y1
        have f : y_fr G H [] [] := y_st f0 hH (by repeat (first | exact w_nil | refine w_cons (Or.inl (y_m rfl)) ?_ | refine w_cons (Or.inr (by assumption)) ?_)) (by repeat (first | exact w_nil | refine w_cons (Or.inl (y_m rfl)) ?_ | refine w_cons (Or.inr (by assumption)) ?_))
        exact T45 false (y_sq e f rfl rfl) (tx_s_fr s2 f rfl rfl) ht ((y_ae f rfl).trans g2) hc c0 c65 (fun w => absurd w (by decide)) (fun _ w => y2 (k1 w.2))
      · have y1 : ¬ ((fr'.getD (Int32.ofInt 1).toNatClampNeg 0).toInt ≠ (Int32.ofInt (-1)).toInt) := y_cif z
        rw [ci1, cn] at y1
        have y2 : y_N fr' 1 = -1 := Decidable.not_not.mp y1
        have f : y_fr G H [] [] := y_st f0 hH (by repeat (first | exact w_nil | refine w_cons (Or.inl (y_m rfl)) ?_ | refine w_cons (Or.inr (by assumption)) ?_)) (by repeat (first | exact w_nil | refine w_cons (Or.inl (y_m rfl)) ?_ | refine w_cons (Or.inr (by assumption)) ?_))
        refine T45 true (y_sq e f rfl rfl) (tx_s_fr s2 f rfl rfl) ht ((y_ae f rfl).trans g2) hc c0 c65 (fun _ => ⟨h126, ?_⟩) (fun w => absurd w (by decide))
        rcases Nat.decEq k 1 with w | w
        · have := k2 w
          omega
        · exact w
  have T15 : ∀ {G : aH} {q k : Nat} {cI : Int32} {fr' : List Int32}, y_fr h G [1538, 9090] [73, 74, 75, 76, 77] → tx_s nd G sg t q → pr_tm (y_N sg) t nd.toInt 0 = (true, q, k) → w_a G 73 = some (0, .inl fr') → (k = 0 ∧ fr' = fr) ∨ tx_f fr fr' 0 k → cI.toInt = pr_k (y_N sg) t q → 0 ≤ cI.toInt → cI.toInt ≤ 65535 → aOK s_P X (d + 5) a_m80 15 [some (.ref 14), some (.ref 73), none, none] [.int cI] G C S K0 := by
    intro G q k cI fr' e s2 ht g2 hf hc c0 c65
    have f0 : y_fr G G [] [] := y_rf e.1
    refine w_go z_hl [45] [89] 30 e.1 ?_
    refine ⟨fun z => fun H hH => ?_, fun z => fun H hH => ?_⟩
    · have y1 : cI.toInt ≠ ((Int8.ofInt 126).toInt32).toInt := (y_ci .ne _ _).mp z
      rw [c126, hc] at y1
      have f : y_fr G H [] [] := y_st f0 hH (by repeat (first | exact w_nil | refine w_cons (Or.inl (y_m rfl)) ?_ | refine w_cons (Or.inr (by assumption)) ?_)) (by repeat (first | exact w_nil | refine w_cons (Or.inl (y_m rfl)) ?_ | refine w_cons (Or.inr (by assumption)) ?_))
      exact T45 false (y_sq e f rfl rfl) (tx_s_fr s2 f rfl rfl) ht ((y_ae f rfl).trans g2) hc c0 c65 (fun w => absurd w (by decide)) (fun _ w => y1 w.1)
    · have y1 : ¬ (cI.toInt ≠ ((Int8.ofInt 126).toInt32).toInt) := y_cif z
      rw [c126, hc] at y1
      have y2 : pr_k (y_N sg) t q = 126 := Decidable.not_not.mp y1
      have f : y_fr G H [] [] := y_st f0 hH (by repeat (first | exact w_nil | refine w_cons (Or.inl (y_m rfl)) ?_ | refine w_cons (Or.inr (by assumption)) ?_)) (by repeat (first | exact w_nil | refine w_cons (Or.inl (y_m rfl)) ?_ | refine w_cons (Or.inr (by assumption)) ?_))
      refine c_isNum8 f.1 ((y_ae f rfl).trans g2) (fun H2 f2 => ⟨fun n e => (by cases e), ?_⟩)
      have e3 := y_sq (y_sq e f rfl rfl) f2 rfl rfl
      have s3 := tx_s_fr (tx_s_fr s2 f rfl rfl) f2 rfl rfl
      have g3 := (y_ae f2 rfl).trans ((y_ae f rfl).trans g2)
      rcases hf with ⟨hf, hf'⟩ | ⟨hf, hg, hh, hi⟩
      · rw [decide_eq_true (show y_N fr' 0 = -1 by rw [hf']; exact hf0)]
        exact T27 true e3 s3 ht g3 hc c0 c65 y2 (fun _ => hf) (fun w => absurd w (by decide))
      · have hg' : 0 ≤ y_N fr' 0 := hg
        rw [decide_eq_false (show ¬ (y_N fr' 0 = -1) by omega)]
        refine T27 false e3 s3 ht g3 hc c0 c65 y2 (fun w => absurd w (by decide)) (fun _ => ⟨by omega, fun w => ?_, fun w => ?_⟩)
        · rw [hh w 1 (by decide)]
          exact hf1
        · exact (hi (by omega)).1
  have T6 : ∀ {G : aH} {q k : Nat} {fr' : List Int32} (b : Bool), y_fr h G [1538, 9090] [73, 74, 75, 76, 77] → tx_s nd G sg t q → pr_tm (y_N sg) t nd.toInt 0 = (b, q, k) → w_a G 73 = some (0, .inl fr') → (k = 0 ∧ fr' = fr) ∨ tx_f fr fr' 0 k → aOK s_P X (d + 5) a_m80 6 [some (.ref 14), some (.ref 73), none, none] [.int (y_01 b)] G C S K0 := by
    intro G q k fr' b e s2 ht g2 hf
    cases b with
    | true =>
      refine w_go z_hl [] [82] 30 e.1 ?_
      refine ⟨fun _ => fun H hH => ?_, fun z => absurd z (by decide)⟩
      have f : y_fr G H [] [] := y_st (y_rf e.1) hH (by repeat (first | exact w_nil | refine w_cons (Or.inl (y_m rfl)) ?_ | refine w_cons (Or.inr (by assumption)) ?_)) (by repeat (first | exact w_nil | refine w_cons (Or.inl (y_m rfl)) ?_ | refine w_cons (Or.inr (by assumption)) ?_))
      obtain ⟨sg', z1, z2, z3⟩ := w_arrI f.1 (o := 13) (t := 3) (n := 60) (lo := 0) (hi := 65535) (by decide) rfl
      have kb : 0 ≤ pr_k (y_N sg) t q ∧ pr_k (y_N sg) t q ≤ 65535 := by
        obtain ⟨-, -, -, b1, -, -, -, -, -, -, t40⟩ := tx_s_fr s2 f rfl rfl
        have e4 := w_a_at z1
        rw [b1] at e4
        obtain rfl : sg = sg' := by
          injection e4 with e5
          injection e5 with _ e6
          injection e6
        by_cases w : q < t
        · rw [pr_k_1 w]
          exact z3 _ (z_gd (0 : Int32) (show q < sg.length by omega))
        · rw [show pr_k (y_N sg) t q = 0 from if_neg w]
          decide
      refine c_lkT (tx_s_fr s2 f rfl rfl) (fun r H2 f2 er => ⟨fun n e => (by cases e), ?_⟩)
      exact T15 (y_sq (y_sq e f rfl rfl) f2 rfl rfl) (tx_s_fr (tx_s_fr s2 f rfl rfl) f2 rfl rfl) ht ((y_ae f2 rfl).trans ((y_ae f rfl).trans g2)) hf er (by omega) (by omega)
    | false =>
      refine w_go z_hl [] [82] 30 e.1 ?_
      refine ⟨fun z => absurd z (by decide), fun _ => ⟨by decide, fun H hH => ?_⟩⟩
      have f : y_fr G H [] [] := y_st (y_rf e.1) hH (by repeat (first | exact w_nil | refine w_cons (Or.inl (y_m rfl)) ?_ | refine w_cons (Or.inr (by assumption)) ?_)) (by repeat (first | exact w_nil | refine w_cons (Or.inl (y_m rfl)) ?_ | refine w_cons (Or.inr (by assumption)) ?_))
      exact no q H (y_sq e f rfl rfl) (tx_s_fr s2 f rfl rfl) (pr_sy_n ht)
  refine w_go z_hl [] [81] 20 hr ?_
  intro H hH
  have f : y_fr h H [] [] := y_st (y_rf hr) hH (by repeat (first | exact w_nil | refine w_cons (Or.inl (y_m rfl)) ?_ | refine w_cons (Or.inr (by assumption)) ?_)) (by repeat (first | exact w_nil | refine w_cons (Or.inl (y_m rfl)) ?_ | refine w_cons (Or.inr (by assumption)) ?_))
  refine c_tm8 (d := d) (sd := 0) n0 n10 (by decide) (by decide) (tx_s_fr s f rfl rfl) ((y_ae f rfl).trans gf) (fun b q k H2 fr' f2 s3 ht g3 hf => ⟨fun n e => (by cases e), ?_⟩)
  exact T6 b (y_sq (y_mo f rfl rfl) f2 rfl rfl) s3 ht g3 hf
theorem c_second8 (n0 : 0 ≤ nd.toInt) (n10 : nd.toInt ≤ 10) (s : tx_s nd h sg t p) {rel : Int32} (gr : w_f h 9090 = some (.int rel)) (hK : ∀ (b : Bool) (q k : Nat) (H : aH), y_fr h H [1538] [73, 74, 75, 76, 77] → tx_s nd H sg t q → (rel.toInt = 126 → pr_gv (y_N sg) t nd.toInt p = (b, q, k)) → (rel.toInt ≠ 126 → pr_tm (y_N sg) t nd.toInt p = (b, q, k)) → K0 (some (.int (y_01 b))) H C S) : aOK s_P X (d + 5) a_m90 0 [some (.ref 14), some (.ref 73)] [] h C S K0 := by
  have hr := (tx_s_hr s).1
  have c126 : ((Int8.ofInt 126).toInt32).toInt = 126 := by decide
  obtain ⟨fr, gf, -, -⟩ := c_arr hr (ob := 73) (n := 4) (lo := -1) (hi := 40) rfl
  have T22 : ∀ {G : aH} {b : Bool} {q k pc : Nat}, (pc = 13 ∨ pc = 22) → y_fr h G [1538] [73, 74, 75, 76, 77] → tx_s nd G sg t q → (rel.toInt = 126 → pr_gv (y_N sg) t nd.toInt p = (b, q, k)) → (rel.toInt ≠ 126 → pr_tm (y_N sg) t nd.toInt p = (b, q, k)) → aOK s_P X (d + 5) a_m90 pc [some (.ref 14), some (.ref 73)] [.int (y_01 b)] G C S K0 := by
    intro G b q k pc hpc e s2 h1 h2
    rcases hpc with rfl | rfl
    · refine w_go z_hl [] [] 20 e.1 ?_
      refine ⟨y_01b b, fun H hH => ?_⟩
      have f : y_fr G H [] [] := y_st (y_rf e.1) hH (by repeat (first | exact w_nil | refine w_cons (Or.inl (y_m rfl)) ?_ | refine w_cons (Or.inr (by assumption)) ?_)) (by repeat (first | exact w_nil | refine w_cons (Or.inl (y_m rfl)) ?_ | refine w_cons (Or.inr (by assumption)) ?_))
      exact hK b q k H (y_sq e f rfl rfl) (tx_s_fr s2 f rfl rfl) h1 h2
    · refine w_go z_hl [] [] 20 e.1 ?_
      refine ⟨y_01b b, fun H hH => ?_⟩
      have f : y_fr G H [] [] := y_st (y_rf e.1) hH (by repeat (first | exact w_nil | refine w_cons (Or.inl (y_m rfl)) ?_ | refine w_cons (Or.inr (by assumption)) ?_)) (by repeat (first | exact w_nil | refine w_cons (Or.inl (y_m rfl)) ?_ | refine w_cons (Or.inr (by assumption)) ?_))
      exact hK b q k H (y_sq e f rfl rfl) (tx_s_fr s2 f rfl rfl) h1 h2
  refine w_go z_hl [] [81, 86] 40 hr ?_
  intro x hx _ _
  obtain rfl := y_fi gr hx
  refine ⟨fun z => ⟨by decide, ⟨fun _ => fun H hH => ?_, fun z2 => absurd z2 (by decide)⟩⟩, fun z => ⟨by decide, ⟨fun z2 => absurd z2 (by decide), fun _ => fun H hH => ?_⟩⟩⟩
  · have y1 : rel.toInt ≠ ((Int8.ofInt 126).toInt32).toInt := (y_ci .ne _ _).mp z
    rw [c126] at y1
    have f : y_fr h H [] [] := y_st (y_rf hr) hH (by repeat (first | exact w_nil | refine w_cons (Or.inl (y_m rfl)) ?_ | refine w_cons (Or.inr (by assumption)) ?_)) (by repeat (first | exact w_nil | refine w_cons (Or.inl (y_m rfl)) ?_ | refine w_cons (Or.inr (by assumption)) ?_))
    refine c_tm8 (d := d) (sd := 1) n0 n10 (by decide) (by decide) (tx_s_fr s f rfl rfl) ((y_ae f rfl).trans gf) (fun b q k H2 fr' f2 s3 ht g3 hf => ⟨fun n e => (by cases e), ?_⟩)
    exact T22 (k := k) (Or.inr rfl) (y_sq (y_mo f rfl rfl) f2 rfl rfl) s3 (fun w => absurd w y1) (fun _ => ht)
  · have y1 : ¬ (rel.toInt ≠ ((Int8.ofInt 126).toInt32).toInt) := y_cif z
    rw [c126] at y1
    have f : y_fr h H [] [] := y_st (y_rf hr) hH (by repeat (first | exact w_nil | refine w_cons (Or.inl (y_m rfl)) ?_ | refine w_cons (Or.inr (by assumption)) ?_)) (by repeat (first | exact w_nil | refine w_cons (Or.inl (y_m rfl)) ?_ | refine w_cons (Or.inr (by assumption)) ?_))
    refine c_gv8 (d := d + 1) (sd := 1) n0 n10 (by decide) (by decide) (tx_s_fr s f rfl rfl) ((y_ae f rfl).trans gf) (fun b q k H2 fr' f2 s3 hg g3 hf => ⟨fun n e => (by cases e), ?_⟩)
    exact T22 (k := k) (Or.inl rfl) (y_sq (y_mo f rfl rfl) f2 rfl rfl) s3 (fun _ => hg) (fun w => absurd w y1)
end PFS8
end PT33icu
section PT33icv
/-! ===== v21: parse of the class with saying 8 (laid by wip/tools/mk21f.py) ===== -/
section PPS8
variable {X : aX} {C S d : Nat} {K0 : Option Value → aH → Nat → Nat → Prop} {sg : List Int32} {nd len : Int32} {h : aH}
theorem c_parse8 (hr : w_hr z_D h) (n0 : 0 ≤ nd.toInt) (n10 : nd.toInt ≤ 10) (l0 : 0 ≤ len.toInt) (l60 : len.toInt ≤ 60) (gs : w_a h 13 = some (3, .inl sg)) (hK : ∀ (r : Int32) (H : aH), y_fr h H [1538, 1539, 1540, 9089, 9090] [72, 73, 74, 75, 76, 77] → r.toInt = pr_wr (y_N sg) len.toInt.toNat nd.toInt → (pr_sy (y_N sg) (pr_t len.toInt.toNat) nd.toInt).2 ≤ pr_t len.toInt.toNat → K0 (some (.int r)) H C S) : aOK s_P X (d + 6) a_m78 0 [some (.ref 14), some (.int len), some (.int nd), some (.ref 73), none] [] h C S K0 := by
  have c40 : ((Int8.ofInt 40).toInt32).toInt = 40 := by decide
  have tl := pr_t_le (len := len.toInt.toNat)
  -- the end: whole or not
  have T56 : ∀ {G : aH} {q : Nat} (b : Bool), y_fr h G [1538, 1539, 1540, 9089, 9090] [73, 74, 75, 76, 77] → tx_s nd G sg (pr_t len.toInt.toNat) q → (pr_sy (y_N sg) (pr_t len.toInt.toNat) nd.toInt).2 = q → pr_wh (y_N sg) (pr_t len.toInt.toNat) nd.toInt = b → aOK s_P X (d + 6) a_m78 56 [some (.ref 14), some (.int len), some (.int nd), some (.ref 73), none] [.int (y_01 b)] G C S K0 := by
    intro G q b e s hq hb
    obtain ⟨toI, atI, -, a1, a2, a3, a4, a5, a6, pt, t40⟩ := id s
    have f0 : y_fr G G [] [] := y_rf e.1
    have out : ∀ {H : aH} {r : Int32}, y_fr G H [] [] → r.toInt = pr_wr (y_N sg) len.toInt.toNat nd.toInt → K0 (some (.int r)) H C S := fun f er => hK _ _ (y_mo (y_sq e f rfl rfl) rfl rfl) er (by omega)
    cases b with
    | true =>
      have ew : pr_wr (y_N sg) len.toInt.toNat nd.toInt = if 40 < len.toInt.toNat then 40 else -1 := if_pos hb
      have T97 : ∀ {H : aH}, y_fr G H [] [] → ¬ (40 < len.toInt.toNat) → aOK s_P X (d + 6) a_m78 97 [some (.ref 14), some (.int len), some (.int nd), some (.ref 73), some (.int (y_01 true))] [] H C S K0 := by
        intro H f nl
        refine w_go z_hl [111] [] 30 f.1 ?_
        intro x hx _ _
        obtain rfl := y_fi ((y_fe f rfl).trans a2) hx
        intro H2 h2
        have f2 : y_fr G H2 [] [] := y_st f h2 (by repeat (first | exact w_nil | refine w_cons (Or.inl (y_m rfl)) ?_ | refine w_cons (Or.inr (by assumption)) ?_)) (by repeat (first | exact w_nil | refine w_cons (Or.inl (y_m rfl)) ?_ | refine w_cons (Or.inr (by assumption)) ?_))
        refine y_copy3 (o := 13) (dd := 72) (m := pr_t len.toInt.toNat) (n1 := 60) (n2 := 40) f2.1 a3 rfl rfl (by omega) (by omega) rfl rfl (by decide) (fun H3 f3 => ?_)
        show aOK s_P X (d + 6) a_m78 114 [some (.ref 14), some (.int len), some (.int nd), some (.ref 73), some (.int (y_01 true))] [] H3 C S K0
        have f4 : y_fr G H3 [] [72] := y_sq (y_mo f2 rfl rfl) f3 rfl rfl
        refine w_go z_hl [] [] 30 f3.1 ?_
        intro x hx x0 x40
        obtain rfl := y_fi ((y_fe f4 rfl).trans a2) hx
        refine ⟨rfl, y_zini x0 x40, fun H5 h5 => ?_⟩
        have f5 : y_fr H3 H5 [9089] [] := y_st (y_mo (y_rf f3.1) rfl rfl) h5 (by repeat (first | exact w_nil | refine w_cons (Or.inl (y_m rfl)) ?_ | refine w_cons (Or.inr (by assumption)) ?_)) (by repeat (first | exact w_nil | refine w_cons (Or.inl (y_m rfl)) ?_ | refine w_cons (Or.inr (by assumption)) ?_))
        refine hK _ H5 (y_sq (y_sq (y_mo e rfl rfl) f4 rfl rfl) f5 rfl rfl) ?_ (by omega)
        rw [ew, if_neg nl]
        decide
      refine w_go z_hl [97] [] 40 e.1 ?_
      refine ⟨fun _ => ⟨fun z => absurd z (by decide), fun _ => ?_⟩, fun z => absurd z (by decide)⟩
      intro x hx _ _
      obtain rfl := y_fi a2 hx
      refine ⟨fun z => fun H hH => ?_, fun z => fun H hH => ?_⟩
      · have y1 : len.toInt ≤ toI.toInt := (y_ci .le _ _).mp z
        exact T97 (y_st f0 hH (by repeat (first | exact w_nil | refine w_cons (Or.inl (y_m rfl)) ?_ | refine w_cons (Or.inr (by assumption)) ?_)) (by repeat (first | exact w_nil | refine w_cons (Or.inl (y_m rfl)) ?_ | refine w_cons (Or.inr (by assumption)) ?_))) (by omega)
      · have y1 : ¬ (len.toInt ≤ toI.toInt) := y_cif z
        have lt : 40 < len.toInt.toNat := by
          rcases Nat.lt_or_ge 40 len.toInt.toNat with w | w
          · exact w
          · have et : pr_t len.toInt.toNat = len.toInt.toNat := if_neg (by omega)
            omega
        have et : pr_t len.toInt.toNat = 40 := if_pos lt
        exact out (y_st f0 hH (by repeat (first | exact w_nil | refine w_cons (Or.inl (y_m rfl)) ?_ | refine w_cons (Or.inr (by assumption)) ?_)) (by repeat (first | exact w_nil | refine w_cons (Or.inl (y_m rfl)) ?_ | refine w_cons (Or.inr (by assumption)) ?_))) (by rw [ew, if_pos lt]; omega)
    | false =>
      have ew : pr_wr (y_N sg) len.toInt.toNat nd.toInt = (q : Nat) := by
        unfold pr_wr
        rw [if_neg (by rw [hb]; decide), hq]
      refine w_go z_hl [97] [] 40 e.1 ?_
      refine ⟨fun z => absurd z (by decide), fun _ => ?_⟩
      intro x hx _ _
      obtain rfl := y_fi a4 hx
      intro y hy _ _
      obtain rfl := y_fi a2 hy
      refine ⟨fun z => ⟨fun _ => fun H hH => ?_, fun z2 => absurd z2 (by decide)⟩, fun z => fun H hH => ?_⟩
      · have y1 : toI.toInt ≤ atI.toInt := (y_ci .ge _ _).mp z
        exact out (y_st f0 hH (by repeat (first | exact w_nil | refine w_cons (Or.inl (y_m rfl)) ?_ | refine w_cons (Or.inr (by assumption)) ?_)) (by repeat (first | exact w_nil | refine w_cons (Or.inl (y_m rfl)) ?_ | refine w_cons (Or.inr (by assumption)) ?_))) (by rw [ew]; omega)
      · exact out (y_st f0 hH (by repeat (first | exact w_nil | refine w_cons (Or.inl (y_m rfl)) ?_ | refine w_cons (Or.inr (by assumption)) ?_)) (by repeat (first | exact w_nil | refine w_cons (Or.inl (y_m rfl)) ?_ | refine w_cons (Or.inr (by assumption)) ?_))) (by rw [ew]; exact a5)
  have T37 : ∀ {G : aH} {q : Nat} (b : Bool), y_fr h G [1538, 1539, 1540, 9089, 9090] [73, 74, 75, 76, 77] → tx_s nd G sg (pr_t len.toInt.toNat) q → pr_sy (y_N sg) (pr_t len.toInt.toNat) nd.toInt = (b, q) → aOK s_P X (d + 6) a_m78 37 [some (.ref 14), some (.int len), some (.int nd), some (.ref 73), none] [.int (y_01 b)] G C S K0 := by
    intro G q b e s hs
    obtain ⟨toI, atI, -, a1, a2, a3, a4, a5, a6, pt, t40⟩ := id s
    have f0 : y_fr G G [] [] := y_rf e.1
    cases b with
    | true =>
      refine w_go z_hl [56] [] 40 e.1 ?_
      refine ⟨fun z => absurd z (by decide), fun _ => ?_⟩
      intro x hx _ _
      obtain rfl := y_fi a4 hx
      intro y hy _ _
      obtain rfl := y_fi a2 hy
      refine ⟨fun z => fun H hH => ?_, fun z => fun H hH => ?_⟩
      · have y1 : atI.toInt ≠ toI.toInt := (y_ci .ne _ _).mp z
        have f : y_fr G H [] [] := y_st f0 hH (by repeat (first | exact w_nil | refine w_cons (Or.inl (y_m rfl)) ?_ | refine w_cons (Or.inr (by assumption)) ?_)) (by repeat (first | exact w_nil | refine w_cons (Or.inl (y_m rfl)) ?_ | refine w_cons (Or.inr (by assumption)) ?_))
        refine T56 false (y_sq e f rfl rfl) (tx_s_fr s f rfl rfl) (by rw [hs]) ?_
        unfold pr_wh
        rw [hs]
        show (true && decide (q = pr_t len.toInt.toNat)) = false
        rw [decide_eq_false (by omega)]
        rfl
      · have y1 : ¬ (atI.toInt ≠ toI.toInt) := y_cif z
        have f : y_fr G H [] [] := y_st f0 hH (by repeat (first | exact w_nil | refine w_cons (Or.inl (y_m rfl)) ?_ | refine w_cons (Or.inr (by assumption)) ?_)) (by repeat (first | exact w_nil | refine w_cons (Or.inl (y_m rfl)) ?_ | refine w_cons (Or.inr (by assumption)) ?_))
        refine T56 true (y_sq e f rfl rfl) (tx_s_fr s f rfl rfl) (by rw [hs]) ?_
        unfold pr_wh
        rw [hs]
        show (true && decide (q = pr_t len.toInt.toNat)) = true
        rw [decide_eq_true (by omega)]
        rfl
    | false =>
      refine w_go z_hl [56] [] 40 e.1 ?_
      refine ⟨fun _ => fun H hH => ?_, fun z => absurd z (by decide)⟩
      have f : y_fr G H [] [] := y_st f0 hH (by repeat (first | exact w_nil | refine w_cons (Or.inl (y_m rfl)) ?_ | refine w_cons (Or.inr (by assumption)) ?_)) (by repeat (first | exact w_nil | refine w_cons (Or.inl (y_m rfl)) ?_ | refine w_cons (Or.inr (by assumption)) ?_))
      refine T56 false (y_sq e f rfl rfl) (tx_s_fr s f rfl rfl) (by rw [hs]) ?_
      unfold pr_wh
      rw [hs]
      rfl
  have T29n : ∀ {G : aH} {q : Nat}, y_fr h G [1538, 1539, 1540, 9089, 9090] [73, 74, 75, 76, 77] → tx_s nd G sg (pr_t len.toInt.toNat) q → pr_sy (y_N sg) (pr_t len.toInt.toNat) nd.toInt = (false, q) → aOK s_P X (d + 6) a_m78 29 [some (.ref 14), some (.int len), some (.int nd), some (.ref 73), none] [.int (y_01 false)] G C S K0 := by
    intro G q e s hs
    refine w_go z_hl [56] [] 40 e.1 ?_
    refine ⟨fun _ => fun H hH => ?_, fun z => absurd z (by decide)⟩
    have f : y_fr G H [] [] := y_st (y_rf e.1) hH (by repeat (first | exact w_nil | refine w_cons (Or.inl (y_m rfl)) ?_ | refine w_cons (Or.inr (by assumption)) ?_)) (by repeat (first | exact w_nil | refine w_cons (Or.inl (y_m rfl)) ?_ | refine w_cons (Or.inr (by assumption)) ?_))
    refine T56 false (y_sq e f rfl rfl) (tx_s_fr s f rfl rfl) (by rw [hs]) ?_
    unfold pr_wh
    rw [hs]
    rfl
  have T29 : ∀ {G : aH} {q k : Nat} {rel : Int32}, y_fr h G [1538, 1539, 1540, 9089, 9090] [73, 74, 75, 76, 77] → tx_s nd G sg (pr_t len.toInt.toNat) (q + 1) → pr_tm (y_N sg) (pr_t len.toInt.toNat) nd.toInt 0 = (true, q, k) → w_f G 9090 = some (.int rel) → ((pr_k (y_N sg) (pr_t len.toInt.toNat) q = 126 ∧ k = 1) ∧ rel.toInt = 126) ∨ (¬ (pr_k (y_N sg) (pr_t len.toInt.toNat) q = 126 ∧ k = 1) ∧ (pr_k (y_N sg) (pr_t len.toInt.toNat) q = 61 ∨ pr_k (y_N sg) (pr_t len.toInt.toNat) q = 60 ∨ pr_k (y_N sg) (pr_t len.toInt.toNat) q = 62) ∧ rel.toInt ≠ 126) → aOK s_P X (d + 6) a_m78 29 [some (.ref 14), some (.int len), some (.int nd), some (.ref 73), none] [.int (y_01 true)] G C S K0 := by
    intro G q k rel e s ht gr hw
    refine w_go z_hl [56] [90] 40 e.1 ?_
    refine ⟨fun z => absurd z (by decide), fun _ => fun H hH => ?_⟩
    have f : y_fr G H [] [] := y_st (y_rf e.1) hH (by repeat (first | exact w_nil | refine w_cons (Or.inl (y_m rfl)) ?_ | refine w_cons (Or.inr (by assumption)) ?_)) (by repeat (first | exact w_nil | refine w_cons (Or.inl (y_m rfl)) ?_ | refine w_cons (Or.inr (by assumption)) ?_))
    refine c_second8 (d := d) n0 n10 (tx_s_fr s f rfl rfl) ((y_fe f rfl).trans gr) (fun b r k2 H2 f2 s3 h1 h2 => ⟨fun n e => (by cases e), ?_⟩)
    refine T37 b (y_sq (y_sq e f rfl rfl) f2 rfl rfl) s3 ?_
    rcases hw with ⟨⟨w1, w2⟩, w3⟩ | ⟨w1, w2, w3⟩
    · rw [w2] at ht
      exact pr_sy_b ht w1 (h1 w3)
    · exact pr_sy_c ht w1 w2 (h2 w3)
  have T24 : ∀ {G : aH} {fr : List Int32}, y_fr h G [1538, 1539, 1540, 9089, 9090] [73, 74, 75, 76, 77] → tx_s nd G sg (pr_t len.toInt.toNat) 0 → w_a G 73 = some (0, .inl fr) → (∀ j, j < 4 → y_N fr j = -1) → aOK s_P X (d + 6) a_m78 24 [some (.ref 14), some (.int len), some (.int nd), some (.ref 73), none] [] G C S K0 := by
    intro G fr e s g hf
    refine w_go z_hl [56] [80] 40 e.1 ?_
    intro H hH
    have f : y_fr G H [] [] := y_st (y_rf e.1) hH (by repeat (first | exact w_nil | refine w_cons (Or.inl (y_m rfl)) ?_ | refine w_cons (Or.inr (by assumption)) ?_)) (by repeat (first | exact w_nil | refine w_cons (Or.inl (y_m rfl)) ?_ | refine w_cons (Or.inr (by assumption)) ?_))
    refine c_first8 (d := d) n0 n10 (tx_s_fr s f rfl rfl) ((y_ae f rfl).trans g) (hf 0 (by decide)) (hf 1 (by decide)) (fun q k H2 rel fr' f2 s3 ht gr g3 hw => ⟨fun n e => (by cases e), ?_⟩) (fun q H2 f2 s3 hs => ⟨fun n e => (by cases e), ?_⟩)
    · exact T29 (y_sq (y_sq e f rfl rfl) f2 rfl rfl) s3 ht gr hw
    · exact T29n (y_sq (y_sq e f rfl rfl) f2 rfl rfl) s3 hs
  refine w_go z_hl [56] [79] 60 hr ?_
  refine ⟨rfl, y_zini (by decide) (by decide), ?_⟩
  refine ⟨fun z => ⟨rfl, y_zini (by decide) (by decide), rfl, y_zini n0 n10, fun H hH => ?_⟩, fun z => ⟨rfl, y_zini l0 ?_, rfl, y_zini n0 n10, fun H hH => ?_⟩⟩
  · have y1 : ((Int8.ofInt 40).toInt32).toInt < len.toInt := (y_ci .gt _ _).mp z
    rw [c40] at y1
    have et : pr_t len.toInt.toNat = 40 := if_pos (by omega)
    have f : y_fr h H [1538, 1539, 1540] [] := y_st (y_mo (y_rf hr) rfl rfl) hH (by repeat (first | exact w_nil | refine w_cons (Or.inl (y_m rfl)) ?_ | refine w_cons (Or.inr (by assumption)) ?_)) (by repeat (first | exact w_nil | refine w_cons (Or.inl (y_m rfl)) ?_ | refine w_cons (Or.inr (by assumption)) ?_))
    have s : tx_s nd H sg (pr_t len.toInt.toNat) 0 := ⟨_, _, f.1, (y_ae f rfl).trans gs, hH.2.1 1539 _ rfl, by rw [et]; exact c40, hH.2.1 1538 _ rfl, rfl, hH.2.1 1540 _ rfl, Nat.zero_le _, tl.1⟩
    refine c_clear8 f.1 (fun H2 fr f2 g2 hf => ⟨fun n e => (by cases e), ?_⟩)
    exact T24 (y_sq (y_mo f rfl rfl) f2 rfl rfl) (tx_s_fr s f2 rfl rfl) g2 hf
  · have y1 : ¬ (((Int8.ofInt 40).toInt32).toInt < len.toInt) := y_cif z
    rw [c40] at y1
    show len.toInt ≤ 40
    omega
  · have y1 : ¬ (((Int8.ofInt 40).toInt32).toInt < len.toInt) := y_cif z
    rw [c40] at y1
    have et : pr_t len.toInt.toNat = len.toInt.toNat := if_neg (by omega)
    have f : y_fr h H [1538, 1539, 1540] [] := y_st (y_mo (y_rf hr) rfl rfl) hH (by repeat (first | exact w_nil | refine w_cons (Or.inl (y_m rfl)) ?_ | refine w_cons (Or.inr (by assumption)) ?_)) (by repeat (first | exact w_nil | refine w_cons (Or.inl (y_m rfl)) ?_ | refine w_cons (Or.inr (by assumption)) ?_))
    have s : tx_s nd H sg (pr_t len.toInt.toNat) 0 := ⟨_, _, f.1, (y_ae f rfl).trans gs, hH.2.1 1539 _ rfl, by rw [et]; omega, hH.2.1 1538 _ rfl, rfl, hH.2.1 1540 _ rfl, Nat.zero_le _, tl.1⟩
    refine c_clear8 f.1 (fun H2 fr f2 g2 hf => ⟨fun n e => (by cases e), ?_⟩)
    exact T24 (y_sq (y_mo f rfl rfl) f2 rfl rfl) (tx_s_fr s f2 rfl rfl) g2 hf
end PPS8
end PT33icv
section PT33icw
/-! ===== v21: parseEvent of the class with saying 9 (laid by wip/tools/mk21c.py) ===== -/
section PEV9
variable {X : aX} {C S d : Nat} {K0 : Option Value → aH → Nat → Nat → Prop} {sg : List Int32} {t : Nat} {nd : Int32}
theorem c_evl9 (n0 : 0 ≤ nd.toInt) (n10 : nd.toInt ≤ 10) {pI : Int32} {pa : Nat} (hpa : pI.toInt = pa) (pa4 : pa < 4) : ∀ (m : Nat) (h : aH) (p : Nat) (oI : Int32) (o : Nat) (o4 : Option Value), tx_s nd h sg t p → oI.toInt = o → o ≤ 5 → t - p ≤ m → (∀ (b : Bool) (q : Nat) (H : aH), y_fr h H [1538] [81, 82] → tx_s nd H sg t q → pr_E (y_N sg) t nd.toInt false p o = (b, q) → K0 (some (.int (y_01 b))) H C S) → aOK s_P X (d + 2) a_m87 12 [some (.ref 14), some (.ref 80), some (.int pI), some (.int oI), o4] [] h C S K0 := by
  have c33 : ((Int8.ofInt 33).toInt32).toInt = 33 := by decide
  have c38 : ((Int8.ofInt 38).toInt32).toInt = 38 := by decide
  have c40 : ((Int8.ofInt 40).toInt32).toInt = 40 := by decide
  have c97 : ((Int8.ofInt 97).toInt32).toInt = 97 := by decide
  have c124 : ((Int8.ofInt 124).toInt32).toInt = 124 := by decide
  have c5 : (Int32.ofInt 5).toInt = 5 := by decide
  have z0 : (0 : Int32).toInt = 0 := by decide
  have cn : ((Int8.ofInt 97).toInt32 + nd).toInt = 97 + nd.toInt := by
    rw [Int32.toInt_add, c97]
    exact Int.bmod_eq_of_le (by omega) (by omega)
  intro m
  induction m with
  | zero =>
    intro h p oI o o4 s ho o5 hm hK
    obtain ⟨toI, atI, hr, a1, a2, a3, a4, a5, a6, pt, t40⟩ := id s
    refine w_go z_hl [12] [82] 30 hr ?_
    intro x hx _ _
    obtain rfl := y_fi a4 hx
    intro y hy _ _
    obtain rfl := y_fi a2 hy
    refine ⟨fun _ => ⟨by decide, fun H hH => ?_⟩, fun z => ?_⟩
    · have f : y_fr h H [] [] := y_st (y_rf hr) hH (by repeat (first | exact w_nil | refine w_cons (Or.inl (y_m rfl)) ?_ | refine w_cons (Or.inr (by assumption)) ?_)) (by repeat (first | exact w_nil | refine w_cons (Or.inl (y_m rfl)) ?_ | refine w_cons (Or.inr (by assumption)) ?_))
      have k0 : pr_k (y_N sg) t p = 0 := if_neg (by omega)
      exact hK false p H (y_mo f rfl rfl) (tx_s_fr s f rfl rfl) (pr_bad (by omega) (by omega) (fun w => by have := w.1; omega) (fun w => by have := w.1; omega))
    · have y1 : ¬ (toI.toInt ≤ atI.toInt) := y_cif z
      exfalso
      omega
  | succ m ih =>
    intro h p oI o o4 s ho o5 hm hK
    obtain ⟨toI, atI, hr, a1, a2, a3, a4, a5, a6, pt, t40⟩ := id s
    -- on to the next sign
    have T189 : ∀ {G : aH} {oJ : Int32} {q o' : Nat} {p4 : Option Value}, y_fr h G [1538] [81, 82] → tx_s nd G sg t q → p < q → q < t → oJ.toInt = o' → o' ≤ 5 → pr_E (y_N sg) t nd.toInt false p o = pr_E (y_N sg) t nd.toInt false (q + 1) o' → aOK s_P X (d + 2) a_m87 189 [some (.ref 14), some (.ref 80), some (.int pI), some (.int oJ), p4] [] G C S K0 := by
      intro G oJ q o' p4 e s2 pq qt hoJ o5' hE
      obtain ⟨toJ, atJ, -, b1, b2, b3, b4, b5, b6, -, -⟩ := id s2
      have inc : (atJ + Int32.ofInt 1).toInt = ((q + 1 : Nat) : Int) := by rw [y_inc (by omega), b5]; rfl
      refine w_go z_hl [12] [82] 30 e.1 ?_
      intro x hx _ _
      obtain rfl := y_fi b4 hx
      refine ⟨rfl, y_zini (by show 0 ≤ (atJ + Int32.ofInt 1).toInt; omega) (by show (atJ + Int32.ofInt 1).toInt ≤ 40; omega), fun H hH => ?_⟩
      have f : y_fr G H [1538] [] := y_st (y_mo (y_rf e.1) rfl rfl) hH (by repeat (first | exact w_nil | refine w_cons (Or.inl (y_m rfl)) ?_ | refine w_cons (Or.inr (by assumption)) ?_)) (by repeat (first | exact w_nil | refine w_cons (Or.inl (y_m rfl)) ?_ | refine w_cons (Or.inr (by assumption)) ?_))
      exact ih H (q + 1) _ o' _ (tx_s_at s2 f rfl (hH.2.1 1538 _ rfl) inc (by omega)) hoJ o5' (by omega) (fun b r H' f1 f2 f3 => hK b r H' (y_sq (y_sq e f rfl rfl) f1 rfl rfl) f2 (hE.trans f3))
    have T143 : ∀ {G : aH} {oJ cI : Int32} {q o' : Nat}, y_fr h G [1538] [81, 82] → tx_s nd G sg t q → p < q → q < t → oJ.toInt = o' → o' ≤ 5 → pr_E (y_N sg) t nd.toInt false p o = pr_E (y_N sg) t nd.toInt false (q + 1) o' → aOK s_P X (d + 2) a_m87 143 [some (.ref 14), some (.ref 80), some (.int pI), some (.int oJ), some (.int cI)] [] G C S K0 := by
      intro G oJ cI q o' e s2 pq qt hoJ o5' hE
      have f0 : y_fr G G [] [] := y_rf e.1
      have T168 : ∀ {G2 : aH}, y_fr G G2 [] [81] → aOK s_P X (d + 2) a_m87 168 [some (.ref 14), some (.ref 80), some (.int pI), some (.int oJ), some (.int cI)] [] G2 C S K0 := by
        intro G2 f
        refine w_go z_hl [189] [82] 40 f.1 ?_
        refine ⟨⟨by omega, by omega⟩, fun l hl len bb => ⟨fun _ => ⟨⟨by omega, by omega⟩, y_l32 _, fun H hH => ?_⟩, fun _ => ⟨⟨by omega, by omega⟩, y_l32 _, fun H hH => ?_⟩⟩⟩
        · have f2 : y_fr G H [] [81, 82] := y_st (y_mo f rfl rfl) hH (by repeat (first | exact w_nil | refine w_cons (Or.inl (y_m rfl)) ?_ | refine w_cons (Or.inr (by assumption)) ?_)) (by repeat (first | exact w_nil | refine w_cons (Or.inl (y_m rfl)) ?_ | refine w_cons (Or.inr (by assumption)) ?_))
          exact T189 (y_sq e (y_mo f2 rfl rfl : y_fr G H [1538] [81, 82]) rfl rfl) (tx_s_fr s2 f2 rfl rfl) pq qt hoJ o5' hE
        · have f2 : y_fr G H [] [81, 82] := y_st (y_mo f rfl rfl) hH (by repeat (first | exact w_nil | refine w_cons (Or.inl (y_m rfl)) ?_ | refine w_cons (Or.inr (by assumption)) ?_)) (by repeat (first | exact w_nil | refine w_cons (Or.inl (y_m rfl)) ?_ | refine w_cons (Or.inr (by assumption)) ?_))
          exact T189 (y_sq e (y_mo f2 rfl rfl : y_fr G H [1538] [81, 82]) rfl rfl) (tx_s_fr s2 f2 rfl rfl) pq qt hoJ o5' hE
      refine w_go z_hl [168, 189] [82] 40 e.1 ?_
      refine ⟨fun _ => fun H hH => ?_, fun _ => ⟨⟨by omega, by omega⟩, fun l hl len bb => ⟨fun _ => ⟨⟨by omega, by omega⟩, y_l32 _, fun H hH => ?_⟩, fun _ => ⟨⟨by omega, by omega⟩, y_l32 _, fun H hH => ?_⟩⟩⟩⟩
      · have f2 : y_fr G H [] [] := y_st f0 hH (by repeat (first | exact w_nil | refine w_cons (Or.inl (y_m rfl)) ?_ | refine w_cons (Or.inr (by assumption)) ?_)) (by repeat (first | exact w_nil | refine w_cons (Or.inl (y_m rfl)) ?_ | refine w_cons (Or.inr (by assumption)) ?_))
        exact T189 (y_sq e f2 rfl rfl) (tx_s_fr s2 f2 rfl rfl) pq qt hoJ o5' hE
      · exact T168 (y_st (y_mo f0 rfl rfl) hH (by repeat (first | exact w_nil | refine w_cons (Or.inl (y_m rfl)) ?_ | refine w_cons (Or.inr (by assumption)) ?_)) (by repeat (first | exact w_nil | refine w_cons (Or.inl (y_m rfl)) ?_ | refine w_cons (Or.inr (by assumption)) ?_)))
      · exact T168 (y_st (y_mo f0 rfl rfl) hH (by repeat (first | exact w_nil | refine w_cons (Or.inl (y_m rfl)) ?_ | refine w_cons (Or.inr (by assumption)) ?_)) (by repeat (first | exact w_nil | refine w_cons (Or.inl (y_m rfl)) ?_ | refine w_cons (Or.inr (by assumption)) ?_)))
    have T117 : ∀ {G : aH} {oJ cI : Int32} {q o' : Nat} {p4 : Option Value}, y_fr h G [1538] [] → tx_s nd G sg t q → p < q → oJ.toInt = o' → o' ≤ 5 → cI.toInt = pr_k (y_N sg) t q → pr_E (y_N sg) t nd.toInt false p o = pr_E (y_N sg) t nd.toInt true q o' → ¬ (pr_k (y_N sg) t q = 41 ∧ 0 < o') → aOK s_P X (d + 2) a_m87 117 [some (.ref 14), some (.ref 80), some (.int pI), some (.int oJ), p4] [.int cI] G C S K0 := by
      intro G oJ cI q o' p4 e s2 pq hoJ o5' hc hE h41
      have q40 := (tx_s_hr s2).2.1
      have f0 : y_fr G G [] [] := y_rf e.1
      refine w_go z_hl [143] [82] 40 e.1 ?_
      refine ⟨fun z => fun H hH => ?_, fun z => ⟨fun z2 => fun H hH => ?_, fun z2 => ⟨fun z3 => ⟨by decide, fun H hH => ?_⟩, fun z3 => ⟨by decide, fun H hH => ?_⟩⟩⟩⟩
      · have y1 : cI.toInt = ((Int8.ofInt 38).toInt32).toInt := (y_ci .eq _ _).mp z
        rw [c38, hc] at y1
        have f2 : y_fr G H [] [] := y_st f0 hH (by repeat (first | exact w_nil | refine w_cons (Or.inl (y_m rfl)) ?_ | refine w_cons (Or.inr (by assumption)) ?_)) (by repeat (first | exact w_nil | refine w_cons (Or.inl (y_m rfl)) ?_ | refine w_cons (Or.inr (by assumption)) ?_))
        exact T143 (y_mo (y_sq e f2 rfl rfl) rfl rfl) (tx_s_fr s2 f2 rfl rfl) pq (pr_k_t (by decide) y1) hoJ o5' (hE.trans (pr_op (by omega) (Or.inl y1)))
      · have y1 : cI.toInt = ((Int8.ofInt 124).toInt32).toInt := (y_ci .eq _ _).mp z2
        rw [c124, hc] at y1
        have f2 : y_fr G H [] [] := y_st f0 hH (by repeat (first | exact w_nil | refine w_cons (Or.inl (y_m rfl)) ?_ | refine w_cons (Or.inr (by assumption)) ?_)) (by repeat (first | exact w_nil | refine w_cons (Or.inl (y_m rfl)) ?_ | refine w_cons (Or.inr (by assumption)) ?_))
        exact T143 (y_mo (y_sq e f2 rfl rfl) rfl rfl) (tx_s_fr s2 f2 rfl rfl) pq (pr_k_t (by decide) y1) hoJ o5' (hE.trans (pr_op (by omega) (Or.inr y1)))
      · have y1 : ¬ (cI.toInt = ((Int8.ofInt 38).toInt32).toInt) := y_cif z
        have y2 : ¬ (cI.toInt = ((Int8.ofInt 124).toInt32).toInt) := y_cif z2
        have y3 : oJ.toInt ≠ (0 : Int32).toInt := (y_ci .ne _ _).mp z3
        rw [c38, hc] at y1
        rw [c124, hc] at y2
        rw [z0] at y3
        have f2 : y_fr G H [] [] := y_st f0 hH (by repeat (first | exact w_nil | refine w_cons (Or.inl (y_m rfl)) ?_ | refine w_cons (Or.inr (by assumption)) ?_)) (by repeat (first | exact w_nil | refine w_cons (Or.inl (y_m rfl)) ?_ | refine w_cons (Or.inr (by assumption)) ?_))
        refine hK false q H (y_mo (y_sq e f2 rfl rfl) rfl rfl) (tx_s_fr s2 f2 rfl rfl) (hE.trans ?_)
        rw [pr_end (by omega) h41 y1 y2, decide_eq_false (by omega)]
      · have y1 : ¬ (cI.toInt = ((Int8.ofInt 38).toInt32).toInt) := y_cif z
        have y2 : ¬ (cI.toInt = ((Int8.ofInt 124).toInt32).toInt) := y_cif z2
        have y3 : ¬ (oJ.toInt ≠ (0 : Int32).toInt) := y_cif z3
        rw [c38, hc] at y1
        rw [c124, hc] at y2
        rw [z0] at y3
        have f2 : y_fr G H [] [] := y_st f0 hH (by repeat (first | exact w_nil | refine w_cons (Or.inl (y_m rfl)) ?_ | refine w_cons (Or.inr (by assumption)) ?_)) (by repeat (first | exact w_nil | refine w_cons (Or.inl (y_m rfl)) ?_ | refine w_cons (Or.inr (by assumption)) ?_))
        refine hK true q H (y_mo (y_sq e f2 rfl rfl) rfl rfl) (tx_s_fr s2 f2 rfl rfl) (hE.trans ?_)
        rw [pr_end (by omega) h41 y1 y2, decide_eq_true (by omega)]
    have T112 : ∀ {G : aH} {oJ : Int32} {q o' : Nat} {p3 p4 : Option Value}, y_fr h G [1538] [] → tx_s nd G sg t q → p < q → oJ.toInt = o' → o' ≤ 5 → pr_E (y_N sg) t nd.toInt false p o = pr_E (y_N sg) t nd.toInt true q o' → ¬ (pr_k (y_N sg) t q = 41 ∧ 0 < o') → aOK s_P X (d + 2) a_m87 112 [some (.ref 14), some (.ref 80), some (.int pI), p3, p4] [.int oJ] G C S K0 := by
      intro G oJ q o' p3 p4 e s2 pq hoJ o5' hE h41
      refine w_go z_hl [143] [82] 20 e.1 ?_
      intro H hH
      have f2 : y_fr G H [] [] := y_st (y_rf e.1) hH (by repeat (first | exact w_nil | refine w_cons (Or.inl (y_m rfl)) ?_ | refine w_cons (Or.inr (by assumption)) ?_)) (by repeat (first | exact w_nil | refine w_cons (Or.inl (y_m rfl)) ?_ | refine w_cons (Or.inr (by assumption)) ?_))
      refine c_lkT (tx_s_fr s2 f2 rfl rfl) (fun r H2 f3 er => ⟨fun n e => (by cases e), ?_⟩)
      exact T117 (y_sq (y_sq e f2 rfl rfl) f3 rfl rfl) (tx_s_fr (tx_s_fr s2 f2 rfl rfl) f3 rfl rfl) pq hoJ o5' er hE h41
    have T97 : ∀ {G : aH} {cI : Int32}, y_fr h G [] [] → p < t → 97 ≤ pr_k (y_N sg) t p → pr_k (y_N sg) t p < 97 + nd.toInt → aOK s_P X (d + 2) a_m87 97 [some (.ref 14), some (.ref 80), some (.int pI), some (.int oI), some (.int cI)] [] G C S K0 := by
      intro G cI e ptt h97 h98
      have s2 := tx_s_fr s e rfl rfl
      have inc : (atI + Int32.ofInt 1).toInt = ((p + 1 : Nat) : Int) := by rw [y_inc (by omega), a5]; rfl
      refine w_go z_hl [12] [88] 30 e.1 ?_
      intro x hx _ _
      obtain rfl := y_fi ((y_fe e rfl).trans a4) hx
      refine ⟨rfl, y_zini (by show 0 ≤ (atI + Int32.ofInt 1).toInt; omega) (by show (atI + Int32.ofInt 1).toInt ≤ 40; omega), fun H hH => ?_⟩
      have f : y_fr G H [1538] [] := y_st (y_mo (y_rf e.1) rfl rfl) hH (by repeat (first | exact w_nil | refine w_cons (Or.inl (y_m rfl)) ?_ | refine w_cons (Or.inr (by assumption)) ?_)) (by repeat (first | exact w_nil | refine w_cons (Or.inl (y_m rfl)) ?_ | refine w_cons (Or.inr (by assumption)) ?_))
      have s3 := tx_s_at s2 f rfl (hH.2.1 1538 _ rfl) inc (by omega)
      obtain ⟨k1, k2, k3, k4, k5⟩ := pr_c_p (T := y_N sg) (n := nd.toInt) t40 o (p + 1) (by omega)
      refine c_closeBr (d := d) s3 ho o5 (fun r H2 f2 s4 er => ⟨fun n e => (by cases e), ?_⟩)
      exact T112 (y_sq (y_sq (y_mo e rfl rfl) f rfl rfl) f2 rfl rfl) s4 (by omega) er (by omega) ((pr_let (by omega) h97 h98).trans k4) k5
    have T76 : ∀ {G : aH} {cI : Int32}, y_fr h G [] [] → p < t → cI.toInt = pr_k (y_N sg) t p → pr_k (y_N sg) t p ≠ 33 → ¬ (pr_k (y_N sg) t p = 40 ∧ o < 5) → aOK s_P X (d + 2) a_m87 76 [some (.ref 14), some (.ref 80), some (.int pI), some (.int oI), some (.int cI)] [] G C S K0 := by
      intro G cI e ptt hc h33 h40
      have bad : ∀ {H : aH}, y_fr h H [] [] → ¬ (97 ≤ pr_k (y_N sg) t p ∧ pr_k (y_N sg) t p < 97 + nd.toInt) → K0 (some (.int (y_01 false))) H C S := fun f w => hK false p _ (y_mo f rfl rfl) (tx_s_fr s f rfl rfl) (pr_bad (by omega) h33 h40 w)
      refine w_go z_hl [97] [88] 30 e.1 ?_
      refine ⟨fun z => ⟨by decide, fun H hH => bad (y_st e hH (by repeat (first | exact w_nil | refine w_cons (Or.inl (y_m rfl)) ?_ | refine w_cons (Or.inr (by assumption)) ?_)) (by repeat (first | exact w_nil | refine w_cons (Or.inl (y_m rfl)) ?_ | refine w_cons (Or.inr (by assumption)) ?_))) (fun w => ?_)⟩, fun z => ?_⟩
      · have y1 : cI.toInt < ((Int8.ofInt 97).toInt32).toInt := (y_ci .lt _ _).mp z
        rw [c97, hc] at y1
        have := w.1
        omega
      · have y1 : ¬ (cI.toInt < ((Int8.ofInt 97).toInt32).toInt) := y_cif z
        rw [c97, hc] at y1
        intro x hx _ _
        obtain rfl := y_fi ((y_fe e rfl).trans a6) hx
        refine ⟨fun z2 => fun H hH => ?_, fun z2 => ⟨by decide, fun H hH => bad (y_st e hH (by repeat (first | exact w_nil | refine w_cons (Or.inl (y_m rfl)) ?_ | refine w_cons (Or.inr (by assumption)) ?_)) (by repeat (first | exact w_nil | refine w_cons (Or.inl (y_m rfl)) ?_ | refine w_cons (Or.inr (by assumption)) ?_))) (fun w => ?_)⟩⟩
        · have y2 : cI.toInt < ((Int8.ofInt 97).toInt32 + nd).toInt := (y_ci .lt _ _).mp z2
          rw [cn, hc] at y2
          exact T97 (y_st e hH (by repeat (first | exact w_nil | refine w_cons (Or.inl (y_m rfl)) ?_ | refine w_cons (Or.inr (by assumption)) ?_)) (by repeat (first | exact w_nil | refine w_cons (Or.inl (y_m rfl)) ?_ | refine w_cons (Or.inr (by assumption)) ?_))) ptt (by omega) y2
        · have y2 : ¬ (cI.toInt < ((Int8.ofInt 97).toInt32 + nd).toInt) := y_cif z2
          rw [cn, hc] at y2
          exact y2 w.2
    have T48 : ∀ {G : aH} {cI : Int32} (b : Bool), y_fr h G [] [] → p < t → cI.toInt = (if b then 40 else 33) → pr_E (y_N sg) t nd.toInt false p o = pr_E (y_N sg) t nd.toInt false (p + 1) (o + (if b then 1 else 0)) → o + (if b then 1 else 0) ≤ 5 → aOK s_P X (d + 2) a_m87 48 [some (.ref 14), some (.ref 80), some (.int pI), some (.int oI), some (.int cI)] [] G C S K0 := by
      intro G cI b e ptt hc hE o5'
      have s2 := tx_s_fr s e rfl rfl
      have inc : (atI + Int32.ofInt 1).toInt = ((p + 1 : Nat) : Int) := by rw [y_inc (by omega), a5]; rfl
      cases b with
      | true =>
        have hc' : cI.toInt = 40 := hc
        have ino : (oI + Int32.ofInt 1).toInt = ((o + 1 : Nat) : Int) := by rw [y_inc (by omega), ho]; rfl
        have o6 : o + 1 ≤ 5 := o5'
        refine w_go z_hl [12] [88] 40 e.1 ?_
        refine ⟨fun z => ?_, fun _ => ?_⟩
        · have y1 : cI.toInt ≠ ((Int8.ofInt 40).toInt32).toInt := (y_ci .ne _ _).mp z
          rw [c40] at y1
          exact absurd hc' y1
        · intro x hx _ _
          obtain rfl := y_fi ((y_fe e rfl).trans a4) hx
          refine ⟨rfl, y_zini (by show 0 ≤ (atI + Int32.ofInt 1).toInt; omega) (by show (atI + Int32.ofInt 1).toInt ≤ 40; omega), fun H hH => ?_⟩
          have f : y_fr G H [1538] [] := y_st (y_mo (y_rf e.1) rfl rfl) hH (by repeat (first | exact w_nil | refine w_cons (Or.inl (y_m rfl)) ?_ | refine w_cons (Or.inr (by assumption)) ?_)) (by repeat (first | exact w_nil | refine w_cons (Or.inl (y_m rfl)) ?_ | refine w_cons (Or.inr (by assumption)) ?_))
          exact ih H (p + 1) _ (o + 1) _ (tx_s_at s2 f rfl (hH.2.1 1538 _ rfl) inc (by omega)) ino o6 (by omega) (fun b r H' f1 f2 f3 => hK b r H' (y_sq (y_mo (y_sq (y_mo e rfl rfl) f rfl rfl : y_fr h H [1538] []) rfl rfl) f1 rfl rfl) f2 (hE.trans f3))
      | false =>
        have hc' : cI.toInt = 33 := hc
        have ino : (oI + Int32.ofInt 0).toInt = (o : Nat) := by rw [show Int32.ofInt 0 = (0 : Int32) by decide, Int32.add_zero]; exact ho
        refine w_go z_hl [12] [88] 40 e.1 ?_
        refine ⟨fun _ => ?_, fun z => ?_⟩
        · intro x hx _ _
          obtain rfl := y_fi ((y_fe e rfl).trans a4) hx
          refine ⟨rfl, y_zini (by show 0 ≤ (atI + Int32.ofInt 1).toInt; omega) (by show (atI + Int32.ofInt 1).toInt ≤ 40; omega), fun H hH => ?_⟩
          have f : y_fr G H [1538] [] := y_st (y_mo (y_rf e.1) rfl rfl) hH (by repeat (first | exact w_nil | refine w_cons (Or.inl (y_m rfl)) ?_ | refine w_cons (Or.inr (by assumption)) ?_)) (by repeat (first | exact w_nil | refine w_cons (Or.inl (y_m rfl)) ?_ | refine w_cons (Or.inr (by assumption)) ?_))
          exact ih H (p + 1) _ o _ (tx_s_at s2 f rfl (hH.2.1 1538 _ rfl) inc (by omega)) ino o5 (by omega) (fun b r H' f1 f2 f3 => hK b r H' (y_sq (y_mo (y_sq (y_mo e rfl rfl) f rfl rfl : y_fr h H [1538] []) rfl rfl) f1 rfl rfl) f2 (hE.trans f3))
        · have y1 : ¬ (cI.toInt ≠ ((Int8.ofInt 40).toInt32).toInt) := y_cif z
          rw [c40] at y1
          exfalso
          omega
    have T27 : ∀ {G : aH} {cI : Int32}, y_fr h G [] [] → p < t → cI.toInt = pr_k (y_N sg) t p → aOK s_P X (d + 2) a_m87 27 [some (.ref 14), some (.ref 80), some (.int pI), some (.int oI), o4] [.int cI] G C S K0 := by
      intro G cI e ptt hc
      refine w_go z_hl [48, 76] [88] 40 e.1 ?_
      refine ⟨fun z => fun H hH => ?_, fun z => ⟨fun z2 => fun H hH => ?_, fun z2 => ⟨fun z3 => fun H hH => ?_, fun z3 => fun H hH => ?_⟩⟩⟩
      · have y1 : cI.toInt = ((Int8.ofInt 33).toInt32).toInt := (y_ci .eq _ _).mp z
        rw [c33] at y1
        exact T48 false (y_st e hH (by repeat (first | exact w_nil | refine w_cons (Or.inl (y_m rfl)) ?_ | refine w_cons (Or.inr (by assumption)) ?_)) (by repeat (first | exact w_nil | refine w_cons (Or.inl (y_m rfl)) ?_ | refine w_cons (Or.inr (by assumption)) ?_))) ptt y1 (pr_bang (by omega) (hc.symm.trans y1)) o5
      · have y1 : ¬ (cI.toInt = ((Int8.ofInt 33).toInt32).toInt) := y_cif z
        have y2 : cI.toInt ≠ ((Int8.ofInt 40).toInt32).toInt := (y_ci .ne _ _).mp z2
        rw [c33, hc] at y1
        rw [c40, hc] at y2
        exact T76 (y_st e hH (by repeat (first | exact w_nil | refine w_cons (Or.inl (y_m rfl)) ?_ | refine w_cons (Or.inr (by assumption)) ?_)) (by repeat (first | exact w_nil | refine w_cons (Or.inl (y_m rfl)) ?_ | refine w_cons (Or.inr (by assumption)) ?_))) ptt hc y1 (fun w => y2 w.1)
      · have y1 : ¬ (cI.toInt = ((Int8.ofInt 33).toInt32).toInt) := y_cif z
        have y3 : (Int32.ofInt 5).toInt ≤ oI.toInt := (y_ci .ge _ _).mp z3
        rw [c33, hc] at y1
        rw [c5] at y3
        exact T76 (y_st e hH (by repeat (first | exact w_nil | refine w_cons (Or.inl (y_m rfl)) ?_ | refine w_cons (Or.inr (by assumption)) ?_)) (by repeat (first | exact w_nil | refine w_cons (Or.inl (y_m rfl)) ?_ | refine w_cons (Or.inr (by assumption)) ?_))) ptt hc y1 (fun w => by have := w.2; omega)
      · have y2 : ¬ (cI.toInt ≠ ((Int8.ofInt 40).toInt32).toInt) := y_cif z2
        have y3 : ¬ ((Int32.ofInt 5).toInt ≤ oI.toInt) := y_cif z3
        rw [c40] at y2
        rw [c5] at y3
        have y4 : cI.toInt = 40 := Decidable.not_not.mp y2
        exact T48 true (y_st e hH (by repeat (first | exact w_nil | refine w_cons (Or.inl (y_m rfl)) ?_ | refine w_cons (Or.inr (by assumption)) ?_)) (by repeat (first | exact w_nil | refine w_cons (Or.inl (y_m rfl)) ?_ | refine w_cons (Or.inr (by assumption)) ?_))) ptt y4 (pr_open (by omega) (hc.symm.trans y4) (by omega)) (by show o + 1 ≤ 5; omega)
    refine w_go z_hl [12] [82] 30 hr ?_
    intro x hx _ _
    obtain rfl := y_fi a4 hx
    intro y hy _ _
    obtain rfl := y_fi a2 hy
    refine ⟨fun z => ⟨by decide, fun H hH => ?_⟩, fun z => fun H hH => ?_⟩
    · have y1 : toI.toInt ≤ atI.toInt := (y_ci .ge _ _).mp z
      have f : y_fr h H [] [] := y_st (y_rf hr) hH (by repeat (first | exact w_nil | refine w_cons (Or.inl (y_m rfl)) ?_ | refine w_cons (Or.inr (by assumption)) ?_)) (by repeat (first | exact w_nil | refine w_cons (Or.inl (y_m rfl)) ?_ | refine w_cons (Or.inr (by assumption)) ?_))
      have k0 : pr_k (y_N sg) t p = 0 := if_neg (by omega)
      exact hK false p H (y_mo f rfl rfl) (tx_s_fr s f rfl rfl) (pr_bad (by omega) (by omega) (fun w => by have := w.1; omega) (fun w => by have := w.1; omega))
    · have y1 : ¬ (toI.toInt ≤ atI.toInt) := y_cif z
      have f : y_fr h H [] [] := y_st (y_rf hr) hH (by repeat (first | exact w_nil | refine w_cons (Or.inl (y_m rfl)) ?_ | refine w_cons (Or.inr (by assumption)) ?_)) (by repeat (first | exact w_nil | refine w_cons (Or.inl (y_m rfl)) ?_ | refine w_cons (Or.inr (by assumption)) ?_))
      refine c_lkT (tx_s_fr s f rfl rfl) (fun r H2 f2 er => ⟨fun n e => (by cases e), ?_⟩)
      exact T27 (y_sq f f2 rfl rfl) (by omega) er
theorem c_ev9 {h : aH} {p : Nat} (n0 : 0 ≤ nd.toInt) (n10 : nd.toInt ≤ 10) {pI : Int32} {pa : Nat} (hpa : pI.toInt = pa) (pa4 : pa < 4) (s : tx_s nd h sg t p) {fr : List Int32} (gf : w_a h 80 = some (0, .inl fr)) (hK : ∀ (b : Bool) (q : Nat) (aI : Int32) (H : aH), y_fr h H [1538] [80, 81, 82] → tx_s nd H sg t q → pr_E (y_N sg) t nd.toInt false p 0 = (b, q) → w_a H 80 = some (0, .inl (fr.set pa aI)) → 0 ≤ aI.toInt → K0 (some (.int (y_01 b))) H C S) : aOK s_P X (d + 2) a_m87 0 [some (.ref 14), some (.ref 80), some (.int pI), none, none] [] h C S K0 := by
  obtain ⟨toI, atI, hr, a1, a2, a3, a4, a5, a6, pt, t40⟩ := id s
  have cp := y_cl1 hpa
  refine w_go z_hl [12] [] 30 hr ?_
  intro x hx _ _
  obtain rfl := y_fi a4 hx
  refine ⟨⟨by omega, by omega⟩, ⟨by omega, by omega⟩, fun l hl len bb => fun H hH => ?_⟩
  obtain rfl := y_ai gf hl
  have w := hH.2.2.1 80 _ rfl
  rw [cp] at w
  have f : y_fr h H [] [80] := y_st (y_mo (y_rf hr) rfl rfl) hH (by repeat (first | exact w_nil | refine w_cons (Or.inl (y_m rfl)) ?_ | refine w_cons (Or.inr (by assumption)) ?_)) (by repeat (first | exact w_nil | refine w_cons (Or.inl (y_m rfl)) ?_ | refine w_cons (Or.inr (by assumption)) ?_))
  exact c_evl9 (d := d) n0 n10 hpa pa4 40 H p _ 0 _ (tx_s_fr s f rfl rfl) (by decide) (by decide) (by omega) (fun b q H' f1 f2 f3 => hK b q atI H' (y_sq (y_mo f rfl rfl) f1 rfl rfl) f2 f3 ((y_ae f1 rfl).trans w) (by omega))
end PEV9
end PT33icw
section PT33icx
/-! ===== v21: parseGiven, parseRate, parseTerm of the class with saying 9 (laid by wip/tools/mk21d.py) ===== -/
section PPT9
variable {X : aX} {C S d : Nat} {K0 : Option Value → aH → Nat → Nat → Prop} {sg : List Int32} {t p : Nat} {nd : Int32} {h : aH}
theorem c_gv9 (n0 : 0 ≤ nd.toInt) (n10 : nd.toInt ≤ 10) {sI : Int32} {sd : Nat} (hs : sI.toInt = sd) (hs2 : sd < 2) (s : tx_s nd h sg t p) {fr : List Int32} (gf : w_a h 80 = some (0, .inl fr)) (hK : ∀ (b : Bool) (q k : Nat) (H : aH) (fr' : List Int32), y_fr h H [1538] [80, 81, 82] → tx_s nd H sg t q → pr_gv (y_N sg) t nd.toInt p = (b, q, k) → w_a H 80 = some (0, .inl fr') → tx_f fr fr' sd k → K0 (some (.int (y_01 b))) H C S) : aOK s_P X (d + 3) a_m86 0 [some (.ref 14), some (.ref 80), some (.int sI)] [] h C S K0 := by
  obtain ⟨toI, atI, hr, a1, a2, a3, a4, a5, a6, pt, t40⟩ := id s
  obtain ⟨fr0, f1, fl, -⟩ := c_arr hr (ob := 80) (n := 4) (lo := -1) (hi := 40) rfl
  obtain rfl := y_ai gf f1
  have c47 : ((Int8.ofInt 47).toInt32).toInt = 47 := by decide
  have m1 : (Int32.ofInt 2 * sI).toInt = ((2 * sd : Nat) : Int) := y_mulS (m := 2) _ (by decide) hs rfl (by omega)
  have m2 : (Int32.ofInt 2 * sI + Int32.ofInt 1).toInt = ((2 * sd + 1 : Nat) : Int) := y_addS _ m1 (n := 1) (by decide) rfl (by omega)
  have T44 : ∀ {G : aH} {b : Bool} {q k : Nat} {fr' : List Int32}, y_fr h G [1538] [80, 81, 82] → tx_s nd G sg t q → pr_gv (y_N sg) t nd.toInt p = (b, q, k) → w_a G 80 = some (0, .inl fr') → tx_f fr fr' sd k → aOK s_P X (d + 3) a_m86 44 [some (.ref 14), some (.ref 80), some (.int sI)] [.int (y_01 b)] G C S K0 := by
    intro G b q k fr' e s2 hg g2 hf
    refine w_go z_hl [] [] 20 e.1 ?_
    refine ⟨y_01b b, fun H hH => ?_⟩
    have f : y_fr G H [] [] := y_st (y_rf e.1) hH (by repeat (first | exact w_nil | refine w_cons (Or.inl (y_m rfl)) ?_ | refine w_cons (Or.inr (by assumption)) ?_)) (by repeat (first | exact w_nil | refine w_cons (Or.inl (y_m rfl)) ?_ | refine w_cons (Or.inr (by assumption)) ?_))
    exact hK b q k H fr' (y_sq e f rfl rfl) (tx_s_fr s2 f rfl rfl) hg ((y_ae f rfl).trans g2) hf
  have T24 : ∀ {G : aH} {q : Nat} {aI : Int32}, y_fr h G [1538] [80, 81, 82] → tx_s nd G sg t q → q < t → pr_E (y_N sg) t nd.toInt false p 0 = (true, q) → pr_k (y_N sg) t q = 47 → w_a G 80 = some (0, .inl (fr.set (2 * sd) aI)) → 0 ≤ aI.toInt → aOK s_P X (d + 3) a_m86 24 [some (.ref 14), some (.ref 80), some (.int sI)] [] G C S K0 := by
    intro G q aI e s2 qt hE h47 g2 ha
    obtain ⟨toJ, atJ, -, b1, b2, b3, b4, b5, b6, -, -⟩ := id s2
    have inc : (atJ + Int32.ofInt 1).toInt = ((q + 1 : Nat) : Int) := by rw [y_inc (by omega), b5]; rfl
    refine w_go z_hl [] [87] 30 e.1 ?_
    intro x hx _ _
    obtain rfl := y_fi b4 hx
    refine ⟨rfl, y_zini (by show 0 ≤ (atJ + Int32.ofInt 1).toInt; omega) (by show (atJ + Int32.ofInt 1).toInt ≤ 40; omega), fun H hH => ?_⟩
    have f : y_fr G H [1538] [] := y_st (y_mo (y_rf e.1) rfl rfl) hH (by repeat (first | exact w_nil | refine w_cons (Or.inl (y_m rfl)) ?_ | refine w_cons (Or.inr (by assumption)) ?_)) (by repeat (first | exact w_nil | refine w_cons (Or.inl (y_m rfl)) ?_ | refine w_cons (Or.inr (by assumption)) ?_))
    refine c_ev9 (d := d) n0 n10 m2 (by omega) (tx_s_at s2 f rfl (hH.2.1 1538 _ rfl) inc (by omega)) ((y_ae f rfl).trans g2) (fun b r aJ H2 f2 s3 hE2 g3 ha2 => ⟨fun n e => (by cases e), ?_⟩)
    exact T44 (k := 2) (y_sq (y_sq e f rfl rfl) f2 rfl rfl) s3 (pr_gv_2 hE h47 hE2) g3 (tx_f_2 fl ha ha2 hs2)
  have T17 : ∀ {G : aH} {q : Nat} {aI cI : Int32}, y_fr h G [1538] [80, 81, 82] → tx_s nd G sg t q → cI.toInt = pr_k (y_N sg) t q → pr_E (y_N sg) t nd.toInt false p 0 = (true, q) → w_a G 80 = some (0, .inl (fr.set (2 * sd) aI)) → 0 ≤ aI.toInt → aOK s_P X (d + 3) a_m86 17 [some (.ref 14), some (.ref 80), some (.int sI)] [.int cI] G C S K0 := by
    intro G q aI cI e s2 hc hE g2 ha
    refine w_go z_hl [24] [] 30 e.1 ?_
    refine ⟨fun z => fun H hH => ?_, fun z => ⟨by decide, fun H hH => ?_⟩⟩
    · have y1 : cI.toInt = ((Int8.ofInt 47).toInt32).toInt := (y_ci .eq _ _).mp z
      rw [c47, hc] at y1
      have f : y_fr G H [] [] := y_st (y_rf e.1) hH (by repeat (first | exact w_nil | refine w_cons (Or.inl (y_m rfl)) ?_ | refine w_cons (Or.inr (by assumption)) ?_)) (by repeat (first | exact w_nil | refine w_cons (Or.inl (y_m rfl)) ?_ | refine w_cons (Or.inr (by assumption)) ?_))
      exact T24 (y_sq e f rfl rfl) (tx_s_fr s2 f rfl rfl) (pr_k_t (by decide) y1) hE y1 ((y_ae f rfl).trans g2) ha
    · have y1 : ¬ (cI.toInt = ((Int8.ofInt 47).toInt32).toInt) := y_cif z
      rw [c47, hc] at y1
      have f : y_fr G H [] [] := y_st (y_rf e.1) hH (by repeat (first | exact w_nil | refine w_cons (Or.inl (y_m rfl)) ?_ | refine w_cons (Or.inr (by assumption)) ?_)) (by repeat (first | exact w_nil | refine w_cons (Or.inl (y_m rfl)) ?_ | refine w_cons (Or.inr (by assumption)) ?_))
      exact hK true q 1 H _ (y_sq e f rfl rfl) (tx_s_fr s2 f rfl rfl) (pr_gv_1 hE y1) ((y_ae f rfl).trans g2) (tx_f_1 fl ha hs2)
  have T8 : ∀ {G : aH} {q : Nat} {aI : Int32} (b : Bool), y_fr h G [1538] [80, 81, 82] → tx_s nd G sg t q → pr_E (y_N sg) t nd.toInt false p 0 = (b, q) → w_a G 80 = some (0, .inl (fr.set (2 * sd) aI)) → 0 ≤ aI.toInt → aOK s_P X (d + 3) a_m86 8 [some (.ref 14), some (.ref 80), some (.int sI)] [.int (y_01 b)] G C S K0 := by
    intro G q aI b e s2 hE g2 ha
    cases b with
    | true =>
      refine w_go z_hl [24] [82] 30 e.1 ?_
      refine ⟨fun _ => fun H hH => ?_, fun z => absurd z (by decide)⟩
      have f : y_fr G H [] [] := y_st (y_rf e.1) hH (by repeat (first | exact w_nil | refine w_cons (Or.inl (y_m rfl)) ?_ | refine w_cons (Or.inr (by assumption)) ?_)) (by repeat (first | exact w_nil | refine w_cons (Or.inl (y_m rfl)) ?_ | refine w_cons (Or.inr (by assumption)) ?_))
      refine c_lkT (tx_s_fr s2 f rfl rfl) (fun r H2 f2 er => ⟨fun n e => (by cases e), ?_⟩)
      exact T17 (y_sq (y_sq e f rfl rfl) f2 rfl rfl) (tx_s_fr (tx_s_fr s2 f rfl rfl) f2 rfl rfl) er hE ((y_ae f2 rfl).trans ((y_ae f rfl).trans g2)) ha
    | false =>
      refine w_go z_hl [24] [82] 30 e.1 ?_
      refine ⟨fun z => absurd z (by decide), fun _ => ⟨by decide, fun H hH => ?_⟩⟩
      have f : y_fr G H [] [] := y_st (y_rf e.1) hH (by repeat (first | exact w_nil | refine w_cons (Or.inl (y_m rfl)) ?_ | refine w_cons (Or.inr (by assumption)) ?_)) (by repeat (first | exact w_nil | refine w_cons (Or.inl (y_m rfl)) ?_ | refine w_cons (Or.inr (by assumption)) ?_))
      exact hK false q 1 H _ (y_sq e f rfl rfl) (tx_s_fr s2 f rfl rfl) (pr_gv_n hE) ((y_ae f rfl).trans g2) (tx_f_1 fl ha hs2)
  refine w_go z_hl [] [87] 30 hr ?_
  intro H hH
  have f : y_fr h H [] [] := y_st (y_rf hr) hH (by repeat (first | exact w_nil | refine w_cons (Or.inl (y_m rfl)) ?_ | refine w_cons (Or.inr (by assumption)) ?_)) (by repeat (first | exact w_nil | refine w_cons (Or.inl (y_m rfl)) ?_ | refine w_cons (Or.inr (by assumption)) ?_))
  refine c_ev9 (d := d) n0 n10 m1 (by omega) (tx_s_fr s f rfl rfl) ((y_ae f rfl).trans gf) (fun b q aI H2 f2 s3 hE g3 ha => ⟨fun n e => (by cases e), ?_⟩)
  exact T8 b (y_sq (y_mo f rfl rfl) f2 rfl rfl) s3 hE g3 ha
theorem c_rt9 {sI : Int32} {sd : Nat} (hs : sI.toInt = sd) (hs2 : sd < 2) (s : tx_s nd h sg t p) (hK : ∀ (b : Bool) (q : Nat) (H : aH), y_fr h H [1538] [83, 84] → tx_s nd H sg t q → pr_rt (y_N sg) t p = (b, q, 0) → K0 (some (.int (y_01 b))) H C S) : aOK s_P X (d + 2) a_m84 0 [some (.ref 14), some (.ref 80), some (.int sI)] [] h C S K0 := by
  obtain ⟨toI, atI, hr, a1, a2, a3, a4, a5, a6, pt, t40⟩ := id s
  have c58 : ((Int8.ofInt 58).toInt32).toInt = 58 := by decide
  have c48 : ((Int8.ofInt 48).toInt32).toInt = 48 := by decide
  have T61 : ∀ {G : aH} {q : Nat} {r : Int32}, y_fr h G [1538] [83] → tx_s nd G sg t q → pr_rt (y_N sg) t p = (true, q, 0) → aOK s_P X (d + 2) a_m84 61 [some (.ref 14), some (.ref 80), some (.int sI)] [.int r, .int sI, .ref 86] G C S K0 := by
    intro G q r e s2 hg
    refine w_go z_hl [] [] 20 e.1 ?_
    refine ⟨⟨by omega, by omega⟩, y_l32 _, fun l hl len bb => ⟨by decide, fun H hH => ?_⟩⟩
    have f : y_fr G H [] [84] := y_st (y_mo (y_rf e.1) rfl rfl) hH (by repeat (first | exact w_nil | refine w_cons (Or.inl (y_m rfl)) ?_ | refine w_cons (Or.inr (by assumption)) ?_)) (by repeat (first | exact w_nil | refine w_cons (Or.inl (y_m rfl)) ?_ | refine w_cons (Or.inr (by assumption)) ?_))
    exact hK true q H (y_sq (y_mo e rfl rfl) f rfl rfl) (tx_s_fr s2 f rfl rfl) hg
  have T45 : ∀ {G : aH} {cI : Int32}, y_fr h G [1538] [83] → tx_s nd G sg t (pr_dq (y_N sg) t 8 p + 1) → pr_k (y_N sg) t (pr_dq (y_N sg) t 8 p) = 58 → pr_dg (y_N sg) t (pr_dq (y_N sg) t 8 p + 1) → cI.toInt = pr_k (y_N sg) t (pr_dq (y_N sg) t 8 p + 1) → aOK s_P X (d + 2) a_m84 45 [some (.ref 14), some (.ref 80), some (.int sI)] [.int cI] G C S K0 := by
    intro G cI e s2 h58 hd hc
    have hd1 := hd.1
    have hd2 := hd.2
    refine w_go z_hl [] [85] 30 e.1 ?_
    refine ⟨fun z => fun H hH => ?_, fun z => ⟨by decide, fun H hH => ?_⟩⟩
    · have y1 : cI.toInt ≠ ((Int8.ofInt 48).toInt32).toInt := (y_ci .ne _ _).mp z
      rw [c48, hc] at y1
      have f : y_fr G H [] [] := y_st (y_rf e.1) hH (by repeat (first | exact w_nil | refine w_cons (Or.inl (y_m rfl)) ?_ | refine w_cons (Or.inr (by assumption)) ?_)) (by repeat (first | exact w_nil | refine w_cons (Or.inl (y_m rfl)) ?_ | refine w_cons (Or.inr (by assumption)) ?_))
      refine c_number (d := d) (tx_s_fr s2 f rfl rfl) (fun r H2 f2 s3 => ⟨fun n e => (by cases e), ?_⟩)
      exact T61 (y_sq (y_sq e f rfl rfl) f2 rfl rfl) s3 (pr_rt_1 h58 ⟨by omega, hd2⟩)
    · have y1 : ¬ (cI.toInt ≠ ((Int8.ofInt 48).toInt32).toInt) := y_cif z
      rw [c48, hc] at y1
      have f : y_fr G H [] [] := y_st (y_rf e.1) hH (by repeat (first | exact w_nil | refine w_cons (Or.inl (y_m rfl)) ?_ | refine w_cons (Or.inr (by assumption)) ?_)) (by repeat (first | exact w_nil | refine w_cons (Or.inl (y_m rfl)) ?_ | refine w_cons (Or.inr (by assumption)) ?_))
      exact hK false _ H (y_mo (y_sq e f rfl rfl) rfl rfl) (tx_s_fr s2 f rfl rfl) (pr_rt_0 h58 (fun w => by have := w.1; omega))
  have T38 : ∀ {G : aH} (b : Bool), y_fr h G [1538] [83] → tx_s nd G sg t (pr_dq (y_N sg) t 8 p + 1) → pr_k (y_N sg) t (pr_dq (y_N sg) t 8 p) = 58 → (b = true → pr_dg (y_N sg) t (pr_dq (y_N sg) t 8 p + 1)) → (b = false → ¬ pr_dg (y_N sg) t (pr_dq (y_N sg) t 8 p + 1)) → aOK s_P X (d + 2) a_m84 38 [some (.ref 14), some (.ref 80), some (.int sI)] [.int (y_01 b)] G C S K0 := by
    intro G b e s2 h58 hy hn
    cases b with
    | true =>
      refine w_go z_hl [] [82] 30 e.1 ?_
      refine ⟨fun z => absurd z (by decide), fun _ => fun H hH => ?_⟩
      have f : y_fr G H [] [] := y_st (y_rf e.1) hH (by repeat (first | exact w_nil | refine w_cons (Or.inl (y_m rfl)) ?_ | refine w_cons (Or.inr (by assumption)) ?_)) (by repeat (first | exact w_nil | refine w_cons (Or.inl (y_m rfl)) ?_ | refine w_cons (Or.inr (by assumption)) ?_))
      refine c_lkT (tx_s_fr s2 f rfl rfl) (fun r H2 f2 er => ⟨fun n e => (by cases e), ?_⟩)
      exact T45 (y_sq (y_sq e f rfl rfl) f2 rfl rfl) (tx_s_fr (tx_s_fr s2 f rfl rfl) f2 rfl rfl) h58 (hy rfl) er
    | false =>
      refine w_go z_hl [] [82] 30 e.1 ?_
      refine ⟨fun _ => ⟨by decide, fun H hH => ?_⟩, fun z => absurd z (by decide)⟩
      have f : y_fr G H [] [] := y_st (y_rf e.1) hH (by repeat (first | exact w_nil | refine w_cons (Or.inl (y_m rfl)) ?_ | refine w_cons (Or.inr (by assumption)) ?_)) (by repeat (first | exact w_nil | refine w_cons (Or.inl (y_m rfl)) ?_ | refine w_cons (Or.inr (by assumption)) ?_))
      exact hK false _ H (y_mo (y_sq e f rfl rfl) rfl rfl) (tx_s_fr s2 f rfl rfl) (pr_rt_0 h58 (fun w => hn rfl ⟨by have := w.1; omega, w.2⟩))
  have T35 : ∀ {G : aH} {cI : Int32}, y_fr h G [1538] [83] → tx_s nd G sg t (pr_dq (y_N sg) t 8 p + 1) → pr_k (y_N sg) t (pr_dq (y_N sg) t 8 p) = 58 → cI.toInt = pr_k (y_N sg) t (pr_dq (y_N sg) t 8 p + 1) → aOK s_P X (d + 2) a_m84 35 [some (.ref 14), some (.ref 80), some (.int sI)] [.int cI] G C S K0 := by
    intro G cI e s2 h58 hc
    refine w_go z_hl [] [83] 20 e.1 ?_
    intro H hH
    have f : y_fr G H [] [] := y_st (y_rf e.1) hH (by repeat (first | exact w_nil | refine w_cons (Or.inl (y_m rfl)) ?_ | refine w_cons (Or.inr (by assumption)) ?_)) (by repeat (first | exact w_nil | refine w_cons (Or.inl (y_m rfl)) ?_ | refine w_cons (Or.inr (by assumption)) ?_))
    refine c_isDg (c := cI) f.1 (fun H2 f2 w => ⟨fun n e => (by cases e), ?_⟩) (fun H2 f2 w => ⟨fun n e => (by cases e), ?_⟩)
    · exact T38 true (y_sq (y_sq e f rfl rfl) f2 rfl rfl) (tx_s_fr (tx_s_fr s2 f rfl rfl) f2 rfl rfl) h58 (fun _ => ⟨by omega, by omega⟩) (fun z => absurd z (by decide))
    · exact T38 false (y_sq (y_sq e f rfl rfl) f2 rfl rfl) (tx_s_fr (tx_s_fr s2 f rfl rfl) f2 rfl rfl) h58 (fun z => absurd z (by decide)) (fun _ z => w ⟨by have := z.1; omega, by have := z.2; omega⟩)
  have T14 : ∀ {G : aH} {cI : Int32}, y_fr h G [1538] [83] → tx_s nd G sg t (pr_dq (y_N sg) t 8 p) → cI.toInt = pr_k (y_N sg) t (pr_dq (y_N sg) t 8 p) → aOK s_P X (d + 2) a_m84 14 [some (.ref 14), some (.ref 80), some (.int sI)] [.int cI] G C S K0 := by
    intro G cI e s2 hc
    obtain ⟨toJ, atJ, -, b1, b2, b3, b4, b5, b6, qt, -⟩ := id s2
    refine w_go z_hl [] [82] 40 e.1 ?_
    refine ⟨fun z => ?_, fun z => ⟨by decide, fun H hH => ?_⟩⟩
    · have y1 : cI.toInt = ((Int8.ofInt 58).toInt32).toInt := (y_ci .eq _ _).mp z
      rw [c58, hc] at y1
      have qt' := pr_k_t (by decide) y1
      have inc : (atJ + Int32.ofInt 1).toInt = ((pr_dq (y_N sg) t 8 p + 1 : Nat) : Int) := by rw [y_inc (by omega), b5]; rfl
      intro x hx _ _
      obtain rfl := y_fi b4 hx
      refine ⟨rfl, y_zini (by show 0 ≤ (atJ + Int32.ofInt 1).toInt; omega) (by show (atJ + Int32.ofInt 1).toInt ≤ 40; omega), fun H hH => ?_⟩
      have f : y_fr G H [1538] [] := y_st (y_mo (y_rf e.1) rfl rfl) hH (by repeat (first | exact w_nil | refine w_cons (Or.inl (y_m rfl)) ?_ | refine w_cons (Or.inr (by assumption)) ?_)) (by repeat (first | exact w_nil | refine w_cons (Or.inl (y_m rfl)) ?_ | refine w_cons (Or.inr (by assumption)) ?_))
      have s3 := tx_s_at s2 f rfl (hH.2.1 1538 _ rfl) inc (by omega)
      refine c_lkT s3 (fun r H2 f2 er => ⟨fun n e => (by cases e), ?_⟩)
      exact T35 (y_sq (y_sq e f rfl rfl) f2 rfl rfl) (tx_s_fr s3 f2 rfl rfl) y1 er
    · have y1 : ¬ (cI.toInt = ((Int8.ofInt 58).toInt32).toInt) := y_cif z
      rw [c58, hc] at y1
      have f : y_fr G H [] [] := y_st (y_rf e.1) hH (by repeat (first | exact w_nil | refine w_cons (Or.inl (y_m rfl)) ?_ | refine w_cons (Or.inr (by assumption)) ?_)) (by repeat (first | exact w_nil | refine w_cons (Or.inl (y_m rfl)) ?_ | refine w_cons (Or.inr (by assumption)) ?_))
      exact hK false _ H (y_mo (y_sq e f rfl rfl) rfl rfl) (tx_s_fr s2 f rfl rfl) (pr_rt_n y1)
  have T9 : ∀ {G : aH} {r : Int32}, y_fr h G [1538] [] → tx_s nd G sg t (pr_dq (y_N sg) t 8 p) → aOK s_P X (d + 2) a_m84 9 [some (.ref 14), some (.ref 80), some (.int sI)] [.int r, .int sI, .ref 85] G C S K0 := by
    intro G r e s2
    refine w_go z_hl [] [82] 30 e.1 ?_
    refine ⟨⟨by omega, by omega⟩, y_l32 _, fun l hl len bb => fun H hH => ?_⟩
    have f : y_fr G H [] [83] := y_st (y_mo (y_rf e.1) rfl rfl) hH (by repeat (first | exact w_nil | refine w_cons (Or.inl (y_m rfl)) ?_ | refine w_cons (Or.inr (by assumption)) ?_)) (by repeat (first | exact w_nil | refine w_cons (Or.inl (y_m rfl)) ?_ | refine w_cons (Or.inr (by assumption)) ?_))
    refine c_lkT (tx_s_fr s2 f rfl rfl) (fun r H2 f2 er => ⟨fun n e => (by cases e), ?_⟩)
    exact T14 (y_sq (y_sq (y_mo e rfl rfl) f rfl rfl) f2 rfl rfl) (tx_s_fr (tx_s_fr s2 f rfl rfl) f2 rfl rfl) er
  refine w_go z_hl [] [85] 30 hr ?_
  intro H hH
  have f : y_fr h H [] [] := y_st (y_rf hr) hH (by repeat (first | exact w_nil | refine w_cons (Or.inl (y_m rfl)) ?_ | refine w_cons (Or.inr (by assumption)) ?_)) (by repeat (first | exact w_nil | refine w_cons (Or.inl (y_m rfl)) ?_ | refine w_cons (Or.inr (by assumption)) ?_))
  refine c_number (d := d) (tx_s_fr s f rfl rfl) (fun r H2 f2 s3 => ⟨fun n e => (by cases e), ?_⟩)
  exact T9 (y_sq (y_mo f rfl rfl) f2 rfl rfl) s3
end PPT9
end PT33icx
section PT33icy
/-! ===== v21: clear, parseTerm, parseFirst, parseSecond of the class with saying 9 (laid by wip/tools/mk21e.py) ===== -/
section PFS9
variable {X : aX} {C S d : Nat} {K0 : Option Value → aH → Nat → Nat → Prop} {sg : List Int32} {t p : Nat} {nd : Int32} {h : aH}
theorem c_clearl9 : ∀ (m : Nat) (h : aH) (iI : Int32) (i : Nat) (fr : List Int32), w_hr z_D h → iI.toInt = i → i + m = 4 → w_a h 80 = some (0, .inl fr) → fr.length = 4 → (∀ j, j < i → y_N fr j = -1) → (∀ (H : aH) (fr' : List Int32), y_fr h H [] [80, 81, 82] → w_a H 80 = some (0, .inl fr') → (∀ j, j < 4 → y_N fr' j = -1) → K0 none H C S) → aOK s_P X d a_m79 13 [some (.ref 80), some (.int iI)] [] h C S K0 := by
  have c4 : (Int32.ofInt 4).toInt = 4 := by decide
  intro m
  induction m with
  | zero =>
    intro h iI i fr hr hi hm g len hf hK
    have ei : i = 4 := by omega
    rw [ei] at hf
    refine w_go z_hl [13] [] 30 hr ?_
    refine ⟨fun _ => fun H hH => ?_, fun z => ?_⟩
    · have f : y_fr h H [] [] := y_st (y_rf hr) hH (by repeat (first | exact w_nil | refine w_cons (Or.inl (y_m rfl)) ?_ | refine w_cons (Or.inr (by assumption)) ?_)) (by repeat (first | exact w_nil | refine w_cons (Or.inl (y_m rfl)) ?_ | refine w_cons (Or.inr (by assumption)) ?_))
      exact hK H fr (y_mo f rfl rfl) ((y_ae f rfl).trans g) hf
    · have y1 : ¬ ((Int32.ofInt 4).toInt ≤ iI.toInt) := y_cif z
      rw [c4] at y1
      exfalso
      omega
  | succ m ih =>
    intro h iI i fr hr hi hm g len hf hK
    have ink : (iI + Int32.ofInt 1).toInt = ((i + 1 : Nat) : Int) := by rw [y_inc (by omega), hi]; rfl
    have ci := y_cl1 hi
    refine w_go z_hl [13] [] 60 hr ?_
    refine ⟨fun z => ?_, fun z => ?_⟩
    · have y1 : (Int32.ofInt 4).toInt ≤ iI.toInt := (y_ci .ge _ _).mp z
      rw [c4] at y1
      exfalso
      omega
    · refine ⟨⟨by omega, by omega⟩, by decide, fun l hl len1 bb => ?_⟩
      obtain rfl := y_ai g hl
      refine ⟨⟨by omega, by omega⟩, y_l32 _, fun l2 hl2 len2 bb2 => ⟨⟨by omega, by omega⟩, y_l32 _, fun l3 hl3 len3 bb3 => fun H hH => ?_⟩⟩
      have w := hH.2.2.1 80 _ rfl
      rw [ci] at w
      have f : y_fr h H [] [80, 81, 82] := y_st (y_mo (y_rf hr) rfl rfl) hH (by repeat (first | exact w_nil | refine w_cons (Or.inl (y_m rfl)) ?_ | refine w_cons (Or.inr (by assumption)) ?_)) (by repeat (first | exact w_nil | refine w_cons (Or.inl (y_m rfl)) ?_ | refine w_cons (Or.inr (by assumption)) ?_))
      refine ih H _ (i + 1) _ f.1 ink (by omega) w (by rw [List.length_set]; exact len) (fun j hj => ?_) (fun H' fr' f1 f2 f3 => hK H' fr' (y_sq f f1 rfl rfl) f2 f3)
      rw [y_Nset (by omega)]
      by_cases y : j = i
      · rw [if_pos y]
        decide
      · rw [if_neg y]
        exact hf j (by omega)
theorem c_clear9 (hr : w_hr z_D h) (hK : ∀ (H : aH) (fr : List Int32), y_fr h H [9985, 9986] [80, 81, 82] → w_a H 80 = some (0, .inl fr) → (∀ j, j < 4 → y_N fr j = -1) → K0 none H C S) : aOK s_P X d a_m79 0 [some (.ref 80), none] [] h C S K0 := by
  refine w_go z_hl [13] [] 30 hr ?_
  refine ⟨rfl, y_zini (by decide) (by decide), rfl, y_zini (by decide) (by decide), fun H hH => ?_⟩
  have f : y_fr h H [9985, 9986] [] := y_st (y_mo (y_rf hr) rfl rfl) hH (by repeat (first | exact w_nil | refine w_cons (Or.inl (y_m rfl)) ?_ | refine w_cons (Or.inr (by assumption)) ?_)) (by repeat (first | exact w_nil | refine w_cons (Or.inl (y_m rfl)) ?_ | refine w_cons (Or.inr (by assumption)) ?_))
  obtain ⟨fr, f1, fl, -⟩ := c_arr f.1 (ob := 80) (n := 4) (lo := -1) (hi := 40) rfl
  exact c_clearl9 4 H _ 0 fr f.1 (by decide) rfl f1 fl (fun j hj => absurd hj (Nat.not_lt_zero j)) (fun H' fr' e1 e2 e3 => hK H' fr' (y_sq (y_mo f rfl rfl) e1 rfl rfl) e2 e3)
theorem c_tm9 (n0 : 0 ≤ nd.toInt) (n10 : nd.toInt ≤ 10) {sI : Int32} {sd : Nat} (hs : sI.toInt = sd) (hs2 : sd < 2) (s : tx_s nd h sg t p) {fr : List Int32} (gf : w_a h 80 = some (0, .inl fr)) (hK : ∀ (b : Bool) (q k : Nat) (H : aH) (fr' : List Int32), y_fr h H [1538] [80, 81, 82, 83, 84] → tx_s nd H sg t q → pr_tm (y_N sg) t nd.toInt p = (b, q, k) → w_a H 80 = some (0, .inl fr') → (k = 0 ∧ fr' = fr) ∨ tx_f fr fr' sd k → K0 (some (.int (y_01 b))) H C S) : aOK s_P X (d + 4) a_m81 0 [some (.ref 14), some (.ref 80), some (.int sI)] [] h C S K0 := by
  have hr := (tx_s_hr s).1
  have T25 : ∀ {G : aH} {b : Bool} {q k : Nat} {pc : Nat} {fr' : List Int32}, (pc = 16 ∨ pc = 25) → y_fr h G [1538] [80, 81, 82, 83, 84] → tx_s nd G sg t q → pr_tm (y_N sg) t nd.toInt p = (b, q, k) → w_a G 80 = some (0, .inl fr') → (k = 0 ∧ fr' = fr) ∨ tx_f fr fr' sd k → aOK s_P X (d + 4) a_m81 pc [some (.ref 14), some (.ref 80), some (.int sI)] [.int (y_01 b)] G C S K0 := by
    intro G b q k pc fr' hpc e s2 hg g2 hf
    rcases hpc with rfl | rfl
    · refine w_go z_hl [] [] 20 e.1 ?_
      refine ⟨y_01b b, fun H hH => ?_⟩
      have f : y_fr G H [] [] := y_st (y_rf e.1) hH (by repeat (first | exact w_nil | refine w_cons (Or.inl (y_m rfl)) ?_ | refine w_cons (Or.inr (by assumption)) ?_)) (by repeat (first | exact w_nil | refine w_cons (Or.inl (y_m rfl)) ?_ | refine w_cons (Or.inr (by assumption)) ?_))
      exact hK b q k H fr' (y_sq e f rfl rfl) (tx_s_fr s2 f rfl rfl) hg ((y_ae f rfl).trans g2) hf
    · refine w_go z_hl [] [] 20 e.1 ?_
      refine ⟨y_01b b, fun H hH => ?_⟩
      have f : y_fr G H [] [] := y_st (y_rf e.1) hH (by repeat (first | exact w_nil | refine w_cons (Or.inl (y_m rfl)) ?_ | refine w_cons (Or.inr (by assumption)) ?_)) (by repeat (first | exact w_nil | refine w_cons (Or.inl (y_m rfl)) ?_ | refine w_cons (Or.inr (by assumption)) ?_))
      exact hK b q k H fr' (y_sq e f rfl rfl) (tx_s_fr s2 f rfl rfl) hg ((y_ae f rfl).trans g2) hf
  have T7 : ∀ {G : aH} (b : Bool), y_fr h G [] [] → (b = true → pr_dg (y_N sg) t p) → (b = false → ¬ pr_dg (y_N sg) t p) → aOK s_P X (d + 4) a_m81 7 [some (.ref 14), some (.ref 80), some (.int sI)] [.int (y_01 b)] G C S K0 := by
    intro G b e hy hn
    cases b with
    | true =>
      refine w_go z_hl [] [84, 86] 30 e.1 ?_
      refine ⟨fun z => absurd z (by decide), fun _ => fun H hH => ?_⟩
      have f : y_fr h H [] [] := y_st e hH (by repeat (first | exact w_nil | refine w_cons (Or.inl (y_m rfl)) ?_ | refine w_cons (Or.inr (by assumption)) ?_)) (by repeat (first | exact w_nil | refine w_cons (Or.inl (y_m rfl)) ?_ | refine w_cons (Or.inr (by assumption)) ?_))
      refine c_rt9 (d := d + 1) hs hs2 (tx_s_fr s f rfl rfl) (fun b q H2 f2 s3 hg => ⟨fun n e => (by cases e), ?_⟩)
      exact T25 (k := 0) (Or.inl rfl) (y_sq (y_mo f rfl rfl) f2 rfl rfl) s3 (by rw [pr_tm_1 (hy rfl)]; exact hg) ((y_ae f2 rfl).trans ((y_ae f rfl).trans gf)) (Or.inl ⟨rfl, rfl⟩)
    | false =>
      refine w_go z_hl [] [84, 86] 30 e.1 ?_
      refine ⟨fun _ => fun H hH => ?_, fun z => absurd z (by decide)⟩
      have f : y_fr h H [] [] := y_st e hH (by repeat (first | exact w_nil | refine w_cons (Or.inl (y_m rfl)) ?_ | refine w_cons (Or.inr (by assumption)) ?_)) (by repeat (first | exact w_nil | refine w_cons (Or.inl (y_m rfl)) ?_ | refine w_cons (Or.inr (by assumption)) ?_))
      refine c_gv9 (d := d) n0 n10 hs hs2 (tx_s_fr s f rfl rfl) ((y_ae f rfl).trans gf) (fun b q k H2 fr' f2 s3 hg g3 hf => ⟨fun n e => (by cases e), ?_⟩)
      exact T25 (Or.inr rfl) (y_sq (y_mo f rfl rfl) f2 rfl rfl) s3 (by rw [pr_tm_0 (hn rfl)]; exact hg) g3 (Or.inr hf)
  have T4 : ∀ {G : aH} {cI : Int32}, y_fr h G [] [] → cI.toInt = pr_k (y_N sg) t p → aOK s_P X (d + 4) a_m81 4 [some (.ref 14), some (.ref 80), some (.int sI)] [.int cI] G C S K0 := by
    intro G cI e hc
    refine w_go z_hl [] [83] 20 e.1 ?_
    intro H hH
    have f : y_fr h H [] [] := y_st e hH (by repeat (first | exact w_nil | refine w_cons (Or.inl (y_m rfl)) ?_ | refine w_cons (Or.inr (by assumption)) ?_)) (by repeat (first | exact w_nil | refine w_cons (Or.inl (y_m rfl)) ?_ | refine w_cons (Or.inr (by assumption)) ?_))
    refine c_isDg (c := cI) f.1 (fun H2 f2 w => ⟨fun n e => (by cases e), ?_⟩) (fun H2 f2 w => ⟨fun n e => (by cases e), ?_⟩)
    · exact T7 true (y_sq f f2 rfl rfl) (fun _ => ⟨by omega, by omega⟩) (fun z => absurd z (by decide))
    · exact T7 false (y_sq f f2 rfl rfl) (fun z => absurd z (by decide)) (fun _ z => w ⟨by have := z.1; omega, by have := z.2; omega⟩)
  refine w_go z_hl [] [82] 20 hr ?_
  intro H hH
  have f : y_fr h H [] [] := y_st (y_rf hr) hH (by repeat (first | exact w_nil | refine w_cons (Or.inl (y_m rfl)) ?_ | refine w_cons (Or.inr (by assumption)) ?_)) (by repeat (first | exact w_nil | refine w_cons (Or.inl (y_m rfl)) ?_ | refine w_cons (Or.inr (by assumption)) ?_))
  refine c_lkT (tx_s_fr s f rfl rfl) (fun r H2 f2 er => ⟨fun n e => (by cases e), ?_⟩)
  exact T4 (y_sq f f2 rfl rfl) er
theorem c_isNum9 (hr : w_hr z_D h) {fr : List Int32} (gf : w_a h 80 = some (0, .inl fr)) (hK : ∀ (H : aH), y_fr h H [] [] → K0 (some (.int (y_01 (decide (y_N fr 0 = -1))))) H C S) : aOK s_P X d a_m89 0 [some (.ref 80), some (.int (Int32.ofInt 0))] [] h C S K0 := by
  have m1 : (Int32.ofInt 2 * Int32.ofInt 0).toInt = ((0 : Nat) : Int) := by decide
  have cm := y_cl1 m1
  have cn : (Int32.ofInt (-1)).toInt = -1 := by decide
  refine w_go z_hl [] [] 30 hr ?_
  refine ⟨⟨by decide, by decide⟩, fun l hl len bb => ?_⟩
  obtain rfl := y_ai gf hl
  refine ⟨fun z => ⟨by decide, fun H hH => ?_⟩, fun z => ⟨by decide, fun H hH => ?_⟩⟩
  · have y1 : (fr.getD (Int32.ofInt 2 * Int32.ofInt 0).toNatClampNeg 0).toInt ≠ (Int32.ofInt (-1)).toInt := (y_ci .ne _ _).mp z
    rw [cm, cn] at y1
    have w := hK H (y_st (y_rf hr) hH (by repeat (first | exact w_nil | refine w_cons (Or.inl (y_m rfl)) ?_ | refine w_cons (Or.inr (by assumption)) ?_)) (by repeat (first | exact w_nil | refine w_cons (Or.inl (y_m rfl)) ?_ | refine w_cons (Or.inr (by assumption)) ?_)))
    rw [decide_eq_false (show ¬ (y_N fr 0 = -1) from y1)] at w
    exact w
  · have y1 : ¬ ((fr.getD (Int32.ofInt 2 * Int32.ofInt 0).toNatClampNeg 0).toInt ≠ (Int32.ofInt (-1)).toInt) := y_cif z
    rw [cm, cn] at y1
    have w := hK H (y_st (y_rf hr) hH (by repeat (first | exact w_nil | refine w_cons (Or.inl (y_m rfl)) ?_ | refine w_cons (Or.inr (by assumption)) ?_)) (by repeat (first | exact w_nil | refine w_cons (Or.inl (y_m rfl)) ?_ | refine w_cons (Or.inr (by assumption)) ?_)))
    rw [decide_eq_true (show y_N fr 0 = -1 from Decidable.not_not.mp y1)] at w
    exact w
theorem c_first9 (n0 : 0 ≤ nd.toInt) (n10 : nd.toInt ≤ 10) (s : tx_s nd h sg t 0) {fr : List Int32} (gf : w_a h 80 = some (0, .inl fr)) (hf0 : y_N fr 0 = -1) (hf1 : y_N fr 1 = -1) (yes : ∀ (q k : Nat) (H : aH) (rel : Int32) (fr' : List Int32), y_fr h H [1538, 9986] [80, 81, 82, 83, 84] → tx_s nd H sg t (q + 1) → pr_tm (y_N sg) t nd.toInt 0 = (true, q, k) → w_f H 9986 = some (.int rel) → w_a H 80 = some (0, .inl fr') → ((pr_k (y_N sg) t q = 126 ∧ k = 1) ∧ rel.toInt = 126) ∨ (¬ (pr_k (y_N sg) t q = 126 ∧ k = 1) ∧ (pr_k (y_N sg) t q = 61 ∨ pr_k (y_N sg) t q = 60 ∨ pr_k (y_N sg) t q = 62) ∧ rel.toInt ≠ 126) → K0 (some (.int (y_01 true))) H C S) (no : ∀ (q : Nat) (H : aH), y_fr h H [1538, 9986] [80, 81, 82, 83, 84] → tx_s nd H sg t q → pr_sy (y_N sg) t nd.toInt = (false, q) → K0 (some (.int (y_01 false))) H C S) : aOK s_P X (d + 5) a_m80 0 [some (.ref 14), some (.ref 80), none, none] [] h C S K0 := by
  have hr := (tx_s_hr s).1
  have c126 : ((Int8.ofInt 126).toInt32).toInt = 126 := by decide
  have c61 : ((Int8.ofInt 61).toInt32).toInt = 61 := by decide
  have c60 : ((Int8.ofInt 60).toInt32).toInt = 60 := by decide
  have c62 : ((Int8.ofInt 62).toInt32).toInt = 62 := by decide
  have cn : (Int32.ofInt (-1)).toInt = -1 := by decide
  have T70 : ∀ {G : aH} {q k : Nat} {cI : Int32} {p3 : Option Value} {fr' : List Int32}, y_fr h G [1538, 9986] [80, 81, 82, 83, 84] → tx_s nd G sg t q → q < t → pr_tm (y_N sg) t nd.toInt 0 = (true, q, k) → w_a G 80 = some (0, .inl fr') → cI.toInt = pr_k (y_N sg) t q → 0 ≤ cI.toInt → cI.toInt ≤ 65535 → ((pr_k (y_N sg) t q = 126 ∧ k = 1) ∨ (¬ (pr_k (y_N sg) t q = 126 ∧ k = 1) ∧ (pr_k (y_N sg) t q = 61 ∨ pr_k (y_N sg) t q = 60 ∨ pr_k (y_N sg) t q = 62))) → aOK s_P X (d + 5) a_m80 70 [some (.ref 14), some (.ref 80), some (.int cI), p3] [] G C S K0 := by
    intro G q k cI p3 fr' e s2 qt ht g2 hc c0 c65 hw
    obtain ⟨toJ, atJ, -, b1, b2, b3, b4, b5, b6, -, t40⟩ := id s2
    have inc : (atJ + Int32.ofInt 1).toInt = ((q + 1 : Nat) : Int) := by rw [y_inc (by omega), b5]; rfl
    refine w_go z_hl [] [] 40 e.1 ?_
    refine ⟨y_fitC c0 c65, y_zini c0 c65, ?_⟩
    intro x hx _ _
    obtain rfl := y_fi b4 hx
    refine ⟨rfl, y_zini (by show 0 ≤ (atJ + Int32.ofInt 1).toInt; omega) (by show (atJ + Int32.ofInt 1).toInt ≤ 40; omega), by decide, fun H hH => ?_⟩
    have f : y_fr G H [1538, 9986] [] := y_st (y_mo (y_rf e.1) rfl rfl) hH (by repeat (first | exact w_nil | refine w_cons (Or.inl (y_m rfl)) ?_ | refine w_cons (Or.inr (by assumption)) ?_)) (by repeat (first | exact w_nil | refine w_cons (Or.inl (y_m rfl)) ?_ | refine w_cons (Or.inr (by assumption)) ?_))
    have s3 : tx_s nd H sg t (q + 1) := ⟨toJ, _, f.1, (y_ae f rfl).trans b1, (y_fe f rfl).trans b2, b3, hH.2.1 1538 _ rfl, inc, (y_fe f rfl).trans b6, by omega, t40⟩
    refine yes q k H cI fr' (y_sq e f rfl rfl) s3 ht (hH.2.1 9986 _ rfl) ((y_ae f rfl).trans g2) ?_
    rcases hw with w | ⟨w, w2⟩
    · exact Or.inl ⟨w, by rw [hc]; exact w.1⟩
    · refine Or.inr ⟨w, w2, ?_⟩
      rw [hc]
      rcases w2 with w3 | w3 | w3
      · omega
      · omega
      · omega
  have T45 : ∀ {G : aH} {q k : Nat} {cI : Int32} {fr' : List Int32} (b : Bool), y_fr h G [1538, 9986] [80, 81, 82, 83, 84] → tx_s nd G sg t q → pr_tm (y_N sg) t nd.toInt 0 = (true, q, k) → w_a G 80 = some (0, .inl fr') → cI.toInt = pr_k (y_N sg) t q → 0 ≤ cI.toInt → cI.toInt ≤ 65535 → (b = true → pr_k (y_N sg) t q = 126 ∧ k = 1) → (b = false → ¬ (pr_k (y_N sg) t q = 126 ∧ k = 1)) → aOK s_P X (d + 5) a_m80 45 [some (.ref 14), some (.ref 80), some (.int cI), none] [.int (y_01 b)] G C S K0 := by
    intro G q k cI fr' b e s2 ht g2 hc c0 c65 hy hn
    have f0 : y_fr G G [] [] := y_rf e.1
    have go : ∀ {H : aH} {p3 : Option Value}, y_fr G H [] [] → q < t → ((pr_k (y_N sg) t q = 126 ∧ k = 1) ∨ (¬ (pr_k (y_N sg) t q = 126 ∧ k = 1) ∧ (pr_k (y_N sg) t q = 61 ∨ pr_k (y_N sg) t q = 60 ∨ pr_k (y_N sg) t q = 62))) → aOK s_P X (d + 5) a_m80 70 [some (.ref 14), some (.ref 80), some (.int cI), p3] [] H C S K0 := fun f qt w => T70 (y_sq e f rfl rfl) (tx_s_fr s2 f rfl rfl) qt ht ((y_ae f rfl).trans g2) hc c0 c65 w
    have q61 : cI.toInt = 61 → ¬ (pr_k (y_N sg) t q = 126 ∧ k = 1) := fun z w => by have := w.1; omega
    have q60 : cI.toInt = 60 → ¬ (pr_k (y_N sg) t q = 126 ∧ k = 1) := fun z w => by have := w.1; omega
    have q62 : cI.toInt = 62 → ¬ (pr_k (y_N sg) t q = 126 ∧ k = 1) := fun z w => by have := w.1; omega
    cases b with
    | true =>
      refine w_go z_hl [70] [] 40 e.1 ?_
      refine ⟨fun z => fun H hH => ?_, fun z => ⟨fun z2 => fun H hH => ?_, fun z2 => ⟨fun z3 => fun H hH => ?_, fun z3 => ⟨fun _ => fun H hH => ?_, fun z4 => absurd z4 (by decide)⟩⟩⟩⟩
      · have y1 : cI.toInt = ((Int8.ofInt 61).toInt32).toInt := (y_ci .eq _ _).mp z
        rw [c61] at y1
        exact go (y_st f0 hH (by repeat (first | exact w_nil | refine w_cons (Or.inl (y_m rfl)) ?_ | refine w_cons (Or.inr (by assumption)) ?_)) (by repeat (first | exact w_nil | refine w_cons (Or.inl (y_m rfl)) ?_ | refine w_cons (Or.inr (by assumption)) ?_))) (pr_k_t (c := 61) (by decide) (hc.symm.trans y1)) (Or.inr ⟨q61 y1, Or.inl (hc.symm.trans y1)⟩)
      · have y1 : cI.toInt = ((Int8.ofInt 60).toInt32).toInt := (y_ci .eq _ _).mp z2
        rw [c60] at y1
        exact go (y_st f0 hH (by repeat (first | exact w_nil | refine w_cons (Or.inl (y_m rfl)) ?_ | refine w_cons (Or.inr (by assumption)) ?_)) (by repeat (first | exact w_nil | refine w_cons (Or.inl (y_m rfl)) ?_ | refine w_cons (Or.inr (by assumption)) ?_))) (pr_k_t (c := 60) (by decide) (hc.symm.trans y1)) (Or.inr ⟨q60 y1, Or.inr (Or.inl (hc.symm.trans y1))⟩)
      · have y1 : cI.toInt = ((Int8.ofInt 62).toInt32).toInt := (y_ci .eq _ _).mp z3
        rw [c62] at y1
        exact go (y_st f0 hH (by repeat (first | exact w_nil | refine w_cons (Or.inl (y_m rfl)) ?_ | refine w_cons (Or.inr (by assumption)) ?_)) (by repeat (first | exact w_nil | refine w_cons (Or.inl (y_m rfl)) ?_ | refine w_cons (Or.inr (by assumption)) ?_))) (pr_k_t (c := 62) (by decide) (hc.symm.trans y1)) (Or.inr ⟨q62 y1, Or.inr (Or.inr (hc.symm.trans y1))⟩)
      · exact go (y_st f0 hH (by repeat (first | exact w_nil | refine w_cons (Or.inl (y_m rfl)) ?_ | refine w_cons (Or.inr (by assumption)) ?_)) (by repeat (first | exact w_nil | refine w_cons (Or.inl (y_m rfl)) ?_ | refine w_cons (Or.inr (by assumption)) ?_))) (pr_k_t (c := 126) (by decide) (hy rfl).1) (Or.inl (hy rfl))
    | false =>
      refine w_go z_hl [70] [] 40 e.1 ?_
      refine ⟨fun z => fun H hH => ?_, fun z => ⟨fun z2 => fun H hH => ?_, fun z2 => ⟨fun z3 => fun H hH => ?_, fun z3 => ⟨fun z4 => absurd z4 (by decide), fun _ => ⟨by decide, fun H hH => ?_⟩⟩⟩⟩⟩
      · have y1 : cI.toInt = ((Int8.ofInt 61).toInt32).toInt := (y_ci .eq _ _).mp z
        rw [c61] at y1
        exact go (y_st f0 hH (by repeat (first | exact w_nil | refine w_cons (Or.inl (y_m rfl)) ?_ | refine w_cons (Or.inr (by assumption)) ?_)) (by repeat (first | exact w_nil | refine w_cons (Or.inl (y_m rfl)) ?_ | refine w_cons (Or.inr (by assumption)) ?_))) (pr_k_t (c := 61) (by decide) (hc.symm.trans y1)) (Or.inr ⟨q61 y1, Or.inl (hc.symm.trans y1)⟩)
      · have y1 : cI.toInt = ((Int8.ofInt 60).toInt32).toInt := (y_ci .eq _ _).mp z2
        rw [c60] at y1
        exact go (y_st f0 hH (by repeat (first | exact w_nil | refine w_cons (Or.inl (y_m rfl)) ?_ | refine w_cons (Or.inr (by assumption)) ?_)) (by repeat (first | exact w_nil | refine w_cons (Or.inl (y_m rfl)) ?_ | refine w_cons (Or.inr (by assumption)) ?_))) (pr_k_t (c := 60) (by decide) (hc.symm.trans y1)) (Or.inr ⟨q60 y1, Or.inr (Or.inl (hc.symm.trans y1))⟩)
      · have y1 : cI.toInt = ((Int8.ofInt 62).toInt32).toInt := (y_ci .eq _ _).mp z3
        rw [c62] at y1
        exact go (y_st f0 hH (by repeat (first | exact w_nil | refine w_cons (Or.inl (y_m rfl)) ?_ | refine w_cons (Or.inr (by assumption)) ?_)) (by repeat (first | exact w_nil | refine w_cons (Or.inl (y_m rfl)) ?_ | refine w_cons (Or.inr (by assumption)) ?_))) (pr_k_t (c := 62) (by decide) (hc.symm.trans y1)) (Or.inr ⟨q62 y1, Or.inr (Or.inr (hc.symm.trans y1))⟩)
      · have y1 : ¬ (cI.toInt = ((Int8.ofInt 61).toInt32).toInt) := y_cif z
        have y2 : ¬ (cI.toInt = ((Int8.ofInt 60).toInt32).toInt) := y_cif z2
        have y3 : ¬ (cI.toInt = ((Int8.ofInt 62).toInt32).toInt) := y_cif z3
        rw [c61, hc] at y1
        rw [c60, hc] at y2
        rw [c62, hc] at y3
        have f : y_fr G H [] [] := y_st f0 hH (by repeat (first | exact w_nil | refine w_cons (Or.inl (y_m rfl)) ?_ | refine w_cons (Or.inr (by assumption)) ?_)) (by repeat (first | exact w_nil | refine w_cons (Or.inl (y_m rfl)) ?_ | refine w_cons (Or.inr (by assumption)) ?_))
        exact no q H (y_sq e f rfl rfl) (tx_s_fr s2 f rfl rfl) (pr_sy_x ht (hn rfl) (fun w => by rcases w with w | w | w; exact y1 w; exact y2 w; exact y3 w))
  have T27 : ∀ {G : aH} {q k : Nat} {cI : Int32} {fr' : List Int32} (b : Bool), y_fr h G [1538, 9986] [80, 81, 82, 83, 84] → tx_s nd G sg t q → pr_tm (y_N sg) t nd.toInt 0 = (true, q, k) → w_a G 80 = some (0, .inl fr') → cI.toInt = pr_k (y_N sg) t q → 0 ≤ cI.toInt → cI.toInt ≤ 65535 → pr_k (y_N sg) t q = 126 → (b = true → k = 0) → (b = false → k ≠ 0 ∧ (k = 1 → y_N fr' 1 = -1) ∧ (k ≠ 1 → 0 ≤ y_N fr' 1)) → aOK s_P X (d + 5) a_m80 27 [some (.ref 14), some (.ref 80), some (.int cI), none] [.int (y_01 b)] G C S K0 := by
    intro G q k cI fr' b e s2 ht g2 hc c0 c65 h126 hy hn
    have f0 : y_fr G G [] [] := y_rf e.1
    cases b with
    | true =>
      refine w_go z_hl [45] [] 30 e.1 ?_
      refine ⟨fun _ => fun H hH => ?_, fun z => absurd z (by decide)⟩
      have f : y_fr G H [] [] := y_st f0 hH (by repeat (first | exact w_nil | refine w_cons (Or.inl (y_m rfl)) ?_ | refine w_cons (Or.inr (by assumption)) ?_)) (by repeat (first | exact w_nil | refine w_cons (Or.inl (y_m rfl)) ?_ | refine w_cons (Or.inr (by assumption)) ?_))
      exact T45 false (y_sq e f rfl rfl) (tx_s_fr s2 f rfl rfl) ht ((y_ae f rfl).trans g2) hc c0 c65 (fun w => absurd w (by decide)) (fun _ w => by have := hy rfl; omega)
    | false =>
      obtain ⟨k0, k1, k2⟩ := hn rfl
      have i1 : (Int32.ofInt 1).toInt = ((1 : Nat) : Int) := by decide
      have ci1 := y_cl1 i1
      refine w_go z_hl [45] [] 30 e.1 ?_
      refine ⟨fun z => absurd z (by decide), fun _ => ⟨⟨by decide, by decide⟩, fun l hl len bb => ?_⟩⟩
      obtain rfl := y_ai g2 hl
      refine ⟨fun z => fun H hH => ?_, fun z => fun H hH => ?_⟩
      · have y1 : (fr'.getD (Int32.ofInt 1).toNatClampNeg 0).toInt ≠ (Int32.ofInt (-1)).toInt := (y_ci .ne _ _).mp z
        rw [ci1, cn] at y1
        have y2 : y_N fr' 1 ≠ -1 := y1
        have f : y_fr G H [] [] := y_st f0 hH (by repeat (first | exact w_nil | refine w_cons (Or.inl (y_m rfl)) ?_ | refine w_cons (Or.inr (by assumption)) ?_)) (by repeat (first | exact w_nil | refine w_cons (Or.inl (y_m rfl)) ?_ | refine w_cons (Or.inr (by assumption)) ?_))
        exact T45 false (y_sq e f rfl rfl) (tx_s_fr s2 f rfl rfl) ht ((y_ae f rfl).trans g2) hc c0 c65 (fun w => absurd w (by decide)) (fun _ w => y2 (k1 w.2))
      · have y1 : ¬ ((fr'.getD (Int32.ofInt 1).toNatClampNeg 0).toInt ≠ (Int32.ofInt (-1)).toInt) := y_cif z
        rw [ci1, cn] at y1
        have y2 : y_N fr' 1 = -1 := Decidable.not_not.mp y1
        have f : y_fr G H [] [] := y_st f0 hH (by repeat (first | exact w_nil | refine w_cons (Or.inl (y_m rfl)) ?_ | refine w_cons (Or.inr (by assumption)) ?_)) (by repeat (first | exact w_nil | refine w_cons (Or.inl (y_m rfl)) ?_ | refine w_cons (Or.inr (by assumption)) ?_))
        refine T45 true (y_sq e f rfl rfl) (tx_s_fr s2 f rfl rfl) ht ((y_ae f rfl).trans g2) hc c0 c65 (fun _ => ⟨h126, ?_⟩) (fun w => absurd w (by decide))
        rcases Nat.decEq k 1 with w | w
        · have := k2 w
          omega
        · exact w
  have T15 : ∀ {G : aH} {q k : Nat} {cI : Int32} {fr' : List Int32}, y_fr h G [1538, 9986] [80, 81, 82, 83, 84] → tx_s nd G sg t q → pr_tm (y_N sg) t nd.toInt 0 = (true, q, k) → w_a G 80 = some (0, .inl fr') → (k = 0 ∧ fr' = fr) ∨ tx_f fr fr' 0 k → cI.toInt = pr_k (y_N sg) t q → 0 ≤ cI.toInt → cI.toInt ≤ 65535 → aOK s_P X (d + 5) a_m80 15 [some (.ref 14), some (.ref 80), none, none] [.int cI] G C S K0 := by
    intro G q k cI fr' e s2 ht g2 hf hc c0 c65
    have f0 : y_fr G G [] [] := y_rf e.1
    refine w_go z_hl [45] [89] 30 e.1 ?_
    refine ⟨fun z => fun H hH => ?_, fun z => fun H hH => ?_⟩
    · have y1 : cI.toInt ≠ ((Int8.ofInt 126).toInt32).toInt := (y_ci .ne _ _).mp z
      rw [c126, hc] at y1
      have f : y_fr G H [] [] := y_st f0 hH (by repeat (first | exact w_nil | refine w_cons (Or.inl (y_m rfl)) ?_ | refine w_cons (Or.inr (by assumption)) ?_)) (by repeat (first | exact w_nil | refine w_cons (Or.inl (y_m rfl)) ?_ | refine w_cons (Or.inr (by assumption)) ?_))
      exact T45 false (y_sq e f rfl rfl) (tx_s_fr s2 f rfl rfl) ht ((y_ae f rfl).trans g2) hc c0 c65 (fun w => absurd w (by decide)) (fun _ w => y1 w.1)
    · have y1 : ¬ (cI.toInt ≠ ((Int8.ofInt 126).toInt32).toInt) := y_cif z
      rw [c126, hc] at y1
      have y2 : pr_k (y_N sg) t q = 126 := Decidable.not_not.mp y1
      have f : y_fr G H [] [] := y_st f0 hH (by repeat (first | exact w_nil | refine w_cons (Or.inl (y_m rfl)) ?_ | refine w_cons (Or.inr (by assumption)) ?_)) (by repeat (first | exact w_nil | refine w_cons (Or.inl (y_m rfl)) ?_ | refine w_cons (Or.inr (by assumption)) ?_))
      refine c_isNum9 f.1 ((y_ae f rfl).trans g2) (fun H2 f2 => ⟨fun n e => (by cases e), ?_⟩)
      have e3 := y_sq (y_sq e f rfl rfl) f2 rfl rfl
      have s3 := tx_s_fr (tx_s_fr s2 f rfl rfl) f2 rfl rfl
      have g3 := (y_ae f2 rfl).trans ((y_ae f rfl).trans g2)
      rcases hf with ⟨hf, hf'⟩ | ⟨hf, hg, hh, hi⟩
      · rw [decide_eq_true (show y_N fr' 0 = -1 by rw [hf']; exact hf0)]
        exact T27 true e3 s3 ht g3 hc c0 c65 y2 (fun _ => hf) (fun w => absurd w (by decide))
      · have hg' : 0 ≤ y_N fr' 0 := hg
        rw [decide_eq_false (show ¬ (y_N fr' 0 = -1) by omega)]
        refine T27 false e3 s3 ht g3 hc c0 c65 y2 (fun w => absurd w (by decide)) (fun _ => ⟨by omega, fun w => ?_, fun w => ?_⟩)
        · rw [hh w 1 (by decide)]
          exact hf1
        · exact (hi (by omega)).1
  have T6 : ∀ {G : aH} {q k : Nat} {fr' : List Int32} (b : Bool), y_fr h G [1538, 9986] [80, 81, 82, 83, 84] → tx_s nd G sg t q → pr_tm (y_N sg) t nd.toInt 0 = (b, q, k) → w_a G 80 = some (0, .inl fr') → (k = 0 ∧ fr' = fr) ∨ tx_f fr fr' 0 k → aOK s_P X (d + 5) a_m80 6 [some (.ref 14), some (.ref 80), none, none] [.int (y_01 b)] G C S K0 := by
    intro G q k fr' b e s2 ht g2 hf
    cases b with
    | true =>
      refine w_go z_hl [] [82] 30 e.1 ?_
      refine ⟨fun _ => fun H hH => ?_, fun z => absurd z (by decide)⟩
      have f : y_fr G H [] [] := y_st (y_rf e.1) hH (by repeat (first | exact w_nil | refine w_cons (Or.inl (y_m rfl)) ?_ | refine w_cons (Or.inr (by assumption)) ?_)) (by repeat (first | exact w_nil | refine w_cons (Or.inl (y_m rfl)) ?_ | refine w_cons (Or.inr (by assumption)) ?_))
      obtain ⟨sg', z1, z2, z3⟩ := w_arrI f.1 (o := 13) (t := 3) (n := 60) (lo := 0) (hi := 65535) (by decide) rfl
      have kb : 0 ≤ pr_k (y_N sg) t q ∧ pr_k (y_N sg) t q ≤ 65535 := by
        obtain ⟨-, -, -, b1, -, -, -, -, -, -, t40⟩ := tx_s_fr s2 f rfl rfl
        have e4 := w_a_at z1
        rw [b1] at e4
        obtain rfl : sg = sg' := by
          injection e4 with e5
          injection e5 with _ e6
          injection e6
        by_cases w : q < t
        · rw [pr_k_1 w]
          exact z3 _ (z_gd (0 : Int32) (show q < sg.length by omega))
        · rw [show pr_k (y_N sg) t q = 0 from if_neg w]
          decide
      refine c_lkT (tx_s_fr s2 f rfl rfl) (fun r H2 f2 er => ⟨fun n e => (by cases e), ?_⟩)
      exact T15 (y_sq (y_sq e f rfl rfl) f2 rfl rfl) (tx_s_fr (tx_s_fr s2 f rfl rfl) f2 rfl rfl) ht ((y_ae f2 rfl).trans ((y_ae f rfl).trans g2)) hf er (by omega) (by omega)
    | false =>
      refine w_go z_hl [] [82] 30 e.1 ?_
      refine ⟨fun z => absurd z (by decide), fun _ => ⟨by decide, fun H hH => ?_⟩⟩
      have f : y_fr G H [] [] := y_st (y_rf e.1) hH (by repeat (first | exact w_nil | refine w_cons (Or.inl (y_m rfl)) ?_ | refine w_cons (Or.inr (by assumption)) ?_)) (by repeat (first | exact w_nil | refine w_cons (Or.inl (y_m rfl)) ?_ | refine w_cons (Or.inr (by assumption)) ?_))
      exact no q H (y_sq e f rfl rfl) (tx_s_fr s2 f rfl rfl) (pr_sy_n ht)
  refine w_go z_hl [] [81] 20 hr ?_
  intro H hH
  have f : y_fr h H [] [] := y_st (y_rf hr) hH (by repeat (first | exact w_nil | refine w_cons (Or.inl (y_m rfl)) ?_ | refine w_cons (Or.inr (by assumption)) ?_)) (by repeat (first | exact w_nil | refine w_cons (Or.inl (y_m rfl)) ?_ | refine w_cons (Or.inr (by assumption)) ?_))
  refine c_tm9 (d := d) (sd := 0) n0 n10 (by decide) (by decide) (tx_s_fr s f rfl rfl) ((y_ae f rfl).trans gf) (fun b q k H2 fr' f2 s3 ht g3 hf => ⟨fun n e => (by cases e), ?_⟩)
  exact T6 b (y_sq (y_mo f rfl rfl) f2 rfl rfl) s3 ht g3 hf
theorem c_second9 (n0 : 0 ≤ nd.toInt) (n10 : nd.toInt ≤ 10) (s : tx_s nd h sg t p) {rel : Int32} (gr : w_f h 9986 = some (.int rel)) (hK : ∀ (b : Bool) (q k : Nat) (H : aH), y_fr h H [1538] [80, 81, 82, 83, 84] → tx_s nd H sg t q → (rel.toInt = 126 → pr_gv (y_N sg) t nd.toInt p = (b, q, k)) → (rel.toInt ≠ 126 → pr_tm (y_N sg) t nd.toInt p = (b, q, k)) → K0 (some (.int (y_01 b))) H C S) : aOK s_P X (d + 5) a_m90 0 [some (.ref 14), some (.ref 80)] [] h C S K0 := by
  have hr := (tx_s_hr s).1
  have c126 : ((Int8.ofInt 126).toInt32).toInt = 126 := by decide
  obtain ⟨fr, gf, -, -⟩ := c_arr hr (ob := 80) (n := 4) (lo := -1) (hi := 40) rfl
  have T22 : ∀ {G : aH} {b : Bool} {q k pc : Nat}, (pc = 13 ∨ pc = 22) → y_fr h G [1538] [80, 81, 82, 83, 84] → tx_s nd G sg t q → (rel.toInt = 126 → pr_gv (y_N sg) t nd.toInt p = (b, q, k)) → (rel.toInt ≠ 126 → pr_tm (y_N sg) t nd.toInt p = (b, q, k)) → aOK s_P X (d + 5) a_m90 pc [some (.ref 14), some (.ref 80)] [.int (y_01 b)] G C S K0 := by
    intro G b q k pc hpc e s2 h1 h2
    rcases hpc with rfl | rfl
    · refine w_go z_hl [] [] 20 e.1 ?_
      refine ⟨y_01b b, fun H hH => ?_⟩
      have f : y_fr G H [] [] := y_st (y_rf e.1) hH (by repeat (first | exact w_nil | refine w_cons (Or.inl (y_m rfl)) ?_ | refine w_cons (Or.inr (by assumption)) ?_)) (by repeat (first | exact w_nil | refine w_cons (Or.inl (y_m rfl)) ?_ | refine w_cons (Or.inr (by assumption)) ?_))
      exact hK b q k H (y_sq e f rfl rfl) (tx_s_fr s2 f rfl rfl) h1 h2
    · refine w_go z_hl [] [] 20 e.1 ?_
      refine ⟨y_01b b, fun H hH => ?_⟩
      have f : y_fr G H [] [] := y_st (y_rf e.1) hH (by repeat (first | exact w_nil | refine w_cons (Or.inl (y_m rfl)) ?_ | refine w_cons (Or.inr (by assumption)) ?_)) (by repeat (first | exact w_nil | refine w_cons (Or.inl (y_m rfl)) ?_ | refine w_cons (Or.inr (by assumption)) ?_))
      exact hK b q k H (y_sq e f rfl rfl) (tx_s_fr s2 f rfl rfl) h1 h2
  refine w_go z_hl [] [81, 86] 40 hr ?_
  intro x hx _ _
  obtain rfl := y_fi gr hx
  refine ⟨fun z => ⟨by decide, ⟨fun _ => fun H hH => ?_, fun z2 => absurd z2 (by decide)⟩⟩, fun z => ⟨by decide, ⟨fun z2 => absurd z2 (by decide), fun _ => fun H hH => ?_⟩⟩⟩
  · have y1 : rel.toInt ≠ ((Int8.ofInt 126).toInt32).toInt := (y_ci .ne _ _).mp z
    rw [c126] at y1
    have f : y_fr h H [] [] := y_st (y_rf hr) hH (by repeat (first | exact w_nil | refine w_cons (Or.inl (y_m rfl)) ?_ | refine w_cons (Or.inr (by assumption)) ?_)) (by repeat (first | exact w_nil | refine w_cons (Or.inl (y_m rfl)) ?_ | refine w_cons (Or.inr (by assumption)) ?_))
    refine c_tm9 (d := d) (sd := 1) n0 n10 (by decide) (by decide) (tx_s_fr s f rfl rfl) ((y_ae f rfl).trans gf) (fun b q k H2 fr' f2 s3 ht g3 hf => ⟨fun n e => (by cases e), ?_⟩)
    exact T22 (k := k) (Or.inr rfl) (y_sq (y_mo f rfl rfl) f2 rfl rfl) s3 (fun w => absurd w y1) (fun _ => ht)
  · have y1 : ¬ (rel.toInt ≠ ((Int8.ofInt 126).toInt32).toInt) := y_cif z
    rw [c126] at y1
    have f : y_fr h H [] [] := y_st (y_rf hr) hH (by repeat (first | exact w_nil | refine w_cons (Or.inl (y_m rfl)) ?_ | refine w_cons (Or.inr (by assumption)) ?_)) (by repeat (first | exact w_nil | refine w_cons (Or.inl (y_m rfl)) ?_ | refine w_cons (Or.inr (by assumption)) ?_))
    refine c_gv9 (d := d + 1) (sd := 1) n0 n10 (by decide) (by decide) (tx_s_fr s f rfl rfl) ((y_ae f rfl).trans gf) (fun b q k H2 fr' f2 s3 hg g3 hf => ⟨fun n e => (by cases e), ?_⟩)
    exact T22 (k := k) (Or.inl rfl) (y_sq (y_mo f rfl rfl) f2 rfl rfl) s3 (fun _ => hg) (fun w => absurd w y1)
end PFS9
end PT33icy
section PT33icz
/-! ===== v21: parse of the class with saying 9 (laid by wip/tools/mk21f.py) ===== -/
section PPS9
variable {X : aX} {C S d : Nat} {K0 : Option Value → aH → Nat → Nat → Prop} {sg : List Int32} {nd len : Int32} {h : aH}
theorem c_parse9 (hr : w_hr z_D h) (n0 : 0 ≤ nd.toInt) (n10 : nd.toInt ≤ 10) (l0 : 0 ≤ len.toInt) (l60 : len.toInt ≤ 60) (gs : w_a h 13 = some (3, .inl sg)) (hK : ∀ (r : Int32) (H : aH), y_fr h H [1538, 1539, 1540, 9985, 9986] [79, 80, 81, 82, 83, 84] → r.toInt = pr_wr (y_N sg) len.toInt.toNat nd.toInt → (pr_sy (y_N sg) (pr_t len.toInt.toNat) nd.toInt).2 ≤ pr_t len.toInt.toNat → K0 (some (.int r)) H C S) : aOK s_P X (d + 6) a_m78 0 [some (.ref 14), some (.int len), some (.int nd), some (.ref 80), none] [] h C S K0 := by
  have c40 : ((Int8.ofInt 40).toInt32).toInt = 40 := by decide
  have tl := pr_t_le (len := len.toInt.toNat)
  -- the end: whole or not
  have T56 : ∀ {G : aH} {q : Nat} (b : Bool), y_fr h G [1538, 1539, 1540, 9985, 9986] [80, 81, 82, 83, 84] → tx_s nd G sg (pr_t len.toInt.toNat) q → (pr_sy (y_N sg) (pr_t len.toInt.toNat) nd.toInt).2 = q → pr_wh (y_N sg) (pr_t len.toInt.toNat) nd.toInt = b → aOK s_P X (d + 6) a_m78 56 [some (.ref 14), some (.int len), some (.int nd), some (.ref 80), none] [.int (y_01 b)] G C S K0 := by
    intro G q b e s hq hb
    obtain ⟨toI, atI, -, a1, a2, a3, a4, a5, a6, pt, t40⟩ := id s
    have f0 : y_fr G G [] [] := y_rf e.1
    have out : ∀ {H : aH} {r : Int32}, y_fr G H [] [] → r.toInt = pr_wr (y_N sg) len.toInt.toNat nd.toInt → K0 (some (.int r)) H C S := fun f er => hK _ _ (y_mo (y_sq e f rfl rfl) rfl rfl) er (by omega)
    cases b with
    | true =>
      have ew : pr_wr (y_N sg) len.toInt.toNat nd.toInt = if 40 < len.toInt.toNat then 40 else -1 := if_pos hb
      have T97 : ∀ {H : aH}, y_fr G H [] [] → ¬ (40 < len.toInt.toNat) → aOK s_P X (d + 6) a_m78 97 [some (.ref 14), some (.int len), some (.int nd), some (.ref 80), some (.int (y_01 true))] [] H C S K0 := by
        intro H f nl
        refine w_go z_hl [111] [] 30 f.1 ?_
        intro x hx _ _
        obtain rfl := y_fi ((y_fe f rfl).trans a2) hx
        intro H2 h2
        have f2 : y_fr G H2 [] [] := y_st f h2 (by repeat (first | exact w_nil | refine w_cons (Or.inl (y_m rfl)) ?_ | refine w_cons (Or.inr (by assumption)) ?_)) (by repeat (first | exact w_nil | refine w_cons (Or.inl (y_m rfl)) ?_ | refine w_cons (Or.inr (by assumption)) ?_))
        refine y_copy3 (o := 13) (dd := 79) (m := pr_t len.toInt.toNat) (n1 := 60) (n2 := 40) f2.1 a3 rfl rfl (by omega) (by omega) rfl rfl (by decide) (fun H3 f3 => ?_)
        show aOK s_P X (d + 6) a_m78 114 [some (.ref 14), some (.int len), some (.int nd), some (.ref 80), some (.int (y_01 true))] [] H3 C S K0
        have f4 : y_fr G H3 [] [79] := y_sq (y_mo f2 rfl rfl) f3 rfl rfl
        refine w_go z_hl [] [] 30 f3.1 ?_
        intro x hx x0 x40
        obtain rfl := y_fi ((y_fe f4 rfl).trans a2) hx
        refine ⟨rfl, y_zini x0 x40, fun H5 h5 => ?_⟩
        have f5 : y_fr H3 H5 [9985] [] := y_st (y_mo (y_rf f3.1) rfl rfl) h5 (by repeat (first | exact w_nil | refine w_cons (Or.inl (y_m rfl)) ?_ | refine w_cons (Or.inr (by assumption)) ?_)) (by repeat (first | exact w_nil | refine w_cons (Or.inl (y_m rfl)) ?_ | refine w_cons (Or.inr (by assumption)) ?_))
        refine hK _ H5 (y_sq (y_sq (y_mo e rfl rfl) f4 rfl rfl) f5 rfl rfl) ?_ (by omega)
        rw [ew, if_neg nl]
        decide
      refine w_go z_hl [97] [] 40 e.1 ?_
      refine ⟨fun _ => ⟨fun z => absurd z (by decide), fun _ => ?_⟩, fun z => absurd z (by decide)⟩
      intro x hx _ _
      obtain rfl := y_fi a2 hx
      refine ⟨fun z => fun H hH => ?_, fun z => fun H hH => ?_⟩
      · have y1 : len.toInt ≤ toI.toInt := (y_ci .le _ _).mp z
        exact T97 (y_st f0 hH (by repeat (first | exact w_nil | refine w_cons (Or.inl (y_m rfl)) ?_ | refine w_cons (Or.inr (by assumption)) ?_)) (by repeat (first | exact w_nil | refine w_cons (Or.inl (y_m rfl)) ?_ | refine w_cons (Or.inr (by assumption)) ?_))) (by omega)
      · have y1 : ¬ (len.toInt ≤ toI.toInt) := y_cif z
        have lt : 40 < len.toInt.toNat := by
          rcases Nat.lt_or_ge 40 len.toInt.toNat with w | w
          · exact w
          · have et : pr_t len.toInt.toNat = len.toInt.toNat := if_neg (by omega)
            omega
        have et : pr_t len.toInt.toNat = 40 := if_pos lt
        exact out (y_st f0 hH (by repeat (first | exact w_nil | refine w_cons (Or.inl (y_m rfl)) ?_ | refine w_cons (Or.inr (by assumption)) ?_)) (by repeat (first | exact w_nil | refine w_cons (Or.inl (y_m rfl)) ?_ | refine w_cons (Or.inr (by assumption)) ?_))) (by rw [ew, if_pos lt]; omega)
    | false =>
      have ew : pr_wr (y_N sg) len.toInt.toNat nd.toInt = (q : Nat) := by
        unfold pr_wr
        rw [if_neg (by rw [hb]; decide), hq]
      refine w_go z_hl [97] [] 40 e.1 ?_
      refine ⟨fun z => absurd z (by decide), fun _ => ?_⟩
      intro x hx _ _
      obtain rfl := y_fi a4 hx
      intro y hy _ _
      obtain rfl := y_fi a2 hy
      refine ⟨fun z => ⟨fun _ => fun H hH => ?_, fun z2 => absurd z2 (by decide)⟩, fun z => fun H hH => ?_⟩
      · have y1 : toI.toInt ≤ atI.toInt := (y_ci .ge _ _).mp z
        exact out (y_st f0 hH (by repeat (first | exact w_nil | refine w_cons (Or.inl (y_m rfl)) ?_ | refine w_cons (Or.inr (by assumption)) ?_)) (by repeat (first | exact w_nil | refine w_cons (Or.inl (y_m rfl)) ?_ | refine w_cons (Or.inr (by assumption)) ?_))) (by rw [ew]; omega)
      · exact out (y_st f0 hH (by repeat (first | exact w_nil | refine w_cons (Or.inl (y_m rfl)) ?_ | refine w_cons (Or.inr (by assumption)) ?_)) (by repeat (first | exact w_nil | refine w_cons (Or.inl (y_m rfl)) ?_ | refine w_cons (Or.inr (by assumption)) ?_))) (by rw [ew]; exact a5)
  have T37 : ∀ {G : aH} {q : Nat} (b : Bool), y_fr h G [1538, 1539, 1540, 9985, 9986] [80, 81, 82, 83, 84] → tx_s nd G sg (pr_t len.toInt.toNat) q → pr_sy (y_N sg) (pr_t len.toInt.toNat) nd.toInt = (b, q) → aOK s_P X (d + 6) a_m78 37 [some (.ref 14), some (.int len), some (.int nd), some (.ref 80), none] [.int (y_01 b)] G C S K0 := by
    intro G q b e s hs
    obtain ⟨toI, atI, -, a1, a2, a3, a4, a5, a6, pt, t40⟩ := id s
    have f0 : y_fr G G [] [] := y_rf e.1
    cases b with
    | true =>
      refine w_go z_hl [56] [] 40 e.1 ?_
      refine ⟨fun z => absurd z (by decide), fun _ => ?_⟩
      intro x hx _ _
      obtain rfl := y_fi a4 hx
      intro y hy _ _
      obtain rfl := y_fi a2 hy
      refine ⟨fun z => fun H hH => ?_, fun z => fun H hH => ?_⟩
      · have y1 : atI.toInt ≠ toI.toInt := (y_ci .ne _ _).mp z
        have f : y_fr G H [] [] := y_st f0 hH (by repeat (first | exact w_nil | refine w_cons (Or.inl (y_m rfl)) ?_ | refine w_cons (Or.inr (by assumption)) ?_)) (by repeat (first | exact w_nil | refine w_cons (Or.inl (y_m rfl)) ?_ | refine w_cons (Or.inr (by assumption)) ?_))
        refine T56 false (y_sq e f rfl rfl) (tx_s_fr s f rfl rfl) (by rw [hs]) ?_
        unfold pr_wh
        rw [hs]
        show (true && decide (q = pr_t len.toInt.toNat)) = false
        rw [decide_eq_false (by omega)]
        rfl
      · have y1 : ¬ (atI.toInt ≠ toI.toInt) := y_cif z
        have f : y_fr G H [] [] := y_st f0 hH (by repeat (first | exact w_nil | refine w_cons (Or.inl (y_m rfl)) ?_ | refine w_cons (Or.inr (by assumption)) ?_)) (by repeat (first | exact w_nil | refine w_cons (Or.inl (y_m rfl)) ?_ | refine w_cons (Or.inr (by assumption)) ?_))
        refine T56 true (y_sq e f rfl rfl) (tx_s_fr s f rfl rfl) (by rw [hs]) ?_
        unfold pr_wh
        rw [hs]
        show (true && decide (q = pr_t len.toInt.toNat)) = true
        rw [decide_eq_true (by omega)]
        rfl
    | false =>
      refine w_go z_hl [56] [] 40 e.1 ?_
      refine ⟨fun _ => fun H hH => ?_, fun z => absurd z (by decide)⟩
      have f : y_fr G H [] [] := y_st f0 hH (by repeat (first | exact w_nil | refine w_cons (Or.inl (y_m rfl)) ?_ | refine w_cons (Or.inr (by assumption)) ?_)) (by repeat (first | exact w_nil | refine w_cons (Or.inl (y_m rfl)) ?_ | refine w_cons (Or.inr (by assumption)) ?_))
      refine T56 false (y_sq e f rfl rfl) (tx_s_fr s f rfl rfl) (by rw [hs]) ?_
      unfold pr_wh
      rw [hs]
      rfl
  have T29n : ∀ {G : aH} {q : Nat}, y_fr h G [1538, 1539, 1540, 9985, 9986] [80, 81, 82, 83, 84] → tx_s nd G sg (pr_t len.toInt.toNat) q → pr_sy (y_N sg) (pr_t len.toInt.toNat) nd.toInt = (false, q) → aOK s_P X (d + 6) a_m78 29 [some (.ref 14), some (.int len), some (.int nd), some (.ref 80), none] [.int (y_01 false)] G C S K0 := by
    intro G q e s hs
    refine w_go z_hl [56] [] 40 e.1 ?_
    refine ⟨fun _ => fun H hH => ?_, fun z => absurd z (by decide)⟩
    have f : y_fr G H [] [] := y_st (y_rf e.1) hH (by repeat (first | exact w_nil | refine w_cons (Or.inl (y_m rfl)) ?_ | refine w_cons (Or.inr (by assumption)) ?_)) (by repeat (first | exact w_nil | refine w_cons (Or.inl (y_m rfl)) ?_ | refine w_cons (Or.inr (by assumption)) ?_))
    refine T56 false (y_sq e f rfl rfl) (tx_s_fr s f rfl rfl) (by rw [hs]) ?_
    unfold pr_wh
    rw [hs]
    rfl
  have T29 : ∀ {G : aH} {q k : Nat} {rel : Int32}, y_fr h G [1538, 1539, 1540, 9985, 9986] [80, 81, 82, 83, 84] → tx_s nd G sg (pr_t len.toInt.toNat) (q + 1) → pr_tm (y_N sg) (pr_t len.toInt.toNat) nd.toInt 0 = (true, q, k) → w_f G 9986 = some (.int rel) → ((pr_k (y_N sg) (pr_t len.toInt.toNat) q = 126 ∧ k = 1) ∧ rel.toInt = 126) ∨ (¬ (pr_k (y_N sg) (pr_t len.toInt.toNat) q = 126 ∧ k = 1) ∧ (pr_k (y_N sg) (pr_t len.toInt.toNat) q = 61 ∨ pr_k (y_N sg) (pr_t len.toInt.toNat) q = 60 ∨ pr_k (y_N sg) (pr_t len.toInt.toNat) q = 62) ∧ rel.toInt ≠ 126) → aOK s_P X (d + 6) a_m78 29 [some (.ref 14), some (.int len), some (.int nd), some (.ref 80), none] [.int (y_01 true)] G C S K0 := by
    intro G q k rel e s ht gr hw
    refine w_go z_hl [56] [90] 40 e.1 ?_
    refine ⟨fun z => absurd z (by decide), fun _ => fun H hH => ?_⟩
    have f : y_fr G H [] [] := y_st (y_rf e.1) hH (by repeat (first | exact w_nil | refine w_cons (Or.inl (y_m rfl)) ?_ | refine w_cons (Or.inr (by assumption)) ?_)) (by repeat (first | exact w_nil | refine w_cons (Or.inl (y_m rfl)) ?_ | refine w_cons (Or.inr (by assumption)) ?_))
    refine c_second9 (d := d) n0 n10 (tx_s_fr s f rfl rfl) ((y_fe f rfl).trans gr) (fun b r k2 H2 f2 s3 h1 h2 => ⟨fun n e => (by cases e), ?_⟩)
    refine T37 b (y_sq (y_sq e f rfl rfl) f2 rfl rfl) s3 ?_
    rcases hw with ⟨⟨w1, w2⟩, w3⟩ | ⟨w1, w2, w3⟩
    · rw [w2] at ht
      exact pr_sy_b ht w1 (h1 w3)
    · exact pr_sy_c ht w1 w2 (h2 w3)
  have T24 : ∀ {G : aH} {fr : List Int32}, y_fr h G [1538, 1539, 1540, 9985, 9986] [80, 81, 82, 83, 84] → tx_s nd G sg (pr_t len.toInt.toNat) 0 → w_a G 80 = some (0, .inl fr) → (∀ j, j < 4 → y_N fr j = -1) → aOK s_P X (d + 6) a_m78 24 [some (.ref 14), some (.int len), some (.int nd), some (.ref 80), none] [] G C S K0 := by
    intro G fr e s g hf
    refine w_go z_hl [56] [80] 40 e.1 ?_
    intro H hH
    have f : y_fr G H [] [] := y_st (y_rf e.1) hH (by repeat (first | exact w_nil | refine w_cons (Or.inl (y_m rfl)) ?_ | refine w_cons (Or.inr (by assumption)) ?_)) (by repeat (first | exact w_nil | refine w_cons (Or.inl (y_m rfl)) ?_ | refine w_cons (Or.inr (by assumption)) ?_))
    refine c_first9 (d := d) n0 n10 (tx_s_fr s f rfl rfl) ((y_ae f rfl).trans g) (hf 0 (by decide)) (hf 1 (by decide)) (fun q k H2 rel fr' f2 s3 ht gr g3 hw => ⟨fun n e => (by cases e), ?_⟩) (fun q H2 f2 s3 hs => ⟨fun n e => (by cases e), ?_⟩)
    · exact T29 (y_sq (y_sq e f rfl rfl) f2 rfl rfl) s3 ht gr hw
    · exact T29n (y_sq (y_sq e f rfl rfl) f2 rfl rfl) s3 hs
  refine w_go z_hl [56] [79] 60 hr ?_
  refine ⟨rfl, y_zini (by decide) (by decide), ?_⟩
  refine ⟨fun z => ⟨rfl, y_zini (by decide) (by decide), rfl, y_zini n0 n10, fun H hH => ?_⟩, fun z => ⟨rfl, y_zini l0 ?_, rfl, y_zini n0 n10, fun H hH => ?_⟩⟩
  · have y1 : ((Int8.ofInt 40).toInt32).toInt < len.toInt := (y_ci .gt _ _).mp z
    rw [c40] at y1
    have et : pr_t len.toInt.toNat = 40 := if_pos (by omega)
    have f : y_fr h H [1538, 1539, 1540] [] := y_st (y_mo (y_rf hr) rfl rfl) hH (by repeat (first | exact w_nil | refine w_cons (Or.inl (y_m rfl)) ?_ | refine w_cons (Or.inr (by assumption)) ?_)) (by repeat (first | exact w_nil | refine w_cons (Or.inl (y_m rfl)) ?_ | refine w_cons (Or.inr (by assumption)) ?_))
    have s : tx_s nd H sg (pr_t len.toInt.toNat) 0 := ⟨_, _, f.1, (y_ae f rfl).trans gs, hH.2.1 1539 _ rfl, by rw [et]; exact c40, hH.2.1 1538 _ rfl, rfl, hH.2.1 1540 _ rfl, Nat.zero_le _, tl.1⟩
    refine c_clear9 f.1 (fun H2 fr f2 g2 hf => ⟨fun n e => (by cases e), ?_⟩)
    exact T24 (y_sq (y_mo f rfl rfl) f2 rfl rfl) (tx_s_fr s f2 rfl rfl) g2 hf
  · have y1 : ¬ (((Int8.ofInt 40).toInt32).toInt < len.toInt) := y_cif z
    rw [c40] at y1
    show len.toInt ≤ 40
    omega
  · have y1 : ¬ (((Int8.ofInt 40).toInt32).toInt < len.toInt) := y_cif z
    rw [c40] at y1
    have et : pr_t len.toInt.toNat = len.toInt.toNat := if_neg (by omega)
    have f : y_fr h H [1538, 1539, 1540] [] := y_st (y_mo (y_rf hr) rfl rfl) hH (by repeat (first | exact w_nil | refine w_cons (Or.inl (y_m rfl)) ?_ | refine w_cons (Or.inr (by assumption)) ?_)) (by repeat (first | exact w_nil | refine w_cons (Or.inl (y_m rfl)) ?_ | refine w_cons (Or.inr (by assumption)) ?_))
    have s : tx_s nd H sg (pr_t len.toInt.toNat) 0 := ⟨_, _, f.1, (y_ae f rfl).trans gs, hH.2.1 1539 _ rfl, by rw [et]; omega, hH.2.1 1538 _ rfl, rfl, hH.2.1 1540 _ rfl, Nat.zero_le _, tl.1⟩
    refine c_clear9 f.1 (fun H2 fr f2 g2 hf => ⟨fun n e => (by cases e), ?_⟩)
    exact T24 (y_sq (y_mo f rfl rfl) f2 rfl rfl) (tx_s_fr s f2 rfl rfl) g2 hf
end PPS9
end PT33icz
section PT33ida
/-! ===== v21: parseEvent of the class with saying 10 (laid by wip/tools/mk21c.py) ===== -/
section PEV10
variable {X : aX} {C S d : Nat} {K0 : Option Value → aH → Nat → Nat → Prop} {sg : List Int32} {t : Nat} {nd : Int32}
theorem c_evl10 (n0 : 0 ≤ nd.toInt) (n10 : nd.toInt ≤ 10) {pI : Int32} {pa : Nat} (hpa : pI.toInt = pa) (pa4 : pa < 4) : ∀ (m : Nat) (h : aH) (p : Nat) (oI : Int32) (o : Nat) (o4 : Option Value), tx_s nd h sg t p → oI.toInt = o → o ≤ 5 → t - p ≤ m → (∀ (b : Bool) (q : Nat) (H : aH), y_fr h H [1538] [88, 89] → tx_s nd H sg t q → pr_E (y_N sg) t nd.toInt false p o = (b, q) → K0 (some (.int (y_01 b))) H C S) → aOK s_P X (d + 2) a_m87 12 [some (.ref 14), some (.ref 87), some (.int pI), some (.int oI), o4] [] h C S K0 := by
  have c33 : ((Int8.ofInt 33).toInt32).toInt = 33 := by decide
  have c38 : ((Int8.ofInt 38).toInt32).toInt = 38 := by decide
  have c40 : ((Int8.ofInt 40).toInt32).toInt = 40 := by decide
  have c97 : ((Int8.ofInt 97).toInt32).toInt = 97 := by decide
  have c124 : ((Int8.ofInt 124).toInt32).toInt = 124 := by decide
  have c5 : (Int32.ofInt 5).toInt = 5 := by decide
  have z0 : (0 : Int32).toInt = 0 := by decide
  have cn : ((Int8.ofInt 97).toInt32 + nd).toInt = 97 + nd.toInt := by
    rw [Int32.toInt_add, c97]
    exact Int.bmod_eq_of_le (by omega) (by omega)
  intro m
  induction m with
  | zero =>
    intro h p oI o o4 s ho o5 hm hK
    obtain ⟨toI, atI, hr, a1, a2, a3, a4, a5, a6, pt, t40⟩ := id s
    refine w_go z_hl [12] [82] 30 hr ?_
    intro x hx _ _
    obtain rfl := y_fi a4 hx
    intro y hy _ _
    obtain rfl := y_fi a2 hy
    refine ⟨fun _ => ⟨by decide, fun H hH => ?_⟩, fun z => ?_⟩
    · have f : y_fr h H [] [] := y_st (y_rf hr) hH (by repeat (first | exact w_nil | refine w_cons (Or.inl (y_m rfl)) ?_ | refine w_cons (Or.inr (by assumption)) ?_)) (by repeat (first | exact w_nil | refine w_cons (Or.inl (y_m rfl)) ?_ | refine w_cons (Or.inr (by assumption)) ?_))
      have k0 : pr_k (y_N sg) t p = 0 := if_neg (by omega)
      exact hK false p H (y_mo f rfl rfl) (tx_s_fr s f rfl rfl) (pr_bad (by omega) (by omega) (fun w => by have := w.1; omega) (fun w => by have := w.1; omega))
    · have y1 : ¬ (toI.toInt ≤ atI.toInt) := y_cif z
      exfalso
      omega
  | succ m ih =>
    intro h p oI o o4 s ho o5 hm hK
    obtain ⟨toI, atI, hr, a1, a2, a3, a4, a5, a6, pt, t40⟩ := id s
    -- on to the next sign
    have T189 : ∀ {G : aH} {oJ : Int32} {q o' : Nat} {p4 : Option Value}, y_fr h G [1538] [88, 89] → tx_s nd G sg t q → p < q → q < t → oJ.toInt = o' → o' ≤ 5 → pr_E (y_N sg) t nd.toInt false p o = pr_E (y_N sg) t nd.toInt false (q + 1) o' → aOK s_P X (d + 2) a_m87 189 [some (.ref 14), some (.ref 87), some (.int pI), some (.int oJ), p4] [] G C S K0 := by
      intro G oJ q o' p4 e s2 pq qt hoJ o5' hE
      obtain ⟨toJ, atJ, -, b1, b2, b3, b4, b5, b6, -, -⟩ := id s2
      have inc : (atJ + Int32.ofInt 1).toInt = ((q + 1 : Nat) : Int) := by rw [y_inc (by omega), b5]; rfl
      refine w_go z_hl [12] [82] 30 e.1 ?_
      intro x hx _ _
      obtain rfl := y_fi b4 hx
      refine ⟨rfl, y_zini (by show 0 ≤ (atJ + Int32.ofInt 1).toInt; omega) (by show (atJ + Int32.ofInt 1).toInt ≤ 40; omega), fun H hH => ?_⟩
      have f : y_fr G H [1538] [] := y_st (y_mo (y_rf e.1) rfl rfl) hH (by repeat (first | exact w_nil | refine w_cons (Or.inl (y_m rfl)) ?_ | refine w_cons (Or.inr (by assumption)) ?_)) (by repeat (first | exact w_nil | refine w_cons (Or.inl (y_m rfl)) ?_ | refine w_cons (Or.inr (by assumption)) ?_))
      exact ih H (q + 1) _ o' _ (tx_s_at s2 f rfl (hH.2.1 1538 _ rfl) inc (by omega)) hoJ o5' (by omega) (fun b r H' f1 f2 f3 => hK b r H' (y_sq (y_sq e f rfl rfl) f1 rfl rfl) f2 (hE.trans f3))
    have T143 : ∀ {G : aH} {oJ cI : Int32} {q o' : Nat}, y_fr h G [1538] [88, 89] → tx_s nd G sg t q → p < q → q < t → oJ.toInt = o' → o' ≤ 5 → pr_E (y_N sg) t nd.toInt false p o = pr_E (y_N sg) t nd.toInt false (q + 1) o' → aOK s_P X (d + 2) a_m87 143 [some (.ref 14), some (.ref 87), some (.int pI), some (.int oJ), some (.int cI)] [] G C S K0 := by
      intro G oJ cI q o' e s2 pq qt hoJ o5' hE
      have f0 : y_fr G G [] [] := y_rf e.1
      have T168 : ∀ {G2 : aH}, y_fr G G2 [] [88] → aOK s_P X (d + 2) a_m87 168 [some (.ref 14), some (.ref 87), some (.int pI), some (.int oJ), some (.int cI)] [] G2 C S K0 := by
        intro G2 f
        refine w_go z_hl [189] [82] 40 f.1 ?_
        refine ⟨⟨by omega, by omega⟩, fun l hl len bb => ⟨fun _ => ⟨⟨by omega, by omega⟩, y_l32 _, fun H hH => ?_⟩, fun _ => ⟨⟨by omega, by omega⟩, y_l32 _, fun H hH => ?_⟩⟩⟩
        · have f2 : y_fr G H [] [88, 89] := y_st (y_mo f rfl rfl) hH (by repeat (first | exact w_nil | refine w_cons (Or.inl (y_m rfl)) ?_ | refine w_cons (Or.inr (by assumption)) ?_)) (by repeat (first | exact w_nil | refine w_cons (Or.inl (y_m rfl)) ?_ | refine w_cons (Or.inr (by assumption)) ?_))
          exact T189 (y_sq e (y_mo f2 rfl rfl : y_fr G H [1538] [88, 89]) rfl rfl) (tx_s_fr s2 f2 rfl rfl) pq qt hoJ o5' hE
        · have f2 : y_fr G H [] [88, 89] := y_st (y_mo f rfl rfl) hH (by repeat (first | exact w_nil | refine w_cons (Or.inl (y_m rfl)) ?_ | refine w_cons (Or.inr (by assumption)) ?_)) (by repeat (first | exact w_nil | refine w_cons (Or.inl (y_m rfl)) ?_ | refine w_cons (Or.inr (by assumption)) ?_))
          exact T189 (y_sq e (y_mo f2 rfl rfl : y_fr G H [1538] [88, 89]) rfl rfl) (tx_s_fr s2 f2 rfl rfl) pq qt hoJ o5' hE
      refine w_go z_hl [168, 189] [82] 40 e.1 ?_
      refine ⟨fun _ => fun H hH => ?_, fun _ => ⟨⟨by omega, by omega⟩, fun l hl len bb => ⟨fun _ => ⟨⟨by omega, by omega⟩, y_l32 _, fun H hH => ?_⟩, fun _ => ⟨⟨by omega, by omega⟩, y_l32 _, fun H hH => ?_⟩⟩⟩⟩
      · have f2 : y_fr G H [] [] := y_st f0 hH (by repeat (first | exact w_nil | refine w_cons (Or.inl (y_m rfl)) ?_ | refine w_cons (Or.inr (by assumption)) ?_)) (by repeat (first | exact w_nil | refine w_cons (Or.inl (y_m rfl)) ?_ | refine w_cons (Or.inr (by assumption)) ?_))
        exact T189 (y_sq e f2 rfl rfl) (tx_s_fr s2 f2 rfl rfl) pq qt hoJ o5' hE
      · exact T168 (y_st (y_mo f0 rfl rfl) hH (by repeat (first | exact w_nil | refine w_cons (Or.inl (y_m rfl)) ?_ | refine w_cons (Or.inr (by assumption)) ?_)) (by repeat (first | exact w_nil | refine w_cons (Or.inl (y_m rfl)) ?_ | refine w_cons (Or.inr (by assumption)) ?_)))
      · exact T168 (y_st (y_mo f0 rfl rfl) hH (by repeat (first | exact w_nil | refine w_cons (Or.inl (y_m rfl)) ?_ | refine w_cons (Or.inr (by assumption)) ?_)) (by repeat (first | exact w_nil | refine w_cons (Or.inl (y_m rfl)) ?_ | refine w_cons (Or.inr (by assumption)) ?_)))
    have T117 : ∀ {G : aH} {oJ cI : Int32} {q o' : Nat} {p4 : Option Value}, y_fr h G [1538] [] → tx_s nd G sg t q → p < q → oJ.toInt = o' → o' ≤ 5 → cI.toInt = pr_k (y_N sg) t q → pr_E (y_N sg) t nd.toInt false p o = pr_E (y_N sg) t nd.toInt true q o' → ¬ (pr_k (y_N sg) t q = 41 ∧ 0 < o') → aOK s_P X (d + 2) a_m87 117 [some (.ref 14), some (.ref 87), some (.int pI), some (.int oJ), p4] [.int cI] G C S K0 := by
      intro G oJ cI q o' p4 e s2 pq hoJ o5' hc hE h41
      have q40 := (tx_s_hr s2).2.1
      have f0 : y_fr G G [] [] := y_rf e.1
      refine w_go z_hl [143] [82] 40 e.1 ?_
      refine ⟨fun z => fun H hH => ?_, fun z => ⟨fun z2 => fun H hH => ?_, fun z2 => ⟨fun z3 => ⟨by decide, fun H hH => ?_⟩, fun z3 => ⟨by decide, fun H hH => ?_⟩⟩⟩⟩
      · have y1 : cI.toInt = ((Int8.ofInt 38).toInt32).toInt := (y_ci .eq _ _).mp z
        rw [c38, hc] at y1
        have f2 : y_fr G H [] [] := y_st f0 hH (by repeat (first | exact w_nil | refine w_cons (Or.inl (y_m rfl)) ?_ | refine w_cons (Or.inr (by assumption)) ?_)) (by repeat (first | exact w_nil | refine w_cons (Or.inl (y_m rfl)) ?_ | refine w_cons (Or.inr (by assumption)) ?_))
        exact T143 (y_mo (y_sq e f2 rfl rfl) rfl rfl) (tx_s_fr s2 f2 rfl rfl) pq (pr_k_t (by decide) y1) hoJ o5' (hE.trans (pr_op (by omega) (Or.inl y1)))
      · have y1 : cI.toInt = ((Int8.ofInt 124).toInt32).toInt := (y_ci .eq _ _).mp z2
        rw [c124, hc] at y1
        have f2 : y_fr G H [] [] := y_st f0 hH (by repeat (first | exact w_nil | refine w_cons (Or.inl (y_m rfl)) ?_ | refine w_cons (Or.inr (by assumption)) ?_)) (by repeat (first | exact w_nil | refine w_cons (Or.inl (y_m rfl)) ?_ | refine w_cons (Or.inr (by assumption)) ?_))
        exact T143 (y_mo (y_sq e f2 rfl rfl) rfl rfl) (tx_s_fr s2 f2 rfl rfl) pq (pr_k_t (by decide) y1) hoJ o5' (hE.trans (pr_op (by omega) (Or.inr y1)))
      · have y1 : ¬ (cI.toInt = ((Int8.ofInt 38).toInt32).toInt) := y_cif z
        have y2 : ¬ (cI.toInt = ((Int8.ofInt 124).toInt32).toInt) := y_cif z2
        have y3 : oJ.toInt ≠ (0 : Int32).toInt := (y_ci .ne _ _).mp z3
        rw [c38, hc] at y1
        rw [c124, hc] at y2
        rw [z0] at y3
        have f2 : y_fr G H [] [] := y_st f0 hH (by repeat (first | exact w_nil | refine w_cons (Or.inl (y_m rfl)) ?_ | refine w_cons (Or.inr (by assumption)) ?_)) (by repeat (first | exact w_nil | refine w_cons (Or.inl (y_m rfl)) ?_ | refine w_cons (Or.inr (by assumption)) ?_))
        refine hK false q H (y_mo (y_sq e f2 rfl rfl) rfl rfl) (tx_s_fr s2 f2 rfl rfl) (hE.trans ?_)
        rw [pr_end (by omega) h41 y1 y2, decide_eq_false (by omega)]
      · have y1 : ¬ (cI.toInt = ((Int8.ofInt 38).toInt32).toInt) := y_cif z
        have y2 : ¬ (cI.toInt = ((Int8.ofInt 124).toInt32).toInt) := y_cif z2
        have y3 : ¬ (oJ.toInt ≠ (0 : Int32).toInt) := y_cif z3
        rw [c38, hc] at y1
        rw [c124, hc] at y2
        rw [z0] at y3
        have f2 : y_fr G H [] [] := y_st f0 hH (by repeat (first | exact w_nil | refine w_cons (Or.inl (y_m rfl)) ?_ | refine w_cons (Or.inr (by assumption)) ?_)) (by repeat (first | exact w_nil | refine w_cons (Or.inl (y_m rfl)) ?_ | refine w_cons (Or.inr (by assumption)) ?_))
        refine hK true q H (y_mo (y_sq e f2 rfl rfl) rfl rfl) (tx_s_fr s2 f2 rfl rfl) (hE.trans ?_)
        rw [pr_end (by omega) h41 y1 y2, decide_eq_true (by omega)]
    have T112 : ∀ {G : aH} {oJ : Int32} {q o' : Nat} {p3 p4 : Option Value}, y_fr h G [1538] [] → tx_s nd G sg t q → p < q → oJ.toInt = o' → o' ≤ 5 → pr_E (y_N sg) t nd.toInt false p o = pr_E (y_N sg) t nd.toInt true q o' → ¬ (pr_k (y_N sg) t q = 41 ∧ 0 < o') → aOK s_P X (d + 2) a_m87 112 [some (.ref 14), some (.ref 87), some (.int pI), p3, p4] [.int oJ] G C S K0 := by
      intro G oJ q o' p3 p4 e s2 pq hoJ o5' hE h41
      refine w_go z_hl [143] [82] 20 e.1 ?_
      intro H hH
      have f2 : y_fr G H [] [] := y_st (y_rf e.1) hH (by repeat (first | exact w_nil | refine w_cons (Or.inl (y_m rfl)) ?_ | refine w_cons (Or.inr (by assumption)) ?_)) (by repeat (first | exact w_nil | refine w_cons (Or.inl (y_m rfl)) ?_ | refine w_cons (Or.inr (by assumption)) ?_))
      refine c_lkT (tx_s_fr s2 f2 rfl rfl) (fun r H2 f3 er => ⟨fun n e => (by cases e), ?_⟩)
      exact T117 (y_sq (y_sq e f2 rfl rfl) f3 rfl rfl) (tx_s_fr (tx_s_fr s2 f2 rfl rfl) f3 rfl rfl) pq hoJ o5' er hE h41
    have T97 : ∀ {G : aH} {cI : Int32}, y_fr h G [] [] → p < t → 97 ≤ pr_k (y_N sg) t p → pr_k (y_N sg) t p < 97 + nd.toInt → aOK s_P X (d + 2) a_m87 97 [some (.ref 14), some (.ref 87), some (.int pI), some (.int oI), some (.int cI)] [] G C S K0 := by
      intro G cI e ptt h97 h98
      have s2 := tx_s_fr s e rfl rfl
      have inc : (atI + Int32.ofInt 1).toInt = ((p + 1 : Nat) : Int) := by rw [y_inc (by omega), a5]; rfl
      refine w_go z_hl [12] [88] 30 e.1 ?_
      intro x hx _ _
      obtain rfl := y_fi ((y_fe e rfl).trans a4) hx
      refine ⟨rfl, y_zini (by show 0 ≤ (atI + Int32.ofInt 1).toInt; omega) (by show (atI + Int32.ofInt 1).toInt ≤ 40; omega), fun H hH => ?_⟩
      have f : y_fr G H [1538] [] := y_st (y_mo (y_rf e.1) rfl rfl) hH (by repeat (first | exact w_nil | refine w_cons (Or.inl (y_m rfl)) ?_ | refine w_cons (Or.inr (by assumption)) ?_)) (by repeat (first | exact w_nil | refine w_cons (Or.inl (y_m rfl)) ?_ | refine w_cons (Or.inr (by assumption)) ?_))
      have s3 := tx_s_at s2 f rfl (hH.2.1 1538 _ rfl) inc (by omega)
      obtain ⟨k1, k2, k3, k4, k5⟩ := pr_c_p (T := y_N sg) (n := nd.toInt) t40 o (p + 1) (by omega)
      refine c_closeBr (d := d) s3 ho o5 (fun r H2 f2 s4 er => ⟨fun n e => (by cases e), ?_⟩)
      exact T112 (y_sq (y_sq (y_mo e rfl rfl) f rfl rfl) f2 rfl rfl) s4 (by omega) er (by omega) ((pr_let (by omega) h97 h98).trans k4) k5
    have T76 : ∀ {G : aH} {cI : Int32}, y_fr h G [] [] → p < t → cI.toInt = pr_k (y_N sg) t p → pr_k (y_N sg) t p ≠ 33 → ¬ (pr_k (y_N sg) t p = 40 ∧ o < 5) → aOK s_P X (d + 2) a_m87 76 [some (.ref 14), some (.ref 87), some (.int pI), some (.int oI), some (.int cI)] [] G C S K0 := by
      intro G cI e ptt hc h33 h40
      have bad : ∀ {H : aH}, y_fr h H [] [] → ¬ (97 ≤ pr_k (y_N sg) t p ∧ pr_k (y_N sg) t p < 97 + nd.toInt) → K0 (some (.int (y_01 false))) H C S := fun f w => hK false p _ (y_mo f rfl rfl) (tx_s_fr s f rfl rfl) (pr_bad (by omega) h33 h40 w)
      refine w_go z_hl [97] [88] 30 e.1 ?_
      refine ⟨fun z => ⟨by decide, fun H hH => bad (y_st e hH (by repeat (first | exact w_nil | refine w_cons (Or.inl (y_m rfl)) ?_ | refine w_cons (Or.inr (by assumption)) ?_)) (by repeat (first | exact w_nil | refine w_cons (Or.inl (y_m rfl)) ?_ | refine w_cons (Or.inr (by assumption)) ?_))) (fun w => ?_)⟩, fun z => ?_⟩
      · have y1 : cI.toInt < ((Int8.ofInt 97).toInt32).toInt := (y_ci .lt _ _).mp z
        rw [c97, hc] at y1
        have := w.1
        omega
      · have y1 : ¬ (cI.toInt < ((Int8.ofInt 97).toInt32).toInt) := y_cif z
        rw [c97, hc] at y1
        intro x hx _ _
        obtain rfl := y_fi ((y_fe e rfl).trans a6) hx
        refine ⟨fun z2 => fun H hH => ?_, fun z2 => ⟨by decide, fun H hH => bad (y_st e hH (by repeat (first | exact w_nil | refine w_cons (Or.inl (y_m rfl)) ?_ | refine w_cons (Or.inr (by assumption)) ?_)) (by repeat (first | exact w_nil | refine w_cons (Or.inl (y_m rfl)) ?_ | refine w_cons (Or.inr (by assumption)) ?_))) (fun w => ?_)⟩⟩
        · have y2 : cI.toInt < ((Int8.ofInt 97).toInt32 + nd).toInt := (y_ci .lt _ _).mp z2
          rw [cn, hc] at y2
          exact T97 (y_st e hH (by repeat (first | exact w_nil | refine w_cons (Or.inl (y_m rfl)) ?_ | refine w_cons (Or.inr (by assumption)) ?_)) (by repeat (first | exact w_nil | refine w_cons (Or.inl (y_m rfl)) ?_ | refine w_cons (Or.inr (by assumption)) ?_))) ptt (by omega) y2
        · have y2 : ¬ (cI.toInt < ((Int8.ofInt 97).toInt32 + nd).toInt) := y_cif z2
          rw [cn, hc] at y2
          exact y2 w.2
    have T48 : ∀ {G : aH} {cI : Int32} (b : Bool), y_fr h G [] [] → p < t → cI.toInt = (if b then 40 else 33) → pr_E (y_N sg) t nd.toInt false p o = pr_E (y_N sg) t nd.toInt false (p + 1) (o + (if b then 1 else 0)) → o + (if b then 1 else 0) ≤ 5 → aOK s_P X (d + 2) a_m87 48 [some (.ref 14), some (.ref 87), some (.int pI), some (.int oI), some (.int cI)] [] G C S K0 := by
      intro G cI b e ptt hc hE o5'
      have s2 := tx_s_fr s e rfl rfl
      have inc : (atI + Int32.ofInt 1).toInt = ((p + 1 : Nat) : Int) := by rw [y_inc (by omega), a5]; rfl
      cases b with
      | true =>
        have hc' : cI.toInt = 40 := hc
        have ino : (oI + Int32.ofInt 1).toInt = ((o + 1 : Nat) : Int) := by rw [y_inc (by omega), ho]; rfl
        have o6 : o + 1 ≤ 5 := o5'
        refine w_go z_hl [12] [88] 40 e.1 ?_
        refine ⟨fun z => ?_, fun _ => ?_⟩
        · have y1 : cI.toInt ≠ ((Int8.ofInt 40).toInt32).toInt := (y_ci .ne _ _).mp z
          rw [c40] at y1
          exact absurd hc' y1
        · intro x hx _ _
          obtain rfl := y_fi ((y_fe e rfl).trans a4) hx
          refine ⟨rfl, y_zini (by show 0 ≤ (atI + Int32.ofInt 1).toInt; omega) (by show (atI + Int32.ofInt 1).toInt ≤ 40; omega), fun H hH => ?_⟩
          have f : y_fr G H [1538] [] := y_st (y_mo (y_rf e.1) rfl rfl) hH (by repeat (first | exact w_nil | refine w_cons (Or.inl (y_m rfl)) ?_ | refine w_cons (Or.inr (by assumption)) ?_)) (by repeat (first | exact w_nil | refine w_cons (Or.inl (y_m rfl)) ?_ | refine w_cons (Or.inr (by assumption)) ?_))
          exact ih H (p + 1) _ (o + 1) _ (tx_s_at s2 f rfl (hH.2.1 1538 _ rfl) inc (by omega)) ino o6 (by omega) (fun b r H' f1 f2 f3 => hK b r H' (y_sq (y_mo (y_sq (y_mo e rfl rfl) f rfl rfl : y_fr h H [1538] []) rfl rfl) f1 rfl rfl) f2 (hE.trans f3))
      | false =>
        have hc' : cI.toInt = 33 := hc
        have ino : (oI + Int32.ofInt 0).toInt = (o : Nat) := by rw [show Int32.ofInt 0 = (0 : Int32) by decide, Int32.add_zero]; exact ho
        refine w_go z_hl [12] [88] 40 e.1 ?_
        refine ⟨fun _ => ?_, fun z => ?_⟩
        · intro x hx _ _
          obtain rfl := y_fi ((y_fe e rfl).trans a4) hx
          refine ⟨rfl, y_zini (by show 0 ≤ (atI + Int32.ofInt 1).toInt; omega) (by show (atI + Int32.ofInt 1).toInt ≤ 40; omega), fun H hH => ?_⟩
          have f : y_fr G H [1538] [] := y_st (y_mo (y_rf e.1) rfl rfl) hH (by repeat (first | exact w_nil | refine w_cons (Or.inl (y_m rfl)) ?_ | refine w_cons (Or.inr (by assumption)) ?_)) (by repeat (first | exact w_nil | refine w_cons (Or.inl (y_m rfl)) ?_ | refine w_cons (Or.inr (by assumption)) ?_))
          exact ih H (p + 1) _ o _ (tx_s_at s2 f rfl (hH.2.1 1538 _ rfl) inc (by omega)) ino o5 (by omega) (fun b r H' f1 f2 f3 => hK b r H' (y_sq (y_mo (y_sq (y_mo e rfl rfl) f rfl rfl : y_fr h H [1538] []) rfl rfl) f1 rfl rfl) f2 (hE.trans f3))
        · have y1 : ¬ (cI.toInt ≠ ((Int8.ofInt 40).toInt32).toInt) := y_cif z
          rw [c40] at y1
          exfalso
          omega
    have T27 : ∀ {G : aH} {cI : Int32}, y_fr h G [] [] → p < t → cI.toInt = pr_k (y_N sg) t p → aOK s_P X (d + 2) a_m87 27 [some (.ref 14), some (.ref 87), some (.int pI), some (.int oI), o4] [.int cI] G C S K0 := by
      intro G cI e ptt hc
      refine w_go z_hl [48, 76] [88] 40 e.1 ?_
      refine ⟨fun z => fun H hH => ?_, fun z => ⟨fun z2 => fun H hH => ?_, fun z2 => ⟨fun z3 => fun H hH => ?_, fun z3 => fun H hH => ?_⟩⟩⟩
      · have y1 : cI.toInt = ((Int8.ofInt 33).toInt32).toInt := (y_ci .eq _ _).mp z
        rw [c33] at y1
        exact T48 false (y_st e hH (by repeat (first | exact w_nil | refine w_cons (Or.inl (y_m rfl)) ?_ | refine w_cons (Or.inr (by assumption)) ?_)) (by repeat (first | exact w_nil | refine w_cons (Or.inl (y_m rfl)) ?_ | refine w_cons (Or.inr (by assumption)) ?_))) ptt y1 (pr_bang (by omega) (hc.symm.trans y1)) o5
      · have y1 : ¬ (cI.toInt = ((Int8.ofInt 33).toInt32).toInt) := y_cif z
        have y2 : cI.toInt ≠ ((Int8.ofInt 40).toInt32).toInt := (y_ci .ne _ _).mp z2
        rw [c33, hc] at y1
        rw [c40, hc] at y2
        exact T76 (y_st e hH (by repeat (first | exact w_nil | refine w_cons (Or.inl (y_m rfl)) ?_ | refine w_cons (Or.inr (by assumption)) ?_)) (by repeat (first | exact w_nil | refine w_cons (Or.inl (y_m rfl)) ?_ | refine w_cons (Or.inr (by assumption)) ?_))) ptt hc y1 (fun w => y2 w.1)
      · have y1 : ¬ (cI.toInt = ((Int8.ofInt 33).toInt32).toInt) := y_cif z
        have y3 : (Int32.ofInt 5).toInt ≤ oI.toInt := (y_ci .ge _ _).mp z3
        rw [c33, hc] at y1
        rw [c5] at y3
        exact T76 (y_st e hH (by repeat (first | exact w_nil | refine w_cons (Or.inl (y_m rfl)) ?_ | refine w_cons (Or.inr (by assumption)) ?_)) (by repeat (first | exact w_nil | refine w_cons (Or.inl (y_m rfl)) ?_ | refine w_cons (Or.inr (by assumption)) ?_))) ptt hc y1 (fun w => by have := w.2; omega)
      · have y2 : ¬ (cI.toInt ≠ ((Int8.ofInt 40).toInt32).toInt) := y_cif z2
        have y3 : ¬ ((Int32.ofInt 5).toInt ≤ oI.toInt) := y_cif z3
        rw [c40] at y2
        rw [c5] at y3
        have y4 : cI.toInt = 40 := Decidable.not_not.mp y2
        exact T48 true (y_st e hH (by repeat (first | exact w_nil | refine w_cons (Or.inl (y_m rfl)) ?_ | refine w_cons (Or.inr (by assumption)) ?_)) (by repeat (first | exact w_nil | refine w_cons (Or.inl (y_m rfl)) ?_ | refine w_cons (Or.inr (by assumption)) ?_))) ptt y4 (pr_open (by omega) (hc.symm.trans y4) (by omega)) (by show o + 1 ≤ 5; omega)
    refine w_go z_hl [12] [82] 30 hr ?_
    intro x hx _ _
    obtain rfl := y_fi a4 hx
    intro y hy _ _
    obtain rfl := y_fi a2 hy
    refine ⟨fun z => ⟨by decide, fun H hH => ?_⟩, fun z => fun H hH => ?_⟩
    · have y1 : toI.toInt ≤ atI.toInt := (y_ci .ge _ _).mp z
      have f : y_fr h H [] [] := y_st (y_rf hr) hH (by repeat (first | exact w_nil | refine w_cons (Or.inl (y_m rfl)) ?_ | refine w_cons (Or.inr (by assumption)) ?_)) (by repeat (first | exact w_nil | refine w_cons (Or.inl (y_m rfl)) ?_ | refine w_cons (Or.inr (by assumption)) ?_))
      have k0 : pr_k (y_N sg) t p = 0 := if_neg (by omega)
      exact hK false p H (y_mo f rfl rfl) (tx_s_fr s f rfl rfl) (pr_bad (by omega) (by omega) (fun w => by have := w.1; omega) (fun w => by have := w.1; omega))
    · have y1 : ¬ (toI.toInt ≤ atI.toInt) := y_cif z
      have f : y_fr h H [] [] := y_st (y_rf hr) hH (by repeat (first | exact w_nil | refine w_cons (Or.inl (y_m rfl)) ?_ | refine w_cons (Or.inr (by assumption)) ?_)) (by repeat (first | exact w_nil | refine w_cons (Or.inl (y_m rfl)) ?_ | refine w_cons (Or.inr (by assumption)) ?_))
      refine c_lkT (tx_s_fr s f rfl rfl) (fun r H2 f2 er => ⟨fun n e => (by cases e), ?_⟩)
      exact T27 (y_sq f f2 rfl rfl) (by omega) er
theorem c_ev10 {h : aH} {p : Nat} (n0 : 0 ≤ nd.toInt) (n10 : nd.toInt ≤ 10) {pI : Int32} {pa : Nat} (hpa : pI.toInt = pa) (pa4 : pa < 4) (s : tx_s nd h sg t p) {fr : List Int32} (gf : w_a h 87 = some (0, .inl fr)) (hK : ∀ (b : Bool) (q : Nat) (aI : Int32) (H : aH), y_fr h H [1538] [87, 88, 89] → tx_s nd H sg t q → pr_E (y_N sg) t nd.toInt false p 0 = (b, q) → w_a H 87 = some (0, .inl (fr.set pa aI)) → 0 ≤ aI.toInt → K0 (some (.int (y_01 b))) H C S) : aOK s_P X (d + 2) a_m87 0 [some (.ref 14), some (.ref 87), some (.int pI), none, none] [] h C S K0 := by
  obtain ⟨toI, atI, hr, a1, a2, a3, a4, a5, a6, pt, t40⟩ := id s
  have cp := y_cl1 hpa
  refine w_go z_hl [12] [] 30 hr ?_
  intro x hx _ _
  obtain rfl := y_fi a4 hx
  refine ⟨⟨by omega, by omega⟩, ⟨by omega, by omega⟩, fun l hl len bb => fun H hH => ?_⟩
  obtain rfl := y_ai gf hl
  have w := hH.2.2.1 87 _ rfl
  rw [cp] at w
  have f : y_fr h H [] [87] := y_st (y_mo (y_rf hr) rfl rfl) hH (by repeat (first | exact w_nil | refine w_cons (Or.inl (y_m rfl)) ?_ | refine w_cons (Or.inr (by assumption)) ?_)) (by repeat (first | exact w_nil | refine w_cons (Or.inl (y_m rfl)) ?_ | refine w_cons (Or.inr (by assumption)) ?_))
  exact c_evl10 (d := d) n0 n10 hpa pa4 40 H p _ 0 _ (tx_s_fr s f rfl rfl) (by decide) (by decide) (by omega) (fun b q H' f1 f2 f3 => hK b q atI H' (y_sq (y_mo f rfl rfl) f1 rfl rfl) f2 f3 ((y_ae f1 rfl).trans w) (by omega))
end PEV10
end PT33ida
section PT33idb
/-! ===== v21: parseGiven, parseRate, parseTerm of the class with saying 10 (laid by wip/tools/mk21d.py) ===== -/
section PPT10
variable {X : aX} {C S d : Nat} {K0 : Option Value → aH → Nat → Nat → Prop} {sg : List Int32} {t p : Nat} {nd : Int32} {h : aH}
theorem c_gv10 (n0 : 0 ≤ nd.toInt) (n10 : nd.toInt ≤ 10) {sI : Int32} {sd : Nat} (hs : sI.toInt = sd) (hs2 : sd < 2) (s : tx_s nd h sg t p) {fr : List Int32} (gf : w_a h 87 = some (0, .inl fr)) (hK : ∀ (b : Bool) (q k : Nat) (H : aH) (fr' : List Int32), y_fr h H [1538] [87, 88, 89] → tx_s nd H sg t q → pr_gv (y_N sg) t nd.toInt p = (b, q, k) → w_a H 87 = some (0, .inl fr') → tx_f fr fr' sd k → K0 (some (.int (y_01 b))) H C S) : aOK s_P X (d + 3) a_m86 0 [some (.ref 14), some (.ref 87), some (.int sI)] [] h C S K0 := by
  obtain ⟨toI, atI, hr, a1, a2, a3, a4, a5, a6, pt, t40⟩ := id s
  obtain ⟨fr0, f1, fl, -⟩ := c_arr hr (ob := 87) (n := 4) (lo := -1) (hi := 40) rfl
  obtain rfl := y_ai gf f1
  have c47 : ((Int8.ofInt 47).toInt32).toInt = 47 := by decide
  have m1 : (Int32.ofInt 2 * sI).toInt = ((2 * sd : Nat) : Int) := y_mulS (m := 2) _ (by decide) hs rfl (by omega)
  have m2 : (Int32.ofInt 2 * sI + Int32.ofInt 1).toInt = ((2 * sd + 1 : Nat) : Int) := y_addS _ m1 (n := 1) (by decide) rfl (by omega)
  have T44 : ∀ {G : aH} {b : Bool} {q k : Nat} {fr' : List Int32}, y_fr h G [1538] [87, 88, 89] → tx_s nd G sg t q → pr_gv (y_N sg) t nd.toInt p = (b, q, k) → w_a G 87 = some (0, .inl fr') → tx_f fr fr' sd k → aOK s_P X (d + 3) a_m86 44 [some (.ref 14), some (.ref 87), some (.int sI)] [.int (y_01 b)] G C S K0 := by
    intro G b q k fr' e s2 hg g2 hf
    refine w_go z_hl [] [] 20 e.1 ?_
    refine ⟨y_01b b, fun H hH => ?_⟩
    have f : y_fr G H [] [] := y_st (y_rf e.1) hH (by repeat (first | exact w_nil | refine w_cons (Or.inl (y_m rfl)) ?_ | refine w_cons (Or.inr (by assumption)) ?_)) (by repeat (first | exact w_nil | refine w_cons (Or.inl (y_m rfl)) ?_ | refine w_cons (Or.inr (by assumption)) ?_))
    exact hK b q k H fr' (y_sq e f rfl rfl) (tx_s_fr s2 f rfl rfl) hg ((y_ae f rfl).trans g2) hf
  have T24 : ∀ {G : aH} {q : Nat} {aI : Int32}, y_fr h G [1538] [87, 88, 89] → tx_s nd G sg t q → q < t → pr_E (y_N sg) t nd.toInt false p 0 = (true, q) → pr_k (y_N sg) t q = 47 → w_a G 87 = some (0, .inl (fr.set (2 * sd) aI)) → 0 ≤ aI.toInt → aOK s_P X (d + 3) a_m86 24 [some (.ref 14), some (.ref 87), some (.int sI)] [] G C S K0 := by
    intro G q aI e s2 qt hE h47 g2 ha
    obtain ⟨toJ, atJ, -, b1, b2, b3, b4, b5, b6, -, -⟩ := id s2
    have inc : (atJ + Int32.ofInt 1).toInt = ((q + 1 : Nat) : Int) := by rw [y_inc (by omega), b5]; rfl
    refine w_go z_hl [] [87] 30 e.1 ?_
    intro x hx _ _
    obtain rfl := y_fi b4 hx
    refine ⟨rfl, y_zini (by show 0 ≤ (atJ + Int32.ofInt 1).toInt; omega) (by show (atJ + Int32.ofInt 1).toInt ≤ 40; omega), fun H hH => ?_⟩
    have f : y_fr G H [1538] [] := y_st (y_mo (y_rf e.1) rfl rfl) hH (by repeat (first | exact w_nil | refine w_cons (Or.inl (y_m rfl)) ?_ | refine w_cons (Or.inr (by assumption)) ?_)) (by repeat (first | exact w_nil | refine w_cons (Or.inl (y_m rfl)) ?_ | refine w_cons (Or.inr (by assumption)) ?_))
    refine c_ev10 (d := d) n0 n10 m2 (by omega) (tx_s_at s2 f rfl (hH.2.1 1538 _ rfl) inc (by omega)) ((y_ae f rfl).trans g2) (fun b r aJ H2 f2 s3 hE2 g3 ha2 => ⟨fun n e => (by cases e), ?_⟩)
    exact T44 (k := 2) (y_sq (y_sq e f rfl rfl) f2 rfl rfl) s3 (pr_gv_2 hE h47 hE2) g3 (tx_f_2 fl ha ha2 hs2)
  have T17 : ∀ {G : aH} {q : Nat} {aI cI : Int32}, y_fr h G [1538] [87, 88, 89] → tx_s nd G sg t q → cI.toInt = pr_k (y_N sg) t q → pr_E (y_N sg) t nd.toInt false p 0 = (true, q) → w_a G 87 = some (0, .inl (fr.set (2 * sd) aI)) → 0 ≤ aI.toInt → aOK s_P X (d + 3) a_m86 17 [some (.ref 14), some (.ref 87), some (.int sI)] [.int cI] G C S K0 := by
    intro G q aI cI e s2 hc hE g2 ha
    refine w_go z_hl [24] [] 30 e.1 ?_
    refine ⟨fun z => fun H hH => ?_, fun z => ⟨by decide, fun H hH => ?_⟩⟩
    · have y1 : cI.toInt = ((Int8.ofInt 47).toInt32).toInt := (y_ci .eq _ _).mp z
      rw [c47, hc] at y1
      have f : y_fr G H [] [] := y_st (y_rf e.1) hH (by repeat (first | exact w_nil | refine w_cons (Or.inl (y_m rfl)) ?_ | refine w_cons (Or.inr (by assumption)) ?_)) (by repeat (first | exact w_nil | refine w_cons (Or.inl (y_m rfl)) ?_ | refine w_cons (Or.inr (by assumption)) ?_))
      exact T24 (y_sq e f rfl rfl) (tx_s_fr s2 f rfl rfl) (pr_k_t (by decide) y1) hE y1 ((y_ae f rfl).trans g2) ha
    · have y1 : ¬ (cI.toInt = ((Int8.ofInt 47).toInt32).toInt) := y_cif z
      rw [c47, hc] at y1
      have f : y_fr G H [] [] := y_st (y_rf e.1) hH (by repeat (first | exact w_nil | refine w_cons (Or.inl (y_m rfl)) ?_ | refine w_cons (Or.inr (by assumption)) ?_)) (by repeat (first | exact w_nil | refine w_cons (Or.inl (y_m rfl)) ?_ | refine w_cons (Or.inr (by assumption)) ?_))
      exact hK true q 1 H _ (y_sq e f rfl rfl) (tx_s_fr s2 f rfl rfl) (pr_gv_1 hE y1) ((y_ae f rfl).trans g2) (tx_f_1 fl ha hs2)
  have T8 : ∀ {G : aH} {q : Nat} {aI : Int32} (b : Bool), y_fr h G [1538] [87, 88, 89] → tx_s nd G sg t q → pr_E (y_N sg) t nd.toInt false p 0 = (b, q) → w_a G 87 = some (0, .inl (fr.set (2 * sd) aI)) → 0 ≤ aI.toInt → aOK s_P X (d + 3) a_m86 8 [some (.ref 14), some (.ref 87), some (.int sI)] [.int (y_01 b)] G C S K0 := by
    intro G q aI b e s2 hE g2 ha
    cases b with
    | true =>
      refine w_go z_hl [24] [82] 30 e.1 ?_
      refine ⟨fun _ => fun H hH => ?_, fun z => absurd z (by decide)⟩
      have f : y_fr G H [] [] := y_st (y_rf e.1) hH (by repeat (first | exact w_nil | refine w_cons (Or.inl (y_m rfl)) ?_ | refine w_cons (Or.inr (by assumption)) ?_)) (by repeat (first | exact w_nil | refine w_cons (Or.inl (y_m rfl)) ?_ | refine w_cons (Or.inr (by assumption)) ?_))
      refine c_lkT (tx_s_fr s2 f rfl rfl) (fun r H2 f2 er => ⟨fun n e => (by cases e), ?_⟩)
      exact T17 (y_sq (y_sq e f rfl rfl) f2 rfl rfl) (tx_s_fr (tx_s_fr s2 f rfl rfl) f2 rfl rfl) er hE ((y_ae f2 rfl).trans ((y_ae f rfl).trans g2)) ha
    | false =>
      refine w_go z_hl [24] [82] 30 e.1 ?_
      refine ⟨fun z => absurd z (by decide), fun _ => ⟨by decide, fun H hH => ?_⟩⟩
      have f : y_fr G H [] [] := y_st (y_rf e.1) hH (by repeat (first | exact w_nil | refine w_cons (Or.inl (y_m rfl)) ?_ | refine w_cons (Or.inr (by assumption)) ?_)) (by repeat (first | exact w_nil | refine w_cons (Or.inl (y_m rfl)) ?_ | refine w_cons (Or.inr (by assumption)) ?_))
      exact hK false q 1 H _ (y_sq e f rfl rfl) (tx_s_fr s2 f rfl rfl) (pr_gv_n hE) ((y_ae f rfl).trans g2) (tx_f_1 fl ha hs2)
  refine w_go z_hl [] [87] 30 hr ?_
  intro H hH
  have f : y_fr h H [] [] := y_st (y_rf hr) hH (by repeat (first | exact w_nil | refine w_cons (Or.inl (y_m rfl)) ?_ | refine w_cons (Or.inr (by assumption)) ?_)) (by repeat (first | exact w_nil | refine w_cons (Or.inl (y_m rfl)) ?_ | refine w_cons (Or.inr (by assumption)) ?_))
  refine c_ev10 (d := d) n0 n10 m1 (by omega) (tx_s_fr s f rfl rfl) ((y_ae f rfl).trans gf) (fun b q aI H2 f2 s3 hE g3 ha => ⟨fun n e => (by cases e), ?_⟩)
  exact T8 b (y_sq (y_mo f rfl rfl) f2 rfl rfl) s3 hE g3 ha
theorem c_rt10 {sI : Int32} {sd : Nat} (hs : sI.toInt = sd) (hs2 : sd < 2) (s : tx_s nd h sg t p) (hK : ∀ (b : Bool) (q : Nat) (H : aH), y_fr h H [1538] [90, 91] → tx_s nd H sg t q → pr_rt (y_N sg) t p = (b, q, 0) → K0 (some (.int (y_01 b))) H C S) : aOK s_P X (d + 2) a_m84 0 [some (.ref 14), some (.ref 87), some (.int sI)] [] h C S K0 := by
  obtain ⟨toI, atI, hr, a1, a2, a3, a4, a5, a6, pt, t40⟩ := id s
  have c58 : ((Int8.ofInt 58).toInt32).toInt = 58 := by decide
  have c48 : ((Int8.ofInt 48).toInt32).toInt = 48 := by decide
  have T61 : ∀ {G : aH} {q : Nat} {r : Int32}, y_fr h G [1538] [90] → tx_s nd G sg t q → pr_rt (y_N sg) t p = (true, q, 0) → aOK s_P X (d + 2) a_m84 61 [some (.ref 14), some (.ref 87), some (.int sI)] [.int r, .int sI, .ref 93] G C S K0 := by
    intro G q r e s2 hg
    refine w_go z_hl [] [] 20 e.1 ?_
    refine ⟨⟨by omega, by omega⟩, y_l32 _, fun l hl len bb => ⟨by decide, fun H hH => ?_⟩⟩
    have f : y_fr G H [] [91] := y_st (y_mo (y_rf e.1) rfl rfl) hH (by repeat (first | exact w_nil | refine w_cons (Or.inl (y_m rfl)) ?_ | refine w_cons (Or.inr (by assumption)) ?_)) (by repeat (first | exact w_nil | refine w_cons (Or.inl (y_m rfl)) ?_ | refine w_cons (Or.inr (by assumption)) ?_))
    exact hK true q H (y_sq (y_mo e rfl rfl) f rfl rfl) (tx_s_fr s2 f rfl rfl) hg
  have T45 : ∀ {G : aH} {cI : Int32}, y_fr h G [1538] [90] → tx_s nd G sg t (pr_dq (y_N sg) t 8 p + 1) → pr_k (y_N sg) t (pr_dq (y_N sg) t 8 p) = 58 → pr_dg (y_N sg) t (pr_dq (y_N sg) t 8 p + 1) → cI.toInt = pr_k (y_N sg) t (pr_dq (y_N sg) t 8 p + 1) → aOK s_P X (d + 2) a_m84 45 [some (.ref 14), some (.ref 87), some (.int sI)] [.int cI] G C S K0 := by
    intro G cI e s2 h58 hd hc
    have hd1 := hd.1
    have hd2 := hd.2
    refine w_go z_hl [] [85] 30 e.1 ?_
    refine ⟨fun z => fun H hH => ?_, fun z => ⟨by decide, fun H hH => ?_⟩⟩
    · have y1 : cI.toInt ≠ ((Int8.ofInt 48).toInt32).toInt := (y_ci .ne _ _).mp z
      rw [c48, hc] at y1
      have f : y_fr G H [] [] := y_st (y_rf e.1) hH (by repeat (first | exact w_nil | refine w_cons (Or.inl (y_m rfl)) ?_ | refine w_cons (Or.inr (by assumption)) ?_)) (by repeat (first | exact w_nil | refine w_cons (Or.inl (y_m rfl)) ?_ | refine w_cons (Or.inr (by assumption)) ?_))
      refine c_number (d := d) (tx_s_fr s2 f rfl rfl) (fun r H2 f2 s3 => ⟨fun n e => (by cases e), ?_⟩)
      exact T61 (y_sq (y_sq e f rfl rfl) f2 rfl rfl) s3 (pr_rt_1 h58 ⟨by omega, hd2⟩)
    · have y1 : ¬ (cI.toInt ≠ ((Int8.ofInt 48).toInt32).toInt) := y_cif z
      rw [c48, hc] at y1
      have f : y_fr G H [] [] := y_st (y_rf e.1) hH (by repeat (first | exact w_nil | refine w_cons (Or.inl (y_m rfl)) ?_ | refine w_cons (Or.inr (by assumption)) ?_)) (by repeat (first | exact w_nil | refine w_cons (Or.inl (y_m rfl)) ?_ | refine w_cons (Or.inr (by assumption)) ?_))
      exact hK false _ H (y_mo (y_sq e f rfl rfl) rfl rfl) (tx_s_fr s2 f rfl rfl) (pr_rt_0 h58 (fun w => by have := w.1; omega))
  have T38 : ∀ {G : aH} (b : Bool), y_fr h G [1538] [90] → tx_s nd G sg t (pr_dq (y_N sg) t 8 p + 1) → pr_k (y_N sg) t (pr_dq (y_N sg) t 8 p) = 58 → (b = true → pr_dg (y_N sg) t (pr_dq (y_N sg) t 8 p + 1)) → (b = false → ¬ pr_dg (y_N sg) t (pr_dq (y_N sg) t 8 p + 1)) → aOK s_P X (d + 2) a_m84 38 [some (.ref 14), some (.ref 87), some (.int sI)] [.int (y_01 b)] G C S K0 := by
    intro G b e s2 h58 hy hn
    cases b with
    | true =>
      refine w_go z_hl [] [82] 30 e.1 ?_
      refine ⟨fun z => absurd z (by decide), fun _ => fun H hH => ?_⟩
      have f : y_fr G H [] [] := y_st (y_rf e.1) hH (by repeat (first | exact w_nil | refine w_cons (Or.inl (y_m rfl)) ?_ | refine w_cons (Or.inr (by assumption)) ?_)) (by repeat (first | exact w_nil | refine w_cons (Or.inl (y_m rfl)) ?_ | refine w_cons (Or.inr (by assumption)) ?_))
      refine c_lkT (tx_s_fr s2 f rfl rfl) (fun r H2 f2 er => ⟨fun n e => (by cases e), ?_⟩)
      exact T45 (y_sq (y_sq e f rfl rfl) f2 rfl rfl) (tx_s_fr (tx_s_fr s2 f rfl rfl) f2 rfl rfl) h58 (hy rfl) er
    | false =>
      refine w_go z_hl [] [82] 30 e.1 ?_
      refine ⟨fun _ => ⟨by decide, fun H hH => ?_⟩, fun z => absurd z (by decide)⟩
      have f : y_fr G H [] [] := y_st (y_rf e.1) hH (by repeat (first | exact w_nil | refine w_cons (Or.inl (y_m rfl)) ?_ | refine w_cons (Or.inr (by assumption)) ?_)) (by repeat (first | exact w_nil | refine w_cons (Or.inl (y_m rfl)) ?_ | refine w_cons (Or.inr (by assumption)) ?_))
      exact hK false _ H (y_mo (y_sq e f rfl rfl) rfl rfl) (tx_s_fr s2 f rfl rfl) (pr_rt_0 h58 (fun w => hn rfl ⟨by have := w.1; omega, w.2⟩))
  have T35 : ∀ {G : aH} {cI : Int32}, y_fr h G [1538] [90] → tx_s nd G sg t (pr_dq (y_N sg) t 8 p + 1) → pr_k (y_N sg) t (pr_dq (y_N sg) t 8 p) = 58 → cI.toInt = pr_k (y_N sg) t (pr_dq (y_N sg) t 8 p + 1) → aOK s_P X (d + 2) a_m84 35 [some (.ref 14), some (.ref 87), some (.int sI)] [.int cI] G C S K0 := by
    intro G cI e s2 h58 hc
    refine w_go z_hl [] [83] 20 e.1 ?_
    intro H hH
    have f : y_fr G H [] [] := y_st (y_rf e.1) hH (by repeat (first | exact w_nil | refine w_cons (Or.inl (y_m rfl)) ?_ | refine w_cons (Or.inr (by assumption)) ?_)) (by repeat (first | exact w_nil | refine w_cons (Or.inl (y_m rfl)) ?_ | refine w_cons (Or.inr (by assumption)) ?_))
    refine c_isDg (c := cI) f.1 (fun H2 f2 w => ⟨fun n e => (by cases e), ?_⟩) (fun H2 f2 w => ⟨fun n e => (by cases e), ?_⟩)
    · exact T38 true (y_sq (y_sq e f rfl rfl) f2 rfl rfl) (tx_s_fr (tx_s_fr s2 f rfl rfl) f2 rfl rfl) h58 (fun _ => ⟨by omega, by omega⟩) (fun z => absurd z (by decide))
    · exact T38 false (y_sq (y_sq e f rfl rfl) f2 rfl rfl) (tx_s_fr (tx_s_fr s2 f rfl rfl) f2 rfl rfl) h58 (fun z => absurd z (by decide)) (fun _ z => w ⟨by have := z.1; omega, by have := z.2; omega⟩)
  have T14 : ∀ {G : aH} {cI : Int32}, y_fr h G [1538] [90] → tx_s nd G sg t (pr_dq (y_N sg) t 8 p) → cI.toInt = pr_k (y_N sg) t (pr_dq (y_N sg) t 8 p) → aOK s_P X (d + 2) a_m84 14 [some (.ref 14), some (.ref 87), some (.int sI)] [.int cI] G C S K0 := by
    intro G cI e s2 hc
    obtain ⟨toJ, atJ, -, b1, b2, b3, b4, b5, b6, qt, -⟩ := id s2
    refine w_go z_hl [] [82] 40 e.1 ?_
    refine ⟨fun z => ?_, fun z => ⟨by decide, fun H hH => ?_⟩⟩
    · have y1 : cI.toInt = ((Int8.ofInt 58).toInt32).toInt := (y_ci .eq _ _).mp z
      rw [c58, hc] at y1
      have qt' := pr_k_t (by decide) y1
      have inc : (atJ + Int32.ofInt 1).toInt = ((pr_dq (y_N sg) t 8 p + 1 : Nat) : Int) := by rw [y_inc (by omega), b5]; rfl
      intro x hx _ _
      obtain rfl := y_fi b4 hx
      refine ⟨rfl, y_zini (by show 0 ≤ (atJ + Int32.ofInt 1).toInt; omega) (by show (atJ + Int32.ofInt 1).toInt ≤ 40; omega), fun H hH => ?_⟩
      have f : y_fr G H [1538] [] := y_st (y_mo (y_rf e.1) rfl rfl) hH (by repeat (first | exact w_nil | refine w_cons (Or.inl (y_m rfl)) ?_ | refine w_cons (Or.inr (by assumption)) ?_)) (by repeat (first | exact w_nil | refine w_cons (Or.inl (y_m rfl)) ?_ | refine w_cons (Or.inr (by assumption)) ?_))
      have s3 := tx_s_at s2 f rfl (hH.2.1 1538 _ rfl) inc (by omega)
      refine c_lkT s3 (fun r H2 f2 er => ⟨fun n e => (by cases e), ?_⟩)
      exact T35 (y_sq (y_sq e f rfl rfl) f2 rfl rfl) (tx_s_fr s3 f2 rfl rfl) y1 er
    · have y1 : ¬ (cI.toInt = ((Int8.ofInt 58).toInt32).toInt) := y_cif z
      rw [c58, hc] at y1
      have f : y_fr G H [] [] := y_st (y_rf e.1) hH (by repeat (first | exact w_nil | refine w_cons (Or.inl (y_m rfl)) ?_ | refine w_cons (Or.inr (by assumption)) ?_)) (by repeat (first | exact w_nil | refine w_cons (Or.inl (y_m rfl)) ?_ | refine w_cons (Or.inr (by assumption)) ?_))
      exact hK false _ H (y_mo (y_sq e f rfl rfl) rfl rfl) (tx_s_fr s2 f rfl rfl) (pr_rt_n y1)
  have T9 : ∀ {G : aH} {r : Int32}, y_fr h G [1538] [] → tx_s nd G sg t (pr_dq (y_N sg) t 8 p) → aOK s_P X (d + 2) a_m84 9 [some (.ref 14), some (.ref 87), some (.int sI)] [.int r, .int sI, .ref 92] G C S K0 := by
    intro G r e s2
    refine w_go z_hl [] [82] 30 e.1 ?_
    refine ⟨⟨by omega, by omega⟩, y_l32 _, fun l hl len bb => fun H hH => ?_⟩
    have f : y_fr G H [] [90] := y_st (y_mo (y_rf e.1) rfl rfl) hH (by repeat (first | exact w_nil | refine w_cons (Or.inl (y_m rfl)) ?_ | refine w_cons (Or.inr (by assumption)) ?_)) (by repeat (first | exact w_nil | refine w_cons (Or.inl (y_m rfl)) ?_ | refine w_cons (Or.inr (by assumption)) ?_))
    refine c_lkT (tx_s_fr s2 f rfl rfl) (fun r H2 f2 er => ⟨fun n e => (by cases e), ?_⟩)
    exact T14 (y_sq (y_sq (y_mo e rfl rfl) f rfl rfl) f2 rfl rfl) (tx_s_fr (tx_s_fr s2 f rfl rfl) f2 rfl rfl) er
  refine w_go z_hl [] [85] 30 hr ?_
  intro H hH
  have f : y_fr h H [] [] := y_st (y_rf hr) hH (by repeat (first | exact w_nil | refine w_cons (Or.inl (y_m rfl)) ?_ | refine w_cons (Or.inr (by assumption)) ?_)) (by repeat (first | exact w_nil | refine w_cons (Or.inl (y_m rfl)) ?_ | refine w_cons (Or.inr (by assumption)) ?_))
  refine c_number (d := d) (tx_s_fr s f rfl rfl) (fun r H2 f2 s3 => ⟨fun n e => (by cases e), ?_⟩)
  exact T9 (y_sq (y_mo f rfl rfl) f2 rfl rfl) s3
end PPT10
end PT33idb
section PT33idc
/-! ===== v21: clear, parseTerm, parseFirst, parseSecond of the class with saying 10 (laid by wip/tools/mk21e.py) ===== -/
section PFS10
variable {X : aX} {C S d : Nat} {K0 : Option Value → aH → Nat → Nat → Prop} {sg : List Int32} {t p : Nat} {nd : Int32} {h : aH}
theorem c_clearl10 : ∀ (m : Nat) (h : aH) (iI : Int32) (i : Nat) (fr : List Int32), w_hr z_D h → iI.toInt = i → i + m = 4 → w_a h 87 = some (0, .inl fr) → fr.length = 4 → (∀ j, j < i → y_N fr j = -1) → (∀ (H : aH) (fr' : List Int32), y_fr h H [] [87, 88, 89] → w_a H 87 = some (0, .inl fr') → (∀ j, j < 4 → y_N fr' j = -1) → K0 none H C S) → aOK s_P X d a_m79 13 [some (.ref 87), some (.int iI)] [] h C S K0 := by
  have c4 : (Int32.ofInt 4).toInt = 4 := by decide
  intro m
  induction m with
  | zero =>
    intro h iI i fr hr hi hm g len hf hK
    have ei : i = 4 := by omega
    rw [ei] at hf
    refine w_go z_hl [13] [] 30 hr ?_
    refine ⟨fun _ => fun H hH => ?_, fun z => ?_⟩
    · have f : y_fr h H [] [] := y_st (y_rf hr) hH (by repeat (first | exact w_nil | refine w_cons (Or.inl (y_m rfl)) ?_ | refine w_cons (Or.inr (by assumption)) ?_)) (by repeat (first | exact w_nil | refine w_cons (Or.inl (y_m rfl)) ?_ | refine w_cons (Or.inr (by assumption)) ?_))
      exact hK H fr (y_mo f rfl rfl) ((y_ae f rfl).trans g) hf
    · have y1 : ¬ ((Int32.ofInt 4).toInt ≤ iI.toInt) := y_cif z
      rw [c4] at y1
      exfalso
      omega
  | succ m ih =>
    intro h iI i fr hr hi hm g len hf hK
    have ink : (iI + Int32.ofInt 1).toInt = ((i + 1 : Nat) : Int) := by rw [y_inc (by omega), hi]; rfl
    have ci := y_cl1 hi
    refine w_go z_hl [13] [] 60 hr ?_
    refine ⟨fun z => ?_, fun z => ?_⟩
    · have y1 : (Int32.ofInt 4).toInt ≤ iI.toInt := (y_ci .ge _ _).mp z
      rw [c4] at y1
      exfalso
      omega
    · refine ⟨⟨by omega, by omega⟩, by decide, fun l hl len1 bb => ?_⟩
      obtain rfl := y_ai g hl
      refine ⟨⟨by omega, by omega⟩, y_l32 _, fun l2 hl2 len2 bb2 => ⟨⟨by omega, by omega⟩, y_l32 _, fun l3 hl3 len3 bb3 => fun H hH => ?_⟩⟩
      have w := hH.2.2.1 87 _ rfl
      rw [ci] at w
      have f : y_fr h H [] [87, 88, 89] := y_st (y_mo (y_rf hr) rfl rfl) hH (by repeat (first | exact w_nil | refine w_cons (Or.inl (y_m rfl)) ?_ | refine w_cons (Or.inr (by assumption)) ?_)) (by repeat (first | exact w_nil | refine w_cons (Or.inl (y_m rfl)) ?_ | refine w_cons (Or.inr (by assumption)) ?_))
      refine ih H _ (i + 1) _ f.1 ink (by omega) w (by rw [List.length_set]; exact len) (fun j hj => ?_) (fun H' fr' f1 f2 f3 => hK H' fr' (y_sq f f1 rfl rfl) f2 f3)
      rw [y_Nset (by omega)]
      by_cases y : j = i
      · rw [if_pos y]
        decide
      · rw [if_neg y]
        exact hf j (by omega)
theorem c_clear10 (hr : w_hr z_D h) (hK : ∀ (H : aH) (fr : List Int32), y_fr h H [10881, 10882] [87, 88, 89] → w_a H 87 = some (0, .inl fr) → (∀ j, j < 4 → y_N fr j = -1) → K0 none H C S) : aOK s_P X d a_m79 0 [some (.ref 87), none] [] h C S K0 := by
  refine w_go z_hl [13] [] 30 hr ?_
  refine ⟨rfl, y_zini (by decide) (by decide), rfl, y_zini (by decide) (by decide), fun H hH => ?_⟩
  have f : y_fr h H [10881, 10882] [] := y_st (y_mo (y_rf hr) rfl rfl) hH (by repeat (first | exact w_nil | refine w_cons (Or.inl (y_m rfl)) ?_ | refine w_cons (Or.inr (by assumption)) ?_)) (by repeat (first | exact w_nil | refine w_cons (Or.inl (y_m rfl)) ?_ | refine w_cons (Or.inr (by assumption)) ?_))
  obtain ⟨fr, f1, fl, -⟩ := c_arr f.1 (ob := 87) (n := 4) (lo := -1) (hi := 40) rfl
  exact c_clearl10 4 H _ 0 fr f.1 (by decide) rfl f1 fl (fun j hj => absurd hj (Nat.not_lt_zero j)) (fun H' fr' e1 e2 e3 => hK H' fr' (y_sq (y_mo f rfl rfl) e1 rfl rfl) e2 e3)
theorem c_tm10 (n0 : 0 ≤ nd.toInt) (n10 : nd.toInt ≤ 10) {sI : Int32} {sd : Nat} (hs : sI.toInt = sd) (hs2 : sd < 2) (s : tx_s nd h sg t p) {fr : List Int32} (gf : w_a h 87 = some (0, .inl fr)) (hK : ∀ (b : Bool) (q k : Nat) (H : aH) (fr' : List Int32), y_fr h H [1538] [87, 88, 89, 90, 91] → tx_s nd H sg t q → pr_tm (y_N sg) t nd.toInt p = (b, q, k) → w_a H 87 = some (0, .inl fr') → (k = 0 ∧ fr' = fr) ∨ tx_f fr fr' sd k → K0 (some (.int (y_01 b))) H C S) : aOK s_P X (d + 4) a_m81 0 [some (.ref 14), some (.ref 87), some (.int sI)] [] h C S K0 := by
  have hr := (tx_s_hr s).1
  have T25 : ∀ {G : aH} {b : Bool} {q k : Nat} {pc : Nat} {fr' : List Int32}, (pc = 16 ∨ pc = 25) → y_fr h G [1538] [87, 88, 89, 90, 91] → tx_s nd G sg t q → pr_tm (y_N sg) t nd.toInt p = (b, q, k) → w_a G 87 = some (0, .inl fr') → (k = 0 ∧ fr' = fr) ∨ tx_f fr fr' sd k → aOK s_P X (d + 4) a_m81 pc [some (.ref 14), some (.ref 87), some (.int sI)] [.int (y_01 b)] G C S K0 := by
    intro G b q k pc fr' hpc e s2 hg g2 hf
    rcases hpc with rfl | rfl
    · refine w_go z_hl [] [] 20 e.1 ?_
      refine ⟨y_01b b, fun H hH => ?_⟩
      have f : y_fr G H [] [] := y_st (y_rf e.1) hH (by repeat (first | exact w_nil | refine w_cons (Or.inl (y_m rfl)) ?_ | refine w_cons (Or.inr (by assumption)) ?_)) (by repeat (first | exact w_nil | refine w_cons (Or.inl (y_m rfl)) ?_ | refine w_cons (Or.inr (by assumption)) ?_))
      exact hK b q k H fr' (y_sq e f rfl rfl) (tx_s_fr s2 f rfl rfl) hg ((y_ae f rfl).trans g2) hf
    · refine w_go z_hl [] [] 20 e.1 ?_
      refine ⟨y_01b b, fun H hH => ?_⟩
      have f : y_fr G H [] [] := y_st (y_rf e.1) hH (by repeat (first | exact w_nil | refine w_cons (Or.inl (y_m rfl)) ?_ | refine w_cons (Or.inr (by assumption)) ?_)) (by repeat (first | exact w_nil | refine w_cons (Or.inl (y_m rfl)) ?_ | refine w_cons (Or.inr (by assumption)) ?_))
      exact hK b q k H fr' (y_sq e f rfl rfl) (tx_s_fr s2 f rfl rfl) hg ((y_ae f rfl).trans g2) hf
  have T7 : ∀ {G : aH} (b : Bool), y_fr h G [] [] → (b = true → pr_dg (y_N sg) t p) → (b = false → ¬ pr_dg (y_N sg) t p) → aOK s_P X (d + 4) a_m81 7 [some (.ref 14), some (.ref 87), some (.int sI)] [.int (y_01 b)] G C S K0 := by
    intro G b e hy hn
    cases b with
    | true =>
      refine w_go z_hl [] [84, 86] 30 e.1 ?_
      refine ⟨fun z => absurd z (by decide), fun _ => fun H hH => ?_⟩
      have f : y_fr h H [] [] := y_st e hH (by repeat (first | exact w_nil | refine w_cons (Or.inl (y_m rfl)) ?_ | refine w_cons (Or.inr (by assumption)) ?_)) (by repeat (first | exact w_nil | refine w_cons (Or.inl (y_m rfl)) ?_ | refine w_cons (Or.inr (by assumption)) ?_))
      refine c_rt10 (d := d + 1) hs hs2 (tx_s_fr s f rfl rfl) (fun b q H2 f2 s3 hg => ⟨fun n e => (by cases e), ?_⟩)
      exact T25 (k := 0) (Or.inl rfl) (y_sq (y_mo f rfl rfl) f2 rfl rfl) s3 (by rw [pr_tm_1 (hy rfl)]; exact hg) ((y_ae f2 rfl).trans ((y_ae f rfl).trans gf)) (Or.inl ⟨rfl, rfl⟩)
    | false =>
      refine w_go z_hl [] [84, 86] 30 e.1 ?_
      refine ⟨fun _ => fun H hH => ?_, fun z => absurd z (by decide)⟩
      have f : y_fr h H [] [] := y_st e hH (by repeat (first | exact w_nil | refine w_cons (Or.inl (y_m rfl)) ?_ | refine w_cons (Or.inr (by assumption)) ?_)) (by repeat (first | exact w_nil | refine w_cons (Or.inl (y_m rfl)) ?_ | refine w_cons (Or.inr (by assumption)) ?_))
      refine c_gv10 (d := d) n0 n10 hs hs2 (tx_s_fr s f rfl rfl) ((y_ae f rfl).trans gf) (fun b q k H2 fr' f2 s3 hg g3 hf => ⟨fun n e => (by cases e), ?_⟩)
      exact T25 (Or.inr rfl) (y_sq (y_mo f rfl rfl) f2 rfl rfl) s3 (by rw [pr_tm_0 (hn rfl)]; exact hg) g3 (Or.inr hf)
  have T4 : ∀ {G : aH} {cI : Int32}, y_fr h G [] [] → cI.toInt = pr_k (y_N sg) t p → aOK s_P X (d + 4) a_m81 4 [some (.ref 14), some (.ref 87), some (.int sI)] [.int cI] G C S K0 := by
    intro G cI e hc
    refine w_go z_hl [] [83] 20 e.1 ?_
    intro H hH
    have f : y_fr h H [] [] := y_st e hH (by repeat (first | exact w_nil | refine w_cons (Or.inl (y_m rfl)) ?_ | refine w_cons (Or.inr (by assumption)) ?_)) (by repeat (first | exact w_nil | refine w_cons (Or.inl (y_m rfl)) ?_ | refine w_cons (Or.inr (by assumption)) ?_))
    refine c_isDg (c := cI) f.1 (fun H2 f2 w => ⟨fun n e => (by cases e), ?_⟩) (fun H2 f2 w => ⟨fun n e => (by cases e), ?_⟩)
    · exact T7 true (y_sq f f2 rfl rfl) (fun _ => ⟨by omega, by omega⟩) (fun z => absurd z (by decide))
    · exact T7 false (y_sq f f2 rfl rfl) (fun z => absurd z (by decide)) (fun _ z => w ⟨by have := z.1; omega, by have := z.2; omega⟩)
  refine w_go z_hl [] [82] 20 hr ?_
  intro H hH
  have f : y_fr h H [] [] := y_st (y_rf hr) hH (by repeat (first | exact w_nil | refine w_cons (Or.inl (y_m rfl)) ?_ | refine w_cons (Or.inr (by assumption)) ?_)) (by repeat (first | exact w_nil | refine w_cons (Or.inl (y_m rfl)) ?_ | refine w_cons (Or.inr (by assumption)) ?_))
  refine c_lkT (tx_s_fr s f rfl rfl) (fun r H2 f2 er => ⟨fun n e => (by cases e), ?_⟩)
  exact T4 (y_sq f f2 rfl rfl) er
theorem c_isNum10 (hr : w_hr z_D h) {fr : List Int32} (gf : w_a h 87 = some (0, .inl fr)) (hK : ∀ (H : aH), y_fr h H [] [] → K0 (some (.int (y_01 (decide (y_N fr 0 = -1))))) H C S) : aOK s_P X d a_m89 0 [some (.ref 87), some (.int (Int32.ofInt 0))] [] h C S K0 := by
  have m1 : (Int32.ofInt 2 * Int32.ofInt 0).toInt = ((0 : Nat) : Int) := by decide
  have cm := y_cl1 m1
  have cn : (Int32.ofInt (-1)).toInt = -1 := by decide
  refine w_go z_hl [] [] 30 hr ?_
  refine ⟨⟨by decide, by decide⟩, fun l hl len bb => ?_⟩
  obtain rfl := y_ai gf hl
  refine ⟨fun z => ⟨by decide, fun H hH => ?_⟩, fun z => ⟨by decide, fun H hH => ?_⟩⟩
  · have y1 : (fr.getD (Int32.ofInt 2 * Int32.ofInt 0).toNatClampNeg 0).toInt ≠ (Int32.ofInt (-1)).toInt := (y_ci .ne _ _).mp z
    rw [cm, cn] at y1
    have w := hK H (y_st (y_rf hr) hH (by repeat (first | exact w_nil | refine w_cons (Or.inl (y_m rfl)) ?_ | refine w_cons (Or.inr (by assumption)) ?_)) (by repeat (first | exact w_nil | refine w_cons (Or.inl (y_m rfl)) ?_ | refine w_cons (Or.inr (by assumption)) ?_)))
    rw [decide_eq_false (show ¬ (y_N fr 0 = -1) from y1)] at w
    exact w
  · have y1 : ¬ ((fr.getD (Int32.ofInt 2 * Int32.ofInt 0).toNatClampNeg 0).toInt ≠ (Int32.ofInt (-1)).toInt) := y_cif z
    rw [cm, cn] at y1
    have w := hK H (y_st (y_rf hr) hH (by repeat (first | exact w_nil | refine w_cons (Or.inl (y_m rfl)) ?_ | refine w_cons (Or.inr (by assumption)) ?_)) (by repeat (first | exact w_nil | refine w_cons (Or.inl (y_m rfl)) ?_ | refine w_cons (Or.inr (by assumption)) ?_)))
    rw [decide_eq_true (show y_N fr 0 = -1 from Decidable.not_not.mp y1)] at w
    exact w
theorem c_first10 (n0 : 0 ≤ nd.toInt) (n10 : nd.toInt ≤ 10) (s : tx_s nd h sg t 0) {fr : List Int32} (gf : w_a h 87 = some (0, .inl fr)) (hf0 : y_N fr 0 = -1) (hf1 : y_N fr 1 = -1) (yes : ∀ (q k : Nat) (H : aH) (rel : Int32) (fr' : List Int32), y_fr h H [1538, 10882] [87, 88, 89, 90, 91] → tx_s nd H sg t (q + 1) → pr_tm (y_N sg) t nd.toInt 0 = (true, q, k) → w_f H 10882 = some (.int rel) → w_a H 87 = some (0, .inl fr') → ((pr_k (y_N sg) t q = 126 ∧ k = 1) ∧ rel.toInt = 126) ∨ (¬ (pr_k (y_N sg) t q = 126 ∧ k = 1) ∧ (pr_k (y_N sg) t q = 61 ∨ pr_k (y_N sg) t q = 60 ∨ pr_k (y_N sg) t q = 62) ∧ rel.toInt ≠ 126) → K0 (some (.int (y_01 true))) H C S) (no : ∀ (q : Nat) (H : aH), y_fr h H [1538, 10882] [87, 88, 89, 90, 91] → tx_s nd H sg t q → pr_sy (y_N sg) t nd.toInt = (false, q) → K0 (some (.int (y_01 false))) H C S) : aOK s_P X (d + 5) a_m80 0 [some (.ref 14), some (.ref 87), none, none] [] h C S K0 := by
  have hr := (tx_s_hr s).1
  have c126 : ((Int8.ofInt 126).toInt32).toInt = 126 := by decide
  have c61 : ((Int8.ofInt 61).toInt32).toInt = 61 := by decide
  have c60 : ((Int8.ofInt 60).toInt32).toInt = 60 := by decide
  have c62 : ((Int8.ofInt 62).toInt32).toInt = 62 := by decide
  have cn : (Int32.ofInt (-1)).toInt = -1 := by decide
  have T70 : ∀ {G : aH} {q k : Nat} {cI : Int32} {p3 : Option Value} {fr' : List Int32}, y_fr h G [1538, 10882] [87, 88, 89, 90, 91] → tx_s nd G sg t q → q < t → pr_tm (y_N sg) t nd.toInt 0 = (true, q, k) → w_a G 87 = some (0, .inl fr') → cI.toInt = pr_k (y_N sg) t q → 0 ≤ cI.toInt → cI.toInt ≤ 65535 → ((pr_k (y_N sg) t q = 126 ∧ k = 1) ∨ (¬ (pr_k (y_N sg) t q = 126 ∧ k = 1) ∧ (pr_k (y_N sg) t q = 61 ∨ pr_k (y_N sg) t q = 60 ∨ pr_k (y_N sg) t q = 62))) → aOK s_P X (d + 5) a_m80 70 [some (.ref 14), some (.ref 87), some (.int cI), p3] [] G C S K0 := by
    intro G q k cI p3 fr' e s2 qt ht g2 hc c0 c65 hw
    obtain ⟨toJ, atJ, -, b1, b2, b3, b4, b5, b6, -, t40⟩ := id s2
    have inc : (atJ + Int32.ofInt 1).toInt = ((q + 1 : Nat) : Int) := by rw [y_inc (by omega), b5]; rfl
    refine w_go z_hl [] [] 40 e.1 ?_
    refine ⟨y_fitC c0 c65, y_zini c0 c65, ?_⟩
    intro x hx _ _
    obtain rfl := y_fi b4 hx
    refine ⟨rfl, y_zini (by show 0 ≤ (atJ + Int32.ofInt 1).toInt; omega) (by show (atJ + Int32.ofInt 1).toInt ≤ 40; omega), by decide, fun H hH => ?_⟩
    have f : y_fr G H [1538, 10882] [] := y_st (y_mo (y_rf e.1) rfl rfl) hH (by repeat (first | exact w_nil | refine w_cons (Or.inl (y_m rfl)) ?_ | refine w_cons (Or.inr (by assumption)) ?_)) (by repeat (first | exact w_nil | refine w_cons (Or.inl (y_m rfl)) ?_ | refine w_cons (Or.inr (by assumption)) ?_))
    have s3 : tx_s nd H sg t (q + 1) := ⟨toJ, _, f.1, (y_ae f rfl).trans b1, (y_fe f rfl).trans b2, b3, hH.2.1 1538 _ rfl, inc, (y_fe f rfl).trans b6, by omega, t40⟩
    refine yes q k H cI fr' (y_sq e f rfl rfl) s3 ht (hH.2.1 10882 _ rfl) ((y_ae f rfl).trans g2) ?_
    rcases hw with w | ⟨w, w2⟩
    · exact Or.inl ⟨w, by rw [hc]; exact w.1⟩
    · refine Or.inr ⟨w, w2, ?_⟩
      rw [hc]
      rcases w2 with w3 | w3 | w3
      · omega
      · omega
      · omega
  have T45 : ∀ {G : aH} {q k : Nat} {cI : Int32} {fr' : List Int32} (b : Bool), y_fr h G [1538, 10882] [87, 88, 89, 90, 91] → tx_s nd G sg t q → pr_tm (y_N sg) t nd.toInt 0 = (true, q, k) → w_a G 87 = some (0, .inl fr') → cI.toInt = pr_k (y_N sg) t q → 0 ≤ cI.toInt → cI.toInt ≤ 65535 → (b = true → pr_k (y_N sg) t q = 126 ∧ k = 1) → (b = false → ¬ (pr_k (y_N sg) t q = 126 ∧ k = 1)) → aOK s_P X (d + 5) a_m80 45 [some (.ref 14), some (.ref 87), some (.int cI), none] [.int (y_01 b)] G C S K0 := by
    intro G q k cI fr' b e s2 ht g2 hc c0 c65 hy hn
    have f0 : y_fr G G [] [] := y_rf e.1
    have go : ∀ {H : aH} {p3 : Option Value}, y_fr G H [] [] → q < t → ((pr_k (y_N sg) t q = 126 ∧ k = 1) ∨ (¬ (pr_k (y_N sg) t q = 126 ∧ k = 1) ∧ (pr_k (y_N sg) t q = 61 ∨ pr_k (y_N sg) t q = 60 ∨ pr_k (y_N sg) t q = 62))) → aOK s_P X (d + 5) a_m80 70 [some (.ref 14), some (.ref 87), some (.int cI), p3] [] H C S K0 := fun f qt w => T70 (y_sq e f rfl rfl) (tx_s_fr s2 f rfl rfl) qt ht ((y_ae f rfl).trans g2) hc c0 c65 w
    have q61 : cI.toInt = 61 → ¬ (pr_k (y_N sg) t q = 126 ∧ k = 1) := fun z w => by have := w.1; omega
    have q60 : cI.toInt = 60 → ¬ (pr_k (y_N sg) t q = 126 ∧ k = 1) := fun z w => by have := w.1; omega
    have q62 : cI.toInt = 62 → ¬ (pr_k (y_N sg) t q = 126 ∧ k = 1) := fun z w => by have := w.1; omega
    cases b with
    | true =>
      refine w_go z_hl [70] [] 40 e.1 ?_
      refine ⟨fun z => fun H hH => ?_, fun z => ⟨fun z2 => fun H hH => ?_, fun z2 => ⟨fun z3 => fun H hH => ?_, fun z3 => ⟨fun _ => fun H hH => ?_, fun z4 => absurd z4 (by decide)⟩⟩⟩⟩
      · have y1 : cI.toInt = ((Int8.ofInt 61).toInt32).toInt := (y_ci .eq _ _).mp z
        rw [c61] at y1
        exact go (y_st f0 hH (by repeat (first | exact w_nil | refine w_cons (Or.inl (y_m rfl)) ?_ | refine w_cons (Or.inr (by assumption)) ?_)) (by repeat (first | exact w_nil | refine w_cons (Or.inl (y_m rfl)) ?_ | refine w_cons (Or.inr (by assumption)) ?_))) (pr_k_t (c := 61) (by decide) (hc.symm.trans y1)) (Or.inr ⟨q61 y1, Or.inl (hc.symm.trans y1)⟩)
      · have y1 : cI.toInt = ((Int8.ofInt 60).toInt32).toInt := (y_ci .eq _ _).mp z2
        rw [c60] at y1
        exact go (y_st f0 hH (by repeat (first | exact w_nil | refine w_cons (Or.inl (y_m rfl)) ?_ | refine w_cons (Or.inr (by assumption)) ?_)) (by repeat (first | exact w_nil | refine w_cons (Or.inl (y_m rfl)) ?_ | refine w_cons (Or.inr (by assumption)) ?_))) (pr_k_t (c := 60) (by decide) (hc.symm.trans y1)) (Or.inr ⟨q60 y1, Or.inr (Or.inl (hc.symm.trans y1))⟩)
      · have y1 : cI.toInt = ((Int8.ofInt 62).toInt32).toInt := (y_ci .eq _ _).mp z3
        rw [c62] at y1
        exact go (y_st f0 hH (by repeat (first | exact w_nil | refine w_cons (Or.inl (y_m rfl)) ?_ | refine w_cons (Or.inr (by assumption)) ?_)) (by repeat (first | exact w_nil | refine w_cons (Or.inl (y_m rfl)) ?_ | refine w_cons (Or.inr (by assumption)) ?_))) (pr_k_t (c := 62) (by decide) (hc.symm.trans y1)) (Or.inr ⟨q62 y1, Or.inr (Or.inr (hc.symm.trans y1))⟩)
      · exact go (y_st f0 hH (by repeat (first | exact w_nil | refine w_cons (Or.inl (y_m rfl)) ?_ | refine w_cons (Or.inr (by assumption)) ?_)) (by repeat (first | exact w_nil | refine w_cons (Or.inl (y_m rfl)) ?_ | refine w_cons (Or.inr (by assumption)) ?_))) (pr_k_t (c := 126) (by decide) (hy rfl).1) (Or.inl (hy rfl))
    | false =>
      refine w_go z_hl [70] [] 40 e.1 ?_
      refine ⟨fun z => fun H hH => ?_, fun z => ⟨fun z2 => fun H hH => ?_, fun z2 => ⟨fun z3 => fun H hH => ?_, fun z3 => ⟨fun z4 => absurd z4 (by decide), fun _ => ⟨by decide, fun H hH => ?_⟩⟩⟩⟩⟩
      · have y1 : cI.toInt = ((Int8.ofInt 61).toInt32).toInt := (y_ci .eq _ _).mp z
        rw [c61] at y1
        exact go (y_st f0 hH (by repeat (first | exact w_nil | refine w_cons (Or.inl (y_m rfl)) ?_ | refine w_cons (Or.inr (by assumption)) ?_)) (by repeat (first | exact w_nil | refine w_cons (Or.inl (y_m rfl)) ?_ | refine w_cons (Or.inr (by assumption)) ?_))) (pr_k_t (c := 61) (by decide) (hc.symm.trans y1)) (Or.inr ⟨q61 y1, Or.inl (hc.symm.trans y1)⟩)
      · have y1 : cI.toInt = ((Int8.ofInt 60).toInt32).toInt := (y_ci .eq _ _).mp z2
        rw [c60] at y1
        exact go (y_st f0 hH (by repeat (first | exact w_nil | refine w_cons (Or.inl (y_m rfl)) ?_ | refine w_cons (Or.inr (by assumption)) ?_)) (by repeat (first | exact w_nil | refine w_cons (Or.inl (y_m rfl)) ?_ | refine w_cons (Or.inr (by assumption)) ?_))) (pr_k_t (c := 60) (by decide) (hc.symm.trans y1)) (Or.inr ⟨q60 y1, Or.inr (Or.inl (hc.symm.trans y1))⟩)
      · have y1 : cI.toInt = ((Int8.ofInt 62).toInt32).toInt := (y_ci .eq _ _).mp z3
        rw [c62] at y1
        exact go (y_st f0 hH (by repeat (first | exact w_nil | refine w_cons (Or.inl (y_m rfl)) ?_ | refine w_cons (Or.inr (by assumption)) ?_)) (by repeat (first | exact w_nil | refine w_cons (Or.inl (y_m rfl)) ?_ | refine w_cons (Or.inr (by assumption)) ?_))) (pr_k_t (c := 62) (by decide) (hc.symm.trans y1)) (Or.inr ⟨q62 y1, Or.inr (Or.inr (hc.symm.trans y1))⟩)
      · have y1 : ¬ (cI.toInt = ((Int8.ofInt 61).toInt32).toInt) := y_cif z
        have y2 : ¬ (cI.toInt = ((Int8.ofInt 60).toInt32).toInt) := y_cif z2
        have y3 : ¬ (cI.toInt = ((Int8.ofInt 62).toInt32).toInt) := y_cif z3
        rw [c61, hc] at y1
        rw [c60, hc] at y2
        rw [c62, hc] at y3
        have f : y_fr G H [] [] := y_st f0 hH (by repeat (first | exact w_nil | refine w_cons (Or.inl (y_m rfl)) ?_ | refine w_cons (Or.inr (by assumption)) ?_)) (by repeat (first | exact w_nil | refine w_cons (Or.inl (y_m rfl)) ?_ | refine w_cons (Or.inr (by assumption)) ?_))
        exact no q H (y_sq e f rfl rfl) (tx_s_fr s2 f rfl rfl) (pr_sy_x ht (hn rfl) (fun w => by rcases w with w | w | w; exact y1 w; exact y2 w; exact y3 w))
  have T27 : ∀ {G : aH} {q k : Nat} {cI : Int32} {fr' : List Int32} (b : Bool), y_fr h G [1538, 10882] [87, 88, 89, 90, 91] → tx_s nd G sg t q → pr_tm (y_N sg) t nd.toInt 0 = (true, q, k) → w_a G 87 = some (0, .inl fr') → cI.toInt = pr_k (y_N sg) t q → 0 ≤ cI.toInt → cI.toInt ≤ 65535 → pr_k (y_N sg) t q = 126 → (b = true → k = 0) → (b = false → k ≠ 0 ∧ (k = 1 → y_N fr' 1 = -1) ∧ (k ≠ 1 → 0 ≤ y_N fr' 1)) → aOK s_P X (d + 5) a_m80 27 [some (.ref 14), some (.ref 87), some (.int cI), none] [.int (y_01 b)] G C S K0 := by
    intro G q k cI fr' b e s2 ht g2 hc c0 c65 h126 hy hn
    have f0 : y_fr G G [] [] := y_rf e.1
    cases b with
    | true =>
      refine w_go z_hl [45] [] 30 e.1 ?_
      refine ⟨fun _ => fun H hH => ?_, fun z => absurd z (by decide)⟩
      have f : y_fr G H [] [] := y_st f0 hH (by repeat (first | exact w_nil | refine w_cons (Or.inl (y_m rfl)) ?_ | refine w_cons (Or.inr (by assumption)) ?_)) (by repeat (first | exact w_nil | refine w_cons (Or.inl (y_m rfl)) ?_ | refine w_cons (Or.inr (by assumption)) ?_))
      exact T45 false (y_sq e f rfl rfl) (tx_s_fr s2 f rfl rfl) ht ((y_ae f rfl).trans g2) hc c0 c65 (fun w => absurd w (by decide)) (fun _ w => by have := hy rfl; omega)
    | false =>
      obtain ⟨k0, k1, k2⟩ := hn rfl
      have i1 : (Int32.ofInt 1).toInt = ((1 : Nat) : Int) := by decide
      have ci1 := y_cl1 i1
      refine w_go z_hl [45] [] 30 e.1 ?_
      refine ⟨fun z => absurd z (by decide), fun _ => ⟨⟨by decide, by decide⟩, fun l hl len bb => ?_⟩⟩
      obtain rfl := y_ai g2 hl
      refine ⟨fun z => fun H hH => ?_, fun z => fun H hH => ?_⟩
      · have y1 : (fr'.getD (Int32.ofInt 1).toNatClampNeg 0).toInt ≠ (Int32.ofInt (-1)).toInt := (y_ci .ne _ _).mp z
        rw [ci1, cn] at y1
        have y2 : y_N fr' 1 ≠ -1 := y1
        have f : y_fr G H [] [] := y_st f0 hH (by repeat (first | exact w_nil | refine w_cons (Or.inl (y_m rfl)) ?_ | refine w_cons (Or.inr (by assumption)) ?_)) (by repeat (first | exact w_nil | refine w_cons (Or.inl (y_m rfl)) ?_ | refine w_cons (Or.inr (by assumption)) ?_))
        exact T45 false (y_sq e f rfl rfl) (tx_s_fr s2 f rfl rfl) ht ((y_ae f rfl).trans g2) hc c0 c65 (fun w => absurd w (by decide)) (fun _ w => y2 (k1 w.2))
      · have y1 : ¬ ((fr'.getD (Int32.ofInt 1).toNatClampNeg 0).toInt ≠ (Int32.ofInt (-1)).toInt) := y_cif z
        rw [ci1, cn] at y1
        have y2 : y_N fr' 1 = -1 := Decidable.not_not.mp y1
        have f : y_fr G H [] [] := y_st f0 hH (by repeat (first | exact w_nil | refine w_cons (Or.inl (y_m rfl)) ?_ | refine w_cons (Or.inr (by assumption)) ?_)) (by repeat (first | exact w_nil | refine w_cons (Or.inl (y_m rfl)) ?_ | refine w_cons (Or.inr (by assumption)) ?_))
        refine T45 true (y_sq e f rfl rfl) (tx_s_fr s2 f rfl rfl) ht ((y_ae f rfl).trans g2) hc c0 c65 (fun _ => ⟨h126, ?_⟩) (fun w => absurd w (by decide))
        rcases Nat.decEq k 1 with w | w
        · have := k2 w
          omega
        · exact w
  have T15 : ∀ {G : aH} {q k : Nat} {cI : Int32} {fr' : List Int32}, y_fr h G [1538, 10882] [87, 88, 89, 90, 91] → tx_s nd G sg t q → pr_tm (y_N sg) t nd.toInt 0 = (true, q, k) → w_a G 87 = some (0, .inl fr') → (k = 0 ∧ fr' = fr) ∨ tx_f fr fr' 0 k → cI.toInt = pr_k (y_N sg) t q → 0 ≤ cI.toInt → cI.toInt ≤ 65535 → aOK s_P X (d + 5) a_m80 15 [some (.ref 14), some (.ref 87), none, none] [.int cI] G C S K0 := by
    intro G q k cI fr' e s2 ht g2 hf hc c0 c65
    have f0 : y_fr G G [] [] := y_rf e.1
    refine w_go z_hl [45] [89] 30 e.1 ?_
    refine ⟨fun z => fun H hH => ?_, fun z => fun H hH => ?_⟩
    · have y1 : cI.toInt ≠ ((Int8.ofInt 126).toInt32).toInt := (y_ci .ne _ _).mp z
      rw [c126, hc] at y1
      have f : y_fr G H [] [] := y_st f0 hH (by repeat (first | exact w_nil | refine w_cons (Or.inl (y_m rfl)) ?_ | refine w_cons (Or.inr (by assumption)) ?_)) (by repeat (first | exact w_nil | refine w_cons (Or.inl (y_m rfl)) ?_ | refine w_cons (Or.inr (by assumption)) ?_))
      exact T45 false (y_sq e f rfl rfl) (tx_s_fr s2 f rfl rfl) ht ((y_ae f rfl).trans g2) hc c0 c65 (fun w => absurd w (by decide)) (fun _ w => y1 w.1)
    · have y1 : ¬ (cI.toInt ≠ ((Int8.ofInt 126).toInt32).toInt) := y_cif z
      rw [c126, hc] at y1
      have y2 : pr_k (y_N sg) t q = 126 := Decidable.not_not.mp y1
      have f : y_fr G H [] [] := y_st f0 hH (by repeat (first | exact w_nil | refine w_cons (Or.inl (y_m rfl)) ?_ | refine w_cons (Or.inr (by assumption)) ?_)) (by repeat (first | exact w_nil | refine w_cons (Or.inl (y_m rfl)) ?_ | refine w_cons (Or.inr (by assumption)) ?_))
      refine c_isNum10 f.1 ((y_ae f rfl).trans g2) (fun H2 f2 => ⟨fun n e => (by cases e), ?_⟩)
      have e3 := y_sq (y_sq e f rfl rfl) f2 rfl rfl
      have s3 := tx_s_fr (tx_s_fr s2 f rfl rfl) f2 rfl rfl
      have g3 := (y_ae f2 rfl).trans ((y_ae f rfl).trans g2)
      rcases hf with ⟨hf, hf'⟩ | ⟨hf, hg, hh, hi⟩
      · rw [decide_eq_true (show y_N fr' 0 = -1 by rw [hf']; exact hf0)]
        exact T27 true e3 s3 ht g3 hc c0 c65 y2 (fun _ => hf) (fun w => absurd w (by decide))
      · have hg' : 0 ≤ y_N fr' 0 := hg
        rw [decide_eq_false (show ¬ (y_N fr' 0 = -1) by omega)]
        refine T27 false e3 s3 ht g3 hc c0 c65 y2 (fun w => absurd w (by decide)) (fun _ => ⟨by omega, fun w => ?_, fun w => ?_⟩)
        · rw [hh w 1 (by decide)]
          exact hf1
        · exact (hi (by omega)).1
  have T6 : ∀ {G : aH} {q k : Nat} {fr' : List Int32} (b : Bool), y_fr h G [1538, 10882] [87, 88, 89, 90, 91] → tx_s nd G sg t q → pr_tm (y_N sg) t nd.toInt 0 = (b, q, k) → w_a G 87 = some (0, .inl fr') → (k = 0 ∧ fr' = fr) ∨ tx_f fr fr' 0 k → aOK s_P X (d + 5) a_m80 6 [some (.ref 14), some (.ref 87), none, none] [.int (y_01 b)] G C S K0 := by
    intro G q k fr' b e s2 ht g2 hf
    cases b with
    | true =>
      refine w_go z_hl [] [82] 30 e.1 ?_
      refine ⟨fun _ => fun H hH => ?_, fun z => absurd z (by decide)⟩
      have f : y_fr G H [] [] := y_st (y_rf e.1) hH (by repeat (first | exact w_nil | refine w_cons (Or.inl (y_m rfl)) ?_ | refine w_cons (Or.inr (by assumption)) ?_)) (by repeat (first | exact w_nil | refine w_cons (Or.inl (y_m rfl)) ?_ | refine w_cons (Or.inr (by assumption)) ?_))
      obtain ⟨sg', z1, z2, z3⟩ := w_arrI f.1 (o := 13) (t := 3) (n := 60) (lo := 0) (hi := 65535) (by decide) rfl
      have kb : 0 ≤ pr_k (y_N sg) t q ∧ pr_k (y_N sg) t q ≤ 65535 := by
        obtain ⟨-, -, -, b1, -, -, -, -, -, -, t40⟩ := tx_s_fr s2 f rfl rfl
        have e4 := w_a_at z1
        rw [b1] at e4
        obtain rfl : sg = sg' := by
          injection e4 with e5
          injection e5 with _ e6
          injection e6
        by_cases w : q < t
        · rw [pr_k_1 w]
          exact z3 _ (z_gd (0 : Int32) (show q < sg.length by omega))
        · rw [show pr_k (y_N sg) t q = 0 from if_neg w]
          decide
      refine c_lkT (tx_s_fr s2 f rfl rfl) (fun r H2 f2 er => ⟨fun n e => (by cases e), ?_⟩)
      exact T15 (y_sq (y_sq e f rfl rfl) f2 rfl rfl) (tx_s_fr (tx_s_fr s2 f rfl rfl) f2 rfl rfl) ht ((y_ae f2 rfl).trans ((y_ae f rfl).trans g2)) hf er (by omega) (by omega)
    | false =>
      refine w_go z_hl [] [82] 30 e.1 ?_
      refine ⟨fun z => absurd z (by decide), fun _ => ⟨by decide, fun H hH => ?_⟩⟩
      have f : y_fr G H [] [] := y_st (y_rf e.1) hH (by repeat (first | exact w_nil | refine w_cons (Or.inl (y_m rfl)) ?_ | refine w_cons (Or.inr (by assumption)) ?_)) (by repeat (first | exact w_nil | refine w_cons (Or.inl (y_m rfl)) ?_ | refine w_cons (Or.inr (by assumption)) ?_))
      exact no q H (y_sq e f rfl rfl) (tx_s_fr s2 f rfl rfl) (pr_sy_n ht)
  refine w_go z_hl [] [81] 20 hr ?_
  intro H hH
  have f : y_fr h H [] [] := y_st (y_rf hr) hH (by repeat (first | exact w_nil | refine w_cons (Or.inl (y_m rfl)) ?_ | refine w_cons (Or.inr (by assumption)) ?_)) (by repeat (first | exact w_nil | refine w_cons (Or.inl (y_m rfl)) ?_ | refine w_cons (Or.inr (by assumption)) ?_))
  refine c_tm10 (d := d) (sd := 0) n0 n10 (by decide) (by decide) (tx_s_fr s f rfl rfl) ((y_ae f rfl).trans gf) (fun b q k H2 fr' f2 s3 ht g3 hf => ⟨fun n e => (by cases e), ?_⟩)
  exact T6 b (y_sq (y_mo f rfl rfl) f2 rfl rfl) s3 ht g3 hf
theorem c_second10 (n0 : 0 ≤ nd.toInt) (n10 : nd.toInt ≤ 10) (s : tx_s nd h sg t p) {rel : Int32} (gr : w_f h 10882 = some (.int rel)) (hK : ∀ (b : Bool) (q k : Nat) (H : aH), y_fr h H [1538] [87, 88, 89, 90, 91] → tx_s nd H sg t q → (rel.toInt = 126 → pr_gv (y_N sg) t nd.toInt p = (b, q, k)) → (rel.toInt ≠ 126 → pr_tm (y_N sg) t nd.toInt p = (b, q, k)) → K0 (some (.int (y_01 b))) H C S) : aOK s_P X (d + 5) a_m90 0 [some (.ref 14), some (.ref 87)] [] h C S K0 := by
  have hr := (tx_s_hr s).1
  have c126 : ((Int8.ofInt 126).toInt32).toInt = 126 := by decide
  obtain ⟨fr, gf, -, -⟩ := c_arr hr (ob := 87) (n := 4) (lo := -1) (hi := 40) rfl
  have T22 : ∀ {G : aH} {b : Bool} {q k pc : Nat}, (pc = 13 ∨ pc = 22) → y_fr h G [1538] [87, 88, 89, 90, 91] → tx_s nd G sg t q → (rel.toInt = 126 → pr_gv (y_N sg) t nd.toInt p = (b, q, k)) → (rel.toInt ≠ 126 → pr_tm (y_N sg) t nd.toInt p = (b, q, k)) → aOK s_P X (d + 5) a_m90 pc [some (.ref 14), some (.ref 87)] [.int (y_01 b)] G C S K0 := by
    intro G b q k pc hpc e s2 h1 h2
    rcases hpc with rfl | rfl
    · refine w_go z_hl [] [] 20 e.1 ?_
      refine ⟨y_01b b, fun H hH => ?_⟩
      have f : y_fr G H [] [] := y_st (y_rf e.1) hH (by repeat (first | exact w_nil | refine w_cons (Or.inl (y_m rfl)) ?_ | refine w_cons (Or.inr (by assumption)) ?_)) (by repeat (first | exact w_nil | refine w_cons (Or.inl (y_m rfl)) ?_ | refine w_cons (Or.inr (by assumption)) ?_))
      exact hK b q k H (y_sq e f rfl rfl) (tx_s_fr s2 f rfl rfl) h1 h2
    · refine w_go z_hl [] [] 20 e.1 ?_
      refine ⟨y_01b b, fun H hH => ?_⟩
      have f : y_fr G H [] [] := y_st (y_rf e.1) hH (by repeat (first | exact w_nil | refine w_cons (Or.inl (y_m rfl)) ?_ | refine w_cons (Or.inr (by assumption)) ?_)) (by repeat (first | exact w_nil | refine w_cons (Or.inl (y_m rfl)) ?_ | refine w_cons (Or.inr (by assumption)) ?_))
      exact hK b q k H (y_sq e f rfl rfl) (tx_s_fr s2 f rfl rfl) h1 h2
  refine w_go z_hl [] [81, 86] 40 hr ?_
  intro x hx _ _
  obtain rfl := y_fi gr hx
  refine ⟨fun z => ⟨by decide, ⟨fun _ => fun H hH => ?_, fun z2 => absurd z2 (by decide)⟩⟩, fun z => ⟨by decide, ⟨fun z2 => absurd z2 (by decide), fun _ => fun H hH => ?_⟩⟩⟩
  · have y1 : rel.toInt ≠ ((Int8.ofInt 126).toInt32).toInt := (y_ci .ne _ _).mp z
    rw [c126] at y1
    have f : y_fr h H [] [] := y_st (y_rf hr) hH (by repeat (first | exact w_nil | refine w_cons (Or.inl (y_m rfl)) ?_ | refine w_cons (Or.inr (by assumption)) ?_)) (by repeat (first | exact w_nil | refine w_cons (Or.inl (y_m rfl)) ?_ | refine w_cons (Or.inr (by assumption)) ?_))
    refine c_tm10 (d := d) (sd := 1) n0 n10 (by decide) (by decide) (tx_s_fr s f rfl rfl) ((y_ae f rfl).trans gf) (fun b q k H2 fr' f2 s3 ht g3 hf => ⟨fun n e => (by cases e), ?_⟩)
    exact T22 (k := k) (Or.inr rfl) (y_sq (y_mo f rfl rfl) f2 rfl rfl) s3 (fun w => absurd w y1) (fun _ => ht)
  · have y1 : ¬ (rel.toInt ≠ ((Int8.ofInt 126).toInt32).toInt) := y_cif z
    rw [c126] at y1
    have f : y_fr h H [] [] := y_st (y_rf hr) hH (by repeat (first | exact w_nil | refine w_cons (Or.inl (y_m rfl)) ?_ | refine w_cons (Or.inr (by assumption)) ?_)) (by repeat (first | exact w_nil | refine w_cons (Or.inl (y_m rfl)) ?_ | refine w_cons (Or.inr (by assumption)) ?_))
    refine c_gv10 (d := d + 1) (sd := 1) n0 n10 (by decide) (by decide) (tx_s_fr s f rfl rfl) ((y_ae f rfl).trans gf) (fun b q k H2 fr' f2 s3 hg g3 hf => ⟨fun n e => (by cases e), ?_⟩)
    exact T22 (k := k) (Or.inl rfl) (y_sq (y_mo f rfl rfl) f2 rfl rfl) s3 (fun _ => hg) (fun w => absurd w y1)
end PFS10
end PT33idc
section PT33idd
/-! ===== v21: parse of the class with saying 10 (laid by wip/tools/mk21f.py) ===== -/
section PPS10
variable {X : aX} {C S d : Nat} {K0 : Option Value → aH → Nat → Nat → Prop} {sg : List Int32} {nd len : Int32} {h : aH}
theorem c_parse10 (hr : w_hr z_D h) (n0 : 0 ≤ nd.toInt) (n10 : nd.toInt ≤ 10) (l0 : 0 ≤ len.toInt) (l60 : len.toInt ≤ 60) (gs : w_a h 13 = some (3, .inl sg)) (hK : ∀ (r : Int32) (H : aH), y_fr h H [1538, 1539, 1540, 10881, 10882] [86, 87, 88, 89, 90, 91] → r.toInt = pr_wr (y_N sg) len.toInt.toNat nd.toInt → (pr_sy (y_N sg) (pr_t len.toInt.toNat) nd.toInt).2 ≤ pr_t len.toInt.toNat → K0 (some (.int r)) H C S) : aOK s_P X (d + 6) a_m78 0 [some (.ref 14), some (.int len), some (.int nd), some (.ref 87), none] [] h C S K0 := by
  have c40 : ((Int8.ofInt 40).toInt32).toInt = 40 := by decide
  have tl := pr_t_le (len := len.toInt.toNat)
  -- the end: whole or not
  have T56 : ∀ {G : aH} {q : Nat} (b : Bool), y_fr h G [1538, 1539, 1540, 10881, 10882] [87, 88, 89, 90, 91] → tx_s nd G sg (pr_t len.toInt.toNat) q → (pr_sy (y_N sg) (pr_t len.toInt.toNat) nd.toInt).2 = q → pr_wh (y_N sg) (pr_t len.toInt.toNat) nd.toInt = b → aOK s_P X (d + 6) a_m78 56 [some (.ref 14), some (.int len), some (.int nd), some (.ref 87), none] [.int (y_01 b)] G C S K0 := by
    intro G q b e s hq hb
    obtain ⟨toI, atI, -, a1, a2, a3, a4, a5, a6, pt, t40⟩ := id s
    have f0 : y_fr G G [] [] := y_rf e.1
    have out : ∀ {H : aH} {r : Int32}, y_fr G H [] [] → r.toInt = pr_wr (y_N sg) len.toInt.toNat nd.toInt → K0 (some (.int r)) H C S := fun f er => hK _ _ (y_mo (y_sq e f rfl rfl) rfl rfl) er (by omega)
    cases b with
    | true =>
      have ew : pr_wr (y_N sg) len.toInt.toNat nd.toInt = if 40 < len.toInt.toNat then 40 else -1 := if_pos hb
      have T97 : ∀ {H : aH}, y_fr G H [] [] → ¬ (40 < len.toInt.toNat) → aOK s_P X (d + 6) a_m78 97 [some (.ref 14), some (.int len), some (.int nd), some (.ref 87), some (.int (y_01 true))] [] H C S K0 := by
        intro H f nl
        refine w_go z_hl [111] [] 30 f.1 ?_
        intro x hx _ _
        obtain rfl := y_fi ((y_fe f rfl).trans a2) hx
        intro H2 h2
        have f2 : y_fr G H2 [] [] := y_st f h2 (by repeat (first | exact w_nil | refine w_cons (Or.inl (y_m rfl)) ?_ | refine w_cons (Or.inr (by assumption)) ?_)) (by repeat (first | exact w_nil | refine w_cons (Or.inl (y_m rfl)) ?_ | refine w_cons (Or.inr (by assumption)) ?_))
        refine y_copy3 (o := 13) (dd := 86) (m := pr_t len.toInt.toNat) (n1 := 60) (n2 := 40) f2.1 a3 rfl rfl (by omega) (by omega) rfl rfl (by decide) (fun H3 f3 => ?_)
        show aOK s_P X (d + 6) a_m78 114 [some (.ref 14), some (.int len), some (.int nd), some (.ref 87), some (.int (y_01 true))] [] H3 C S K0
        have f4 : y_fr G H3 [] [86] := y_sq (y_mo f2 rfl rfl) f3 rfl rfl
        refine w_go z_hl [] [] 30 f3.1 ?_
        intro x hx x0 x40
        obtain rfl := y_fi ((y_fe f4 rfl).trans a2) hx
        refine ⟨rfl, y_zini x0 x40, fun H5 h5 => ?_⟩
        have f5 : y_fr H3 H5 [10881] [] := y_st (y_mo (y_rf f3.1) rfl rfl) h5 (by repeat (first | exact w_nil | refine w_cons (Or.inl (y_m rfl)) ?_ | refine w_cons (Or.inr (by assumption)) ?_)) (by repeat (first | exact w_nil | refine w_cons (Or.inl (y_m rfl)) ?_ | refine w_cons (Or.inr (by assumption)) ?_))
        refine hK _ H5 (y_sq (y_sq (y_mo e rfl rfl) f4 rfl rfl) f5 rfl rfl) ?_ (by omega)
        rw [ew, if_neg nl]
        decide
      refine w_go z_hl [97] [] 40 e.1 ?_
      refine ⟨fun _ => ⟨fun z => absurd z (by decide), fun _ => ?_⟩, fun z => absurd z (by decide)⟩
      intro x hx _ _
      obtain rfl := y_fi a2 hx
      refine ⟨fun z => fun H hH => ?_, fun z => fun H hH => ?_⟩
      · have y1 : len.toInt ≤ toI.toInt := (y_ci .le _ _).mp z
        exact T97 (y_st f0 hH (by repeat (first | exact w_nil | refine w_cons (Or.inl (y_m rfl)) ?_ | refine w_cons (Or.inr (by assumption)) ?_)) (by repeat (first | exact w_nil | refine w_cons (Or.inl (y_m rfl)) ?_ | refine w_cons (Or.inr (by assumption)) ?_))) (by omega)
      · have y1 : ¬ (len.toInt ≤ toI.toInt) := y_cif z
        have lt : 40 < len.toInt.toNat := by
          rcases Nat.lt_or_ge 40 len.toInt.toNat with w | w
          · exact w
          · have et : pr_t len.toInt.toNat = len.toInt.toNat := if_neg (by omega)
            omega
        have et : pr_t len.toInt.toNat = 40 := if_pos lt
        exact out (y_st f0 hH (by repeat (first | exact w_nil | refine w_cons (Or.inl (y_m rfl)) ?_ | refine w_cons (Or.inr (by assumption)) ?_)) (by repeat (first | exact w_nil | refine w_cons (Or.inl (y_m rfl)) ?_ | refine w_cons (Or.inr (by assumption)) ?_))) (by rw [ew, if_pos lt]; omega)
    | false =>
      have ew : pr_wr (y_N sg) len.toInt.toNat nd.toInt = (q : Nat) := by
        unfold pr_wr
        rw [if_neg (by rw [hb]; decide), hq]
      refine w_go z_hl [97] [] 40 e.1 ?_
      refine ⟨fun z => absurd z (by decide), fun _ => ?_⟩
      intro x hx _ _
      obtain rfl := y_fi a4 hx
      intro y hy _ _
      obtain rfl := y_fi a2 hy
      refine ⟨fun z => ⟨fun _ => fun H hH => ?_, fun z2 => absurd z2 (by decide)⟩, fun z => fun H hH => ?_⟩
      · have y1 : toI.toInt ≤ atI.toInt := (y_ci .ge _ _).mp z
        exact out (y_st f0 hH (by repeat (first | exact w_nil | refine w_cons (Or.inl (y_m rfl)) ?_ | refine w_cons (Or.inr (by assumption)) ?_)) (by repeat (first | exact w_nil | refine w_cons (Or.inl (y_m rfl)) ?_ | refine w_cons (Or.inr (by assumption)) ?_))) (by rw [ew]; omega)
      · exact out (y_st f0 hH (by repeat (first | exact w_nil | refine w_cons (Or.inl (y_m rfl)) ?_ | refine w_cons (Or.inr (by assumption)) ?_)) (by repeat (first | exact w_nil | refine w_cons (Or.inl (y_m rfl)) ?_ | refine w_cons (Or.inr (by assumption)) ?_))) (by rw [ew]; exact a5)
  have T37 : ∀ {G : aH} {q : Nat} (b : Bool), y_fr h G [1538, 1539, 1540, 10881, 10882] [87, 88, 89, 90, 91] → tx_s nd G sg (pr_t len.toInt.toNat) q → pr_sy (y_N sg) (pr_t len.toInt.toNat) nd.toInt = (b, q) → aOK s_P X (d + 6) a_m78 37 [some (.ref 14), some (.int len), some (.int nd), some (.ref 87), none] [.int (y_01 b)] G C S K0 := by
    intro G q b e s hs
    obtain ⟨toI, atI, -, a1, a2, a3, a4, a5, a6, pt, t40⟩ := id s
    have f0 : y_fr G G [] [] := y_rf e.1
    cases b with
    | true =>
      refine w_go z_hl [56] [] 40 e.1 ?_
      refine ⟨fun z => absurd z (by decide), fun _ => ?_⟩
      intro x hx _ _
      obtain rfl := y_fi a4 hx
      intro y hy _ _
      obtain rfl := y_fi a2 hy
      refine ⟨fun z => fun H hH => ?_, fun z => fun H hH => ?_⟩
      · have y1 : atI.toInt ≠ toI.toInt := (y_ci .ne _ _).mp z
        have f : y_fr G H [] [] := y_st f0 hH (by repeat (first | exact w_nil | refine w_cons (Or.inl (y_m rfl)) ?_ | refine w_cons (Or.inr (by assumption)) ?_)) (by repeat (first | exact w_nil | refine w_cons (Or.inl (y_m rfl)) ?_ | refine w_cons (Or.inr (by assumption)) ?_))
        refine T56 false (y_sq e f rfl rfl) (tx_s_fr s f rfl rfl) (by rw [hs]) ?_
        unfold pr_wh
        rw [hs]
        show (true && decide (q = pr_t len.toInt.toNat)) = false
        rw [decide_eq_false (by omega)]
        rfl
      · have y1 : ¬ (atI.toInt ≠ toI.toInt) := y_cif z
        have f : y_fr G H [] [] := y_st f0 hH (by repeat (first | exact w_nil | refine w_cons (Or.inl (y_m rfl)) ?_ | refine w_cons (Or.inr (by assumption)) ?_)) (by repeat (first | exact w_nil | refine w_cons (Or.inl (y_m rfl)) ?_ | refine w_cons (Or.inr (by assumption)) ?_))
        refine T56 true (y_sq e f rfl rfl) (tx_s_fr s f rfl rfl) (by rw [hs]) ?_
        unfold pr_wh
        rw [hs]
        show (true && decide (q = pr_t len.toInt.toNat)) = true
        rw [decide_eq_true (by omega)]
        rfl
    | false =>
      refine w_go z_hl [56] [] 40 e.1 ?_
      refine ⟨fun _ => fun H hH => ?_, fun z => absurd z (by decide)⟩
      have f : y_fr G H [] [] := y_st f0 hH (by repeat (first | exact w_nil | refine w_cons (Or.inl (y_m rfl)) ?_ | refine w_cons (Or.inr (by assumption)) ?_)) (by repeat (first | exact w_nil | refine w_cons (Or.inl (y_m rfl)) ?_ | refine w_cons (Or.inr (by assumption)) ?_))
      refine T56 false (y_sq e f rfl rfl) (tx_s_fr s f rfl rfl) (by rw [hs]) ?_
      unfold pr_wh
      rw [hs]
      rfl
  have T29n : ∀ {G : aH} {q : Nat}, y_fr h G [1538, 1539, 1540, 10881, 10882] [87, 88, 89, 90, 91] → tx_s nd G sg (pr_t len.toInt.toNat) q → pr_sy (y_N sg) (pr_t len.toInt.toNat) nd.toInt = (false, q) → aOK s_P X (d + 6) a_m78 29 [some (.ref 14), some (.int len), some (.int nd), some (.ref 87), none] [.int (y_01 false)] G C S K0 := by
    intro G q e s hs
    refine w_go z_hl [56] [] 40 e.1 ?_
    refine ⟨fun _ => fun H hH => ?_, fun z => absurd z (by decide)⟩
    have f : y_fr G H [] [] := y_st (y_rf e.1) hH (by repeat (first | exact w_nil | refine w_cons (Or.inl (y_m rfl)) ?_ | refine w_cons (Or.inr (by assumption)) ?_)) (by repeat (first | exact w_nil | refine w_cons (Or.inl (y_m rfl)) ?_ | refine w_cons (Or.inr (by assumption)) ?_))
    refine T56 false (y_sq e f rfl rfl) (tx_s_fr s f rfl rfl) (by rw [hs]) ?_
    unfold pr_wh
    rw [hs]
    rfl
  have T29 : ∀ {G : aH} {q k : Nat} {rel : Int32}, y_fr h G [1538, 1539, 1540, 10881, 10882] [87, 88, 89, 90, 91] → tx_s nd G sg (pr_t len.toInt.toNat) (q + 1) → pr_tm (y_N sg) (pr_t len.toInt.toNat) nd.toInt 0 = (true, q, k) → w_f G 10882 = some (.int rel) → ((pr_k (y_N sg) (pr_t len.toInt.toNat) q = 126 ∧ k = 1) ∧ rel.toInt = 126) ∨ (¬ (pr_k (y_N sg) (pr_t len.toInt.toNat) q = 126 ∧ k = 1) ∧ (pr_k (y_N sg) (pr_t len.toInt.toNat) q = 61 ∨ pr_k (y_N sg) (pr_t len.toInt.toNat) q = 60 ∨ pr_k (y_N sg) (pr_t len.toInt.toNat) q = 62) ∧ rel.toInt ≠ 126) → aOK s_P X (d + 6) a_m78 29 [some (.ref 14), some (.int len), some (.int nd), some (.ref 87), none] [.int (y_01 true)] G C S K0 := by
    intro G q k rel e s ht gr hw
    refine w_go z_hl [56] [90] 40 e.1 ?_
    refine ⟨fun z => absurd z (by decide), fun _ => fun H hH => ?_⟩
    have f : y_fr G H [] [] := y_st (y_rf e.1) hH (by repeat (first | exact w_nil | refine w_cons (Or.inl (y_m rfl)) ?_ | refine w_cons (Or.inr (by assumption)) ?_)) (by repeat (first | exact w_nil | refine w_cons (Or.inl (y_m rfl)) ?_ | refine w_cons (Or.inr (by assumption)) ?_))
    refine c_second10 (d := d) n0 n10 (tx_s_fr s f rfl rfl) ((y_fe f rfl).trans gr) (fun b r k2 H2 f2 s3 h1 h2 => ⟨fun n e => (by cases e), ?_⟩)
    refine T37 b (y_sq (y_sq e f rfl rfl) f2 rfl rfl) s3 ?_
    rcases hw with ⟨⟨w1, w2⟩, w3⟩ | ⟨w1, w2, w3⟩
    · rw [w2] at ht
      exact pr_sy_b ht w1 (h1 w3)
    · exact pr_sy_c ht w1 w2 (h2 w3)
  have T24 : ∀ {G : aH} {fr : List Int32}, y_fr h G [1538, 1539, 1540, 10881, 10882] [87, 88, 89, 90, 91] → tx_s nd G sg (pr_t len.toInt.toNat) 0 → w_a G 87 = some (0, .inl fr) → (∀ j, j < 4 → y_N fr j = -1) → aOK s_P X (d + 6) a_m78 24 [some (.ref 14), some (.int len), some (.int nd), some (.ref 87), none] [] G C S K0 := by
    intro G fr e s g hf
    refine w_go z_hl [56] [80] 40 e.1 ?_
    intro H hH
    have f : y_fr G H [] [] := y_st (y_rf e.1) hH (by repeat (first | exact w_nil | refine w_cons (Or.inl (y_m rfl)) ?_ | refine w_cons (Or.inr (by assumption)) ?_)) (by repeat (first | exact w_nil | refine w_cons (Or.inl (y_m rfl)) ?_ | refine w_cons (Or.inr (by assumption)) ?_))
    refine c_first10 (d := d) n0 n10 (tx_s_fr s f rfl rfl) ((y_ae f rfl).trans g) (hf 0 (by decide)) (hf 1 (by decide)) (fun q k H2 rel fr' f2 s3 ht gr g3 hw => ⟨fun n e => (by cases e), ?_⟩) (fun q H2 f2 s3 hs => ⟨fun n e => (by cases e), ?_⟩)
    · exact T29 (y_sq (y_sq e f rfl rfl) f2 rfl rfl) s3 ht gr hw
    · exact T29n (y_sq (y_sq e f rfl rfl) f2 rfl rfl) s3 hs
  refine w_go z_hl [56] [79] 60 hr ?_
  refine ⟨rfl, y_zini (by decide) (by decide), ?_⟩
  refine ⟨fun z => ⟨rfl, y_zini (by decide) (by decide), rfl, y_zini n0 n10, fun H hH => ?_⟩, fun z => ⟨rfl, y_zini l0 ?_, rfl, y_zini n0 n10, fun H hH => ?_⟩⟩
  · have y1 : ((Int8.ofInt 40).toInt32).toInt < len.toInt := (y_ci .gt _ _).mp z
    rw [c40] at y1
    have et : pr_t len.toInt.toNat = 40 := if_pos (by omega)
    have f : y_fr h H [1538, 1539, 1540] [] := y_st (y_mo (y_rf hr) rfl rfl) hH (by repeat (first | exact w_nil | refine w_cons (Or.inl (y_m rfl)) ?_ | refine w_cons (Or.inr (by assumption)) ?_)) (by repeat (first | exact w_nil | refine w_cons (Or.inl (y_m rfl)) ?_ | refine w_cons (Or.inr (by assumption)) ?_))
    have s : tx_s nd H sg (pr_t len.toInt.toNat) 0 := ⟨_, _, f.1, (y_ae f rfl).trans gs, hH.2.1 1539 _ rfl, by rw [et]; exact c40, hH.2.1 1538 _ rfl, rfl, hH.2.1 1540 _ rfl, Nat.zero_le _, tl.1⟩
    refine c_clear10 f.1 (fun H2 fr f2 g2 hf => ⟨fun n e => (by cases e), ?_⟩)
    exact T24 (y_sq (y_mo f rfl rfl) f2 rfl rfl) (tx_s_fr s f2 rfl rfl) g2 hf
  · have y1 : ¬ (((Int8.ofInt 40).toInt32).toInt < len.toInt) := y_cif z
    rw [c40] at y1
    show len.toInt ≤ 40
    omega
  · have y1 : ¬ (((Int8.ofInt 40).toInt32).toInt < len.toInt) := y_cif z
    rw [c40] at y1
    have et : pr_t len.toInt.toNat = len.toInt.toNat := if_neg (by omega)
    have f : y_fr h H [1538, 1539, 1540] [] := y_st (y_mo (y_rf hr) rfl rfl) hH (by repeat (first | exact w_nil | refine w_cons (Or.inl (y_m rfl)) ?_ | refine w_cons (Or.inr (by assumption)) ?_)) (by repeat (first | exact w_nil | refine w_cons (Or.inl (y_m rfl)) ?_ | refine w_cons (Or.inr (by assumption)) ?_))
    have s : tx_s nd H sg (pr_t len.toInt.toNat) 0 := ⟨_, _, f.1, (y_ae f rfl).trans gs, hH.2.1 1539 _ rfl, by rw [et]; omega, hH.2.1 1538 _ rfl, rfl, hH.2.1 1540 _ rfl, Nat.zero_le _, tl.1⟩
    refine c_clear10 f.1 (fun H2 fr f2 g2 hf => ⟨fun n e => (by cases e), ?_⟩)
    exact T24 (y_sq (y_mo f rfl rfl) f2 rfl rfl) (tx_s_fr s f2 rfl rfl) g2 hf
end PPS10
end PT33idd
section PT33ide
/-! ===== v21: parseEvent of the class with saying 11 (laid by wip/tools/mk21c.py) ===== -/
section PEV11
variable {X : aX} {C S d : Nat} {K0 : Option Value → aH → Nat → Nat → Prop} {sg : List Int32} {t : Nat} {nd : Int32}
theorem c_evl11 (n0 : 0 ≤ nd.toInt) (n10 : nd.toInt ≤ 10) {pI : Int32} {pa : Nat} (hpa : pI.toInt = pa) (pa4 : pa < 4) : ∀ (m : Nat) (h : aH) (p : Nat) (oI : Int32) (o : Nat) (o4 : Option Value), tx_s nd h sg t p → oI.toInt = o → o ≤ 5 → t - p ≤ m → (∀ (b : Bool) (q : Nat) (H : aH), y_fr h H [1538] [95, 96] → tx_s nd H sg t q → pr_E (y_N sg) t nd.toInt false p o = (b, q) → K0 (some (.int (y_01 b))) H C S) → aOK s_P X (d + 2) a_m87 12 [some (.ref 14), some (.ref 94), some (.int pI), some (.int oI), o4] [] h C S K0 := by
  have c33 : ((Int8.ofInt 33).toInt32).toInt = 33 := by decide
  have c38 : ((Int8.ofInt 38).toInt32).toInt = 38 := by decide
  have c40 : ((Int8.ofInt 40).toInt32).toInt = 40 := by decide
  have c97 : ((Int8.ofInt 97).toInt32).toInt = 97 := by decide
  have c124 : ((Int8.ofInt 124).toInt32).toInt = 124 := by decide
  have c5 : (Int32.ofInt 5).toInt = 5 := by decide
  have z0 : (0 : Int32).toInt = 0 := by decide
  have cn : ((Int8.ofInt 97).toInt32 + nd).toInt = 97 + nd.toInt := by
    rw [Int32.toInt_add, c97]
    exact Int.bmod_eq_of_le (by omega) (by omega)
  intro m
  induction m with
  | zero =>
    intro h p oI o o4 s ho o5 hm hK
    obtain ⟨toI, atI, hr, a1, a2, a3, a4, a5, a6, pt, t40⟩ := id s
    refine w_go z_hl [12] [82] 30 hr ?_
    intro x hx _ _
    obtain rfl := y_fi a4 hx
    intro y hy _ _
    obtain rfl := y_fi a2 hy
    refine ⟨fun _ => ⟨by decide, fun H hH => ?_⟩, fun z => ?_⟩
    · have f : y_fr h H [] [] := y_st (y_rf hr) hH (by repeat (first | exact w_nil | refine w_cons (Or.inl (y_m rfl)) ?_ | refine w_cons (Or.inr (by assumption)) ?_)) (by repeat (first | exact w_nil | refine w_cons (Or.inl (y_m rfl)) ?_ | refine w_cons (Or.inr (by assumption)) ?_))
      have k0 : pr_k (y_N sg) t p = 0 := if_neg (by omega)
      exact hK false p H (y_mo f rfl rfl) (tx_s_fr s f rfl rfl) (pr_bad (by omega) (by omega) (fun w => by have := w.1; omega) (fun w => by have := w.1; omega))
    · have y1 : ¬ (toI.toInt ≤ atI.toInt) := y_cif z
      exfalso
      omega
  | succ m ih =>
    intro h p oI o o4 s ho o5 hm hK
    obtain ⟨toI, atI, hr, a1, a2, a3, a4, a5, a6, pt, t40⟩ := id s
    -- on to the next sign
    have T189 : ∀ {G : aH} {oJ : Int32} {q o' : Nat} {p4 : Option Value}, y_fr h G [1538] [95, 96] → tx_s nd G sg t q → p < q → q < t → oJ.toInt = o' → o' ≤ 5 → pr_E (y_N sg) t nd.toInt false p o = pr_E (y_N sg) t nd.toInt false (q + 1) o' → aOK s_P X (d + 2) a_m87 189 [some (.ref 14), some (.ref 94), some (.int pI), some (.int oJ), p4] [] G C S K0 := by
      intro G oJ q o' p4 e s2 pq qt hoJ o5' hE
      obtain ⟨toJ, atJ, -, b1, b2, b3, b4, b5, b6, -, -⟩ := id s2
      have inc : (atJ + Int32.ofInt 1).toInt = ((q + 1 : Nat) : Int) := by rw [y_inc (by omega), b5]; rfl
      refine w_go z_hl [12] [82] 30 e.1 ?_
      intro x hx _ _
      obtain rfl := y_fi b4 hx
      refine ⟨rfl, y_zini (by show 0 ≤ (atJ + Int32.ofInt 1).toInt; omega) (by show (atJ + Int32.ofInt 1).toInt ≤ 40; omega), fun H hH => ?_⟩
      have f : y_fr G H [1538] [] := y_st (y_mo (y_rf e.1) rfl rfl) hH (by repeat (first | exact w_nil | refine w_cons (Or.inl (y_m rfl)) ?_ | refine w_cons (Or.inr (by assumption)) ?_)) (by repeat (first | exact w_nil | refine w_cons (Or.inl (y_m rfl)) ?_ | refine w_cons (Or.inr (by assumption)) ?_))
      exact ih H (q + 1) _ o' _ (tx_s_at s2 f rfl (hH.2.1 1538 _ rfl) inc (by omega)) hoJ o5' (by omega) (fun b r H' f1 f2 f3 => hK b r H' (y_sq (y_sq e f rfl rfl) f1 rfl rfl) f2 (hE.trans f3))
    have T143 : ∀ {G : aH} {oJ cI : Int32} {q o' : Nat}, y_fr h G [1538] [95, 96] → tx_s nd G sg t q → p < q → q < t → oJ.toInt = o' → o' ≤ 5 → pr_E (y_N sg) t nd.toInt false p o = pr_E (y_N sg) t nd.toInt false (q + 1) o' → aOK s_P X (d + 2) a_m87 143 [some (.ref 14), some (.ref 94), some (.int pI), some (.int oJ), some (.int cI)] [] G C S K0 := by
      intro G oJ cI q o' e s2 pq qt hoJ o5' hE
      have f0 : y_fr G G [] [] := y_rf e.1
      have T168 : ∀ {G2 : aH}, y_fr G G2 [] [95] → aOK s_P X (d + 2) a_m87 168 [some (.ref 14), some (.ref 94), some (.int pI), some (.int oJ), some (.int cI)] [] G2 C S K0 := by
        intro G2 f
        refine w_go z_hl [189] [82] 40 f.1 ?_
        refine ⟨⟨by omega, by omega⟩, fun l hl len bb => ⟨fun _ => ⟨⟨by omega, by omega⟩, y_l32 _, fun H hH => ?_⟩, fun _ => ⟨⟨by omega, by omega⟩, y_l32 _, fun H hH => ?_⟩⟩⟩
        · have f2 : y_fr G H [] [95, 96] := y_st (y_mo f rfl rfl) hH (by repeat (first | exact w_nil | refine w_cons (Or.inl (y_m rfl)) ?_ | refine w_cons (Or.inr (by assumption)) ?_)) (by repeat (first | exact w_nil | refine w_cons (Or.inl (y_m rfl)) ?_ | refine w_cons (Or.inr (by assumption)) ?_))
          exact T189 (y_sq e (y_mo f2 rfl rfl : y_fr G H [1538] [95, 96]) rfl rfl) (tx_s_fr s2 f2 rfl rfl) pq qt hoJ o5' hE
        · have f2 : y_fr G H [] [95, 96] := y_st (y_mo f rfl rfl) hH (by repeat (first | exact w_nil | refine w_cons (Or.inl (y_m rfl)) ?_ | refine w_cons (Or.inr (by assumption)) ?_)) (by repeat (first | exact w_nil | refine w_cons (Or.inl (y_m rfl)) ?_ | refine w_cons (Or.inr (by assumption)) ?_))
          exact T189 (y_sq e (y_mo f2 rfl rfl : y_fr G H [1538] [95, 96]) rfl rfl) (tx_s_fr s2 f2 rfl rfl) pq qt hoJ o5' hE
      refine w_go z_hl [168, 189] [82] 40 e.1 ?_
      refine ⟨fun _ => fun H hH => ?_, fun _ => ⟨⟨by omega, by omega⟩, fun l hl len bb => ⟨fun _ => ⟨⟨by omega, by omega⟩, y_l32 _, fun H hH => ?_⟩, fun _ => ⟨⟨by omega, by omega⟩, y_l32 _, fun H hH => ?_⟩⟩⟩⟩
      · have f2 : y_fr G H [] [] := y_st f0 hH (by repeat (first | exact w_nil | refine w_cons (Or.inl (y_m rfl)) ?_ | refine w_cons (Or.inr (by assumption)) ?_)) (by repeat (first | exact w_nil | refine w_cons (Or.inl (y_m rfl)) ?_ | refine w_cons (Or.inr (by assumption)) ?_))
        exact T189 (y_sq e f2 rfl rfl) (tx_s_fr s2 f2 rfl rfl) pq qt hoJ o5' hE
      · exact T168 (y_st (y_mo f0 rfl rfl) hH (by repeat (first | exact w_nil | refine w_cons (Or.inl (y_m rfl)) ?_ | refine w_cons (Or.inr (by assumption)) ?_)) (by repeat (first | exact w_nil | refine w_cons (Or.inl (y_m rfl)) ?_ | refine w_cons (Or.inr (by assumption)) ?_)))
      · exact T168 (y_st (y_mo f0 rfl rfl) hH (by repeat (first | exact w_nil | refine w_cons (Or.inl (y_m rfl)) ?_ | refine w_cons (Or.inr (by assumption)) ?_)) (by repeat (first | exact w_nil | refine w_cons (Or.inl (y_m rfl)) ?_ | refine w_cons (Or.inr (by assumption)) ?_)))
    have T117 : ∀ {G : aH} {oJ cI : Int32} {q o' : Nat} {p4 : Option Value}, y_fr h G [1538] [] → tx_s nd G sg t q → p < q → oJ.toInt = o' → o' ≤ 5 → cI.toInt = pr_k (y_N sg) t q → pr_E (y_N sg) t nd.toInt false p o = pr_E (y_N sg) t nd.toInt true q o' → ¬ (pr_k (y_N sg) t q = 41 ∧ 0 < o') → aOK s_P X (d + 2) a_m87 117 [some (.ref 14), some (.ref 94), some (.int pI), some (.int oJ), p4] [.int cI] G C S K0 := by
      intro G oJ cI q o' p4 e s2 pq hoJ o5' hc hE h41
      have q40 := (tx_s_hr s2).2.1
      have f0 : y_fr G G [] [] := y_rf e.1
      refine w_go z_hl [143] [82] 40 e.1 ?_
      refine ⟨fun z => fun H hH => ?_, fun z => ⟨fun z2 => fun H hH => ?_, fun z2 => ⟨fun z3 => ⟨by decide, fun H hH => ?_⟩, fun z3 => ⟨by decide, fun H hH => ?_⟩⟩⟩⟩
      · have y1 : cI.toInt = ((Int8.ofInt 38).toInt32).toInt := (y_ci .eq _ _).mp z
        rw [c38, hc] at y1
        have f2 : y_fr G H [] [] := y_st f0 hH (by repeat (first | exact w_nil | refine w_cons (Or.inl (y_m rfl)) ?_ | refine w_cons (Or.inr (by assumption)) ?_)) (by repeat (first | exact w_nil | refine w_cons (Or.inl (y_m rfl)) ?_ | refine w_cons (Or.inr (by assumption)) ?_))
        exact T143 (y_mo (y_sq e f2 rfl rfl) rfl rfl) (tx_s_fr s2 f2 rfl rfl) pq (pr_k_t (by decide) y1) hoJ o5' (hE.trans (pr_op (by omega) (Or.inl y1)))
      · have y1 : cI.toInt = ((Int8.ofInt 124).toInt32).toInt := (y_ci .eq _ _).mp z2
        rw [c124, hc] at y1
        have f2 : y_fr G H [] [] := y_st f0 hH (by repeat (first | exact w_nil | refine w_cons (Or.inl (y_m rfl)) ?_ | refine w_cons (Or.inr (by assumption)) ?_)) (by repeat (first | exact w_nil | refine w_cons (Or.inl (y_m rfl)) ?_ | refine w_cons (Or.inr (by assumption)) ?_))
        exact T143 (y_mo (y_sq e f2 rfl rfl) rfl rfl) (tx_s_fr s2 f2 rfl rfl) pq (pr_k_t (by decide) y1) hoJ o5' (hE.trans (pr_op (by omega) (Or.inr y1)))
      · have y1 : ¬ (cI.toInt = ((Int8.ofInt 38).toInt32).toInt) := y_cif z
        have y2 : ¬ (cI.toInt = ((Int8.ofInt 124).toInt32).toInt) := y_cif z2
        have y3 : oJ.toInt ≠ (0 : Int32).toInt := (y_ci .ne _ _).mp z3
        rw [c38, hc] at y1
        rw [c124, hc] at y2
        rw [z0] at y3
        have f2 : y_fr G H [] [] := y_st f0 hH (by repeat (first | exact w_nil | refine w_cons (Or.inl (y_m rfl)) ?_ | refine w_cons (Or.inr (by assumption)) ?_)) (by repeat (first | exact w_nil | refine w_cons (Or.inl (y_m rfl)) ?_ | refine w_cons (Or.inr (by assumption)) ?_))
        refine hK false q H (y_mo (y_sq e f2 rfl rfl) rfl rfl) (tx_s_fr s2 f2 rfl rfl) (hE.trans ?_)
        rw [pr_end (by omega) h41 y1 y2, decide_eq_false (by omega)]
      · have y1 : ¬ (cI.toInt = ((Int8.ofInt 38).toInt32).toInt) := y_cif z
        have y2 : ¬ (cI.toInt = ((Int8.ofInt 124).toInt32).toInt) := y_cif z2
        have y3 : ¬ (oJ.toInt ≠ (0 : Int32).toInt) := y_cif z3
        rw [c38, hc] at y1
        rw [c124, hc] at y2
        rw [z0] at y3
        have f2 : y_fr G H [] [] := y_st f0 hH (by repeat (first | exact w_nil | refine w_cons (Or.inl (y_m rfl)) ?_ | refine w_cons (Or.inr (by assumption)) ?_)) (by repeat (first | exact w_nil | refine w_cons (Or.inl (y_m rfl)) ?_ | refine w_cons (Or.inr (by assumption)) ?_))
        refine hK true q H (y_mo (y_sq e f2 rfl rfl) rfl rfl) (tx_s_fr s2 f2 rfl rfl) (hE.trans ?_)
        rw [pr_end (by omega) h41 y1 y2, decide_eq_true (by omega)]
    have T112 : ∀ {G : aH} {oJ : Int32} {q o' : Nat} {p3 p4 : Option Value}, y_fr h G [1538] [] → tx_s nd G sg t q → p < q → oJ.toInt = o' → o' ≤ 5 → pr_E (y_N sg) t nd.toInt false p o = pr_E (y_N sg) t nd.toInt true q o' → ¬ (pr_k (y_N sg) t q = 41 ∧ 0 < o') → aOK s_P X (d + 2) a_m87 112 [some (.ref 14), some (.ref 94), some (.int pI), p3, p4] [.int oJ] G C S K0 := by
      intro G oJ q o' p3 p4 e s2 pq hoJ o5' hE h41
      refine w_go z_hl [143] [82] 20 e.1 ?_
      intro H hH
      have f2 : y_fr G H [] [] := y_st (y_rf e.1) hH (by repeat (first | exact w_nil | refine w_cons (Or.inl (y_m rfl)) ?_ | refine w_cons (Or.inr (by assumption)) ?_)) (by repeat (first | exact w_nil | refine w_cons (Or.inl (y_m rfl)) ?_ | refine w_cons (Or.inr (by assumption)) ?_))
      refine c_lkT (tx_s_fr s2 f2 rfl rfl) (fun r H2 f3 er => ⟨fun n e => (by cases e), ?_⟩)
      exact T117 (y_sq (y_sq e f2 rfl rfl) f3 rfl rfl) (tx_s_fr (tx_s_fr s2 f2 rfl rfl) f3 rfl rfl) pq hoJ o5' er hE h41
    have T97 : ∀ {G : aH} {cI : Int32}, y_fr h G [] [] → p < t → 97 ≤ pr_k (y_N sg) t p → pr_k (y_N sg) t p < 97 + nd.toInt → aOK s_P X (d + 2) a_m87 97 [some (.ref 14), some (.ref 94), some (.int pI), some (.int oI), some (.int cI)] [] G C S K0 := by
      intro G cI e ptt h97 h98
      have s2 := tx_s_fr s e rfl rfl
      have inc : (atI + Int32.ofInt 1).toInt = ((p + 1 : Nat) : Int) := by rw [y_inc (by omega), a5]; rfl
      refine w_go z_hl [12] [88] 30 e.1 ?_
      intro x hx _ _
      obtain rfl := y_fi ((y_fe e rfl).trans a4) hx
      refine ⟨rfl, y_zini (by show 0 ≤ (atI + Int32.ofInt 1).toInt; omega) (by show (atI + Int32.ofInt 1).toInt ≤ 40; omega), fun H hH => ?_⟩
      have f : y_fr G H [1538] [] := y_st (y_mo (y_rf e.1) rfl rfl) hH (by repeat (first | exact w_nil | refine w_cons (Or.inl (y_m rfl)) ?_ | refine w_cons (Or.inr (by assumption)) ?_)) (by repeat (first | exact w_nil | refine w_cons (Or.inl (y_m rfl)) ?_ | refine w_cons (Or.inr (by assumption)) ?_))
      have s3 := tx_s_at s2 f rfl (hH.2.1 1538 _ rfl) inc (by omega)
      obtain ⟨k1, k2, k3, k4, k5⟩ := pr_c_p (T := y_N sg) (n := nd.toInt) t40 o (p + 1) (by omega)
      refine c_closeBr (d := d) s3 ho o5 (fun r H2 f2 s4 er => ⟨fun n e => (by cases e), ?_⟩)
      exact T112 (y_sq (y_sq (y_mo e rfl rfl) f rfl rfl) f2 rfl rfl) s4 (by omega) er (by omega) ((pr_let (by omega) h97 h98).trans k4) k5
    have T76 : ∀ {G : aH} {cI : Int32}, y_fr h G [] [] → p < t → cI.toInt = pr_k (y_N sg) t p → pr_k (y_N sg) t p ≠ 33 → ¬ (pr_k (y_N sg) t p = 40 ∧ o < 5) → aOK s_P X (d + 2) a_m87 76 [some (.ref 14), some (.ref 94), some (.int pI), some (.int oI), some (.int cI)] [] G C S K0 := by
      intro G cI e ptt hc h33 h40
      have bad : ∀ {H : aH}, y_fr h H [] [] → ¬ (97 ≤ pr_k (y_N sg) t p ∧ pr_k (y_N sg) t p < 97 + nd.toInt) → K0 (some (.int (y_01 false))) H C S := fun f w => hK false p _ (y_mo f rfl rfl) (tx_s_fr s f rfl rfl) (pr_bad (by omega) h33 h40 w)
      refine w_go z_hl [97] [88] 30 e.1 ?_
      refine ⟨fun z => ⟨by decide, fun H hH => bad (y_st e hH (by repeat (first | exact w_nil | refine w_cons (Or.inl (y_m rfl)) ?_ | refine w_cons (Or.inr (by assumption)) ?_)) (by repeat (first | exact w_nil | refine w_cons (Or.inl (y_m rfl)) ?_ | refine w_cons (Or.inr (by assumption)) ?_))) (fun w => ?_)⟩, fun z => ?_⟩
      · have y1 : cI.toInt < ((Int8.ofInt 97).toInt32).toInt := (y_ci .lt _ _).mp z
        rw [c97, hc] at y1
        have := w.1
        omega
      · have y1 : ¬ (cI.toInt < ((Int8.ofInt 97).toInt32).toInt) := y_cif z
        rw [c97, hc] at y1
        intro x hx _ _
        obtain rfl := y_fi ((y_fe e rfl).trans a6) hx
        refine ⟨fun z2 => fun H hH => ?_, fun z2 => ⟨by decide, fun H hH => bad (y_st e hH (by repeat (first | exact w_nil | refine w_cons (Or.inl (y_m rfl)) ?_ | refine w_cons (Or.inr (by assumption)) ?_)) (by repeat (first | exact w_nil | refine w_cons (Or.inl (y_m rfl)) ?_ | refine w_cons (Or.inr (by assumption)) ?_))) (fun w => ?_)⟩⟩
        · have y2 : cI.toInt < ((Int8.ofInt 97).toInt32 + nd).toInt := (y_ci .lt _ _).mp z2
          rw [cn, hc] at y2
          exact T97 (y_st e hH (by repeat (first | exact w_nil | refine w_cons (Or.inl (y_m rfl)) ?_ | refine w_cons (Or.inr (by assumption)) ?_)) (by repeat (first | exact w_nil | refine w_cons (Or.inl (y_m rfl)) ?_ | refine w_cons (Or.inr (by assumption)) ?_))) ptt (by omega) y2
        · have y2 : ¬ (cI.toInt < ((Int8.ofInt 97).toInt32 + nd).toInt) := y_cif z2
          rw [cn, hc] at y2
          exact y2 w.2
    have T48 : ∀ {G : aH} {cI : Int32} (b : Bool), y_fr h G [] [] → p < t → cI.toInt = (if b then 40 else 33) → pr_E (y_N sg) t nd.toInt false p o = pr_E (y_N sg) t nd.toInt false (p + 1) (o + (if b then 1 else 0)) → o + (if b then 1 else 0) ≤ 5 → aOK s_P X (d + 2) a_m87 48 [some (.ref 14), some (.ref 94), some (.int pI), some (.int oI), some (.int cI)] [] G C S K0 := by
      intro G cI b e ptt hc hE o5'
      have s2 := tx_s_fr s e rfl rfl
      have inc : (atI + Int32.ofInt 1).toInt = ((p + 1 : Nat) : Int) := by rw [y_inc (by omega), a5]; rfl
      cases b with
      | true =>
        have hc' : cI.toInt = 40 := hc
        have ino : (oI + Int32.ofInt 1).toInt = ((o + 1 : Nat) : Int) := by rw [y_inc (by omega), ho]; rfl
        have o6 : o + 1 ≤ 5 := o5'
        refine w_go z_hl [12] [88] 40 e.1 ?_
        refine ⟨fun z => ?_, fun _ => ?_⟩
        · have y1 : cI.toInt ≠ ((Int8.ofInt 40).toInt32).toInt := (y_ci .ne _ _).mp z
          rw [c40] at y1
          exact absurd hc' y1
        · intro x hx _ _
          obtain rfl := y_fi ((y_fe e rfl).trans a4) hx
          refine ⟨rfl, y_zini (by show 0 ≤ (atI + Int32.ofInt 1).toInt; omega) (by show (atI + Int32.ofInt 1).toInt ≤ 40; omega), fun H hH => ?_⟩
          have f : y_fr G H [1538] [] := y_st (y_mo (y_rf e.1) rfl rfl) hH (by repeat (first | exact w_nil | refine w_cons (Or.inl (y_m rfl)) ?_ | refine w_cons (Or.inr (by assumption)) ?_)) (by repeat (first | exact w_nil | refine w_cons (Or.inl (y_m rfl)) ?_ | refine w_cons (Or.inr (by assumption)) ?_))
          exact ih H (p + 1) _ (o + 1) _ (tx_s_at s2 f rfl (hH.2.1 1538 _ rfl) inc (by omega)) ino o6 (by omega) (fun b r H' f1 f2 f3 => hK b r H' (y_sq (y_mo (y_sq (y_mo e rfl rfl) f rfl rfl : y_fr h H [1538] []) rfl rfl) f1 rfl rfl) f2 (hE.trans f3))
      | false =>
        have hc' : cI.toInt = 33 := hc
        have ino : (oI + Int32.ofInt 0).toInt = (o : Nat) := by rw [show Int32.ofInt 0 = (0 : Int32) by decide, Int32.add_zero]; exact ho
        refine w_go z_hl [12] [88] 40 e.1 ?_
        refine ⟨fun _ => ?_, fun z => ?_⟩
        · intro x hx _ _
          obtain rfl := y_fi ((y_fe e rfl).trans a4) hx
          refine ⟨rfl, y_zini (by show 0 ≤ (atI + Int32.ofInt 1).toInt; omega) (by show (atI + Int32.ofInt 1).toInt ≤ 40; omega), fun H hH => ?_⟩
          have f : y_fr G H [1538] [] := y_st (y_mo (y_rf e.1) rfl rfl) hH (by repeat (first | exact w_nil | refine w_cons (Or.inl (y_m rfl)) ?_ | refine w_cons (Or.inr (by assumption)) ?_)) (by repeat (first | exact w_nil | refine w_cons (Or.inl (y_m rfl)) ?_ | refine w_cons (Or.inr (by assumption)) ?_))
          exact ih H (p + 1) _ o _ (tx_s_at s2 f rfl (hH.2.1 1538 _ rfl) inc (by omega)) ino o5 (by omega) (fun b r H' f1 f2 f3 => hK b r H' (y_sq (y_mo (y_sq (y_mo e rfl rfl) f rfl rfl : y_fr h H [1538] []) rfl rfl) f1 rfl rfl) f2 (hE.trans f3))
        · have y1 : ¬ (cI.toInt ≠ ((Int8.ofInt 40).toInt32).toInt) := y_cif z
          rw [c40] at y1
          exfalso
          omega
    have T27 : ∀ {G : aH} {cI : Int32}, y_fr h G [] [] → p < t → cI.toInt = pr_k (y_N sg) t p → aOK s_P X (d + 2) a_m87 27 [some (.ref 14), some (.ref 94), some (.int pI), some (.int oI), o4] [.int cI] G C S K0 := by
      intro G cI e ptt hc
      refine w_go z_hl [48, 76] [88] 40 e.1 ?_
      refine ⟨fun z => fun H hH => ?_, fun z => ⟨fun z2 => fun H hH => ?_, fun z2 => ⟨fun z3 => fun H hH => ?_, fun z3 => fun H hH => ?_⟩⟩⟩
      · have y1 : cI.toInt = ((Int8.ofInt 33).toInt32).toInt := (y_ci .eq _ _).mp z
        rw [c33] at y1
        exact T48 false (y_st e hH (by repeat (first | exact w_nil | refine w_cons (Or.inl (y_m rfl)) ?_ | refine w_cons (Or.inr (by assumption)) ?_)) (by repeat (first | exact w_nil | refine w_cons (Or.inl (y_m rfl)) ?_ | refine w_cons (Or.inr (by assumption)) ?_))) ptt y1 (pr_bang (by omega) (hc.symm.trans y1)) o5
      · have y1 : ¬ (cI.toInt = ((Int8.ofInt 33).toInt32).toInt) := y_cif z
        have y2 : cI.toInt ≠ ((Int8.ofInt 40).toInt32).toInt := (y_ci .ne _ _).mp z2
        rw [c33, hc] at y1
        rw [c40, hc] at y2
        exact T76 (y_st e hH (by repeat (first | exact w_nil | refine w_cons (Or.inl (y_m rfl)) ?_ | refine w_cons (Or.inr (by assumption)) ?_)) (by repeat (first | exact w_nil | refine w_cons (Or.inl (y_m rfl)) ?_ | refine w_cons (Or.inr (by assumption)) ?_))) ptt hc y1 (fun w => y2 w.1)
      · have y1 : ¬ (cI.toInt = ((Int8.ofInt 33).toInt32).toInt) := y_cif z
        have y3 : (Int32.ofInt 5).toInt ≤ oI.toInt := (y_ci .ge _ _).mp z3
        rw [c33, hc] at y1
        rw [c5] at y3
        exact T76 (y_st e hH (by repeat (first | exact w_nil | refine w_cons (Or.inl (y_m rfl)) ?_ | refine w_cons (Or.inr (by assumption)) ?_)) (by repeat (first | exact w_nil | refine w_cons (Or.inl (y_m rfl)) ?_ | refine w_cons (Or.inr (by assumption)) ?_))) ptt hc y1 (fun w => by have := w.2; omega)
      · have y2 : ¬ (cI.toInt ≠ ((Int8.ofInt 40).toInt32).toInt) := y_cif z2
        have y3 : ¬ ((Int32.ofInt 5).toInt ≤ oI.toInt) := y_cif z3
        rw [c40] at y2
        rw [c5] at y3
        have y4 : cI.toInt = 40 := Decidable.not_not.mp y2
        exact T48 true (y_st e hH (by repeat (first | exact w_nil | refine w_cons (Or.inl (y_m rfl)) ?_ | refine w_cons (Or.inr (by assumption)) ?_)) (by repeat (first | exact w_nil | refine w_cons (Or.inl (y_m rfl)) ?_ | refine w_cons (Or.inr (by assumption)) ?_))) ptt y4 (pr_open (by omega) (hc.symm.trans y4) (by omega)) (by show o + 1 ≤ 5; omega)
    refine w_go z_hl [12] [82] 30 hr ?_
    intro x hx _ _
    obtain rfl := y_fi a4 hx
    intro y hy _ _
    obtain rfl := y_fi a2 hy
    refine ⟨fun z => ⟨by decide, fun H hH => ?_⟩, fun z => fun H hH => ?_⟩
    · have y1 : toI.toInt ≤ atI.toInt := (y_ci .ge _ _).mp z
      have f : y_fr h H [] [] := y_st (y_rf hr) hH (by repeat (first | exact w_nil | refine w_cons (Or.inl (y_m rfl)) ?_ | refine w_cons (Or.inr (by assumption)) ?_)) (by repeat (first | exact w_nil | refine w_cons (Or.inl (y_m rfl)) ?_ | refine w_cons (Or.inr (by assumption)) ?_))
      have k0 : pr_k (y_N sg) t p = 0 := if_neg (by omega)
      exact hK false p H (y_mo f rfl rfl) (tx_s_fr s f rfl rfl) (pr_bad (by omega) (by omega) (fun w => by have := w.1; omega) (fun w => by have := w.1; omega))
    · have y1 : ¬ (toI.toInt ≤ atI.toInt) := y_cif z
      have f : y_fr h H [] [] := y_st (y_rf hr) hH (by repeat (first | exact w_nil | refine w_cons (Or.inl (y_m rfl)) ?_ | refine w_cons (Or.inr (by assumption)) ?_)) (by repeat (first | exact w_nil | refine w_cons (Or.inl (y_m rfl)) ?_ | refine w_cons (Or.inr (by assumption)) ?_))
      refine c_lkT (tx_s_fr s f rfl rfl) (fun r H2 f2 er => ⟨fun n e => (by cases e), ?_⟩)
      exact T27 (y_sq f f2 rfl rfl) (by omega) er
theorem c_ev11 {h : aH} {p : Nat} (n0 : 0 ≤ nd.toInt) (n10 : nd.toInt ≤ 10) {pI : Int32} {pa : Nat} (hpa : pI.toInt = pa) (pa4 : pa < 4) (s : tx_s nd h sg t p) {fr : List Int32} (gf : w_a h 94 = some (0, .inl fr)) (hK : ∀ (b : Bool) (q : Nat) (aI : Int32) (H : aH), y_fr h H [1538] [94, 95, 96] → tx_s nd H sg t q → pr_E (y_N sg) t nd.toInt false p 0 = (b, q) → w_a H 94 = some (0, .inl (fr.set pa aI)) → 0 ≤ aI.toInt → K0 (some (.int (y_01 b))) H C S) : aOK s_P X (d + 2) a_m87 0 [some (.ref 14), some (.ref 94), some (.int pI), none, none] [] h C S K0 := by
  obtain ⟨toI, atI, hr, a1, a2, a3, a4, a5, a6, pt, t40⟩ := id s
  have cp := y_cl1 hpa
  refine w_go z_hl [12] [] 30 hr ?_
  intro x hx _ _
  obtain rfl := y_fi a4 hx
  refine ⟨⟨by omega, by omega⟩, ⟨by omega, by omega⟩, fun l hl len bb => fun H hH => ?_⟩
  obtain rfl := y_ai gf hl
  have w := hH.2.2.1 94 _ rfl
  rw [cp] at w
  have f : y_fr h H [] [94] := y_st (y_mo (y_rf hr) rfl rfl) hH (by repeat (first | exact w_nil | refine w_cons (Or.inl (y_m rfl)) ?_ | refine w_cons (Or.inr (by assumption)) ?_)) (by repeat (first | exact w_nil | refine w_cons (Or.inl (y_m rfl)) ?_ | refine w_cons (Or.inr (by assumption)) ?_))
  exact c_evl11 (d := d) n0 n10 hpa pa4 40 H p _ 0 _ (tx_s_fr s f rfl rfl) (by decide) (by decide) (by omega) (fun b q H' f1 f2 f3 => hK b q atI H' (y_sq (y_mo f rfl rfl) f1 rfl rfl) f2 f3 ((y_ae f1 rfl).trans w) (by omega))
end PEV11
end PT33ide
section PT33idf
/-! ===== v21: parseGiven, parseRate, parseTerm of the class with saying 11 (laid by wip/tools/mk21d.py) ===== -/
section PPT11
variable {X : aX} {C S d : Nat} {K0 : Option Value → aH → Nat → Nat → Prop} {sg : List Int32} {t p : Nat} {nd : Int32} {h : aH}
theorem c_gv11 (n0 : 0 ≤ nd.toInt) (n10 : nd.toInt ≤ 10) {sI : Int32} {sd : Nat} (hs : sI.toInt = sd) (hs2 : sd < 2) (s : tx_s nd h sg t p) {fr : List Int32} (gf : w_a h 94 = some (0, .inl fr)) (hK : ∀ (b : Bool) (q k : Nat) (H : aH) (fr' : List Int32), y_fr h H [1538] [94, 95, 96] → tx_s nd H sg t q → pr_gv (y_N sg) t nd.toInt p = (b, q, k) → w_a H 94 = some (0, .inl fr') → tx_f fr fr' sd k → K0 (some (.int (y_01 b))) H C S) : aOK s_P X (d + 3) a_m86 0 [some (.ref 14), some (.ref 94), some (.int sI)] [] h C S K0 := by
  obtain ⟨toI, atI, hr, a1, a2, a3, a4, a5, a6, pt, t40⟩ := id s
  obtain ⟨fr0, f1, fl, -⟩ := c_arr hr (ob := 94) (n := 4) (lo := -1) (hi := 40) rfl
  obtain rfl := y_ai gf f1
  have c47 : ((Int8.ofInt 47).toInt32).toInt = 47 := by decide
  have m1 : (Int32.ofInt 2 * sI).toInt = ((2 * sd : Nat) : Int) := y_mulS (m := 2) _ (by decide) hs rfl (by omega)
  have m2 : (Int32.ofInt 2 * sI + Int32.ofInt 1).toInt = ((2 * sd + 1 : Nat) : Int) := y_addS _ m1 (n := 1) (by decide) rfl (by omega)
  have T44 : ∀ {G : aH} {b : Bool} {q k : Nat} {fr' : List Int32}, y_fr h G [1538] [94, 95, 96] → tx_s nd G sg t q → pr_gv (y_N sg) t nd.toInt p = (b, q, k) → w_a G 94 = some (0, .inl fr') → tx_f fr fr' sd k → aOK s_P X (d + 3) a_m86 44 [some (.ref 14), some (.ref 94), some (.int sI)] [.int (y_01 b)] G C S K0 := by
    intro G b q k fr' e s2 hg g2 hf
    refine w_go z_hl [] [] 20 e.1 ?_
    refine ⟨y_01b b, fun H hH => ?_⟩
    have f : y_fr G H [] [] := y_st (y_rf e.1) hH (by repeat (first | exact w_nil | refine w_cons (Or.inl (y_m rfl)) ?_ | refine w_cons (Or.inr (by assumption)) ?_)) (by repeat (first | exact w_nil | refine w_cons (Or.inl (y_m rfl)) ?_ | refine w_cons (Or.inr (by assumption)) ?_))
    exact hK b q k H fr' (y_sq e f rfl rfl) (tx_s_fr s2 f rfl rfl) hg ((y_ae f rfl).trans g2) hf
  have T24 : ∀ {G : aH} {q : Nat} {aI : Int32}, y_fr h G [1538] [94, 95, 96] → tx_s nd G sg t q → q < t → pr_E (y_N sg) t nd.toInt false p 0 = (true, q) → pr_k (y_N sg) t q = 47 → w_a G 94 = some (0, .inl (fr.set (2 * sd) aI)) → 0 ≤ aI.toInt → aOK s_P X (d + 3) a_m86 24 [some (.ref 14), some (.ref 94), some (.int sI)] [] G C S K0 := by
    intro G q aI e s2 qt hE h47 g2 ha
    obtain ⟨toJ, atJ, -, b1, b2, b3, b4, b5, b6, -, -⟩ := id s2
    have inc : (atJ + Int32.ofInt 1).toInt = ((q + 1 : Nat) : Int) := by rw [y_inc (by omega), b5]; rfl
    refine w_go z_hl [] [87] 30 e.1 ?_
    intro x hx _ _
    obtain rfl := y_fi b4 hx
    refine ⟨rfl, y_zini (by show 0 ≤ (atJ + Int32.ofInt 1).toInt; omega) (by show (atJ + Int32.ofInt 1).toInt ≤ 40; omega), fun H hH => ?_⟩
    have f : y_fr G H [1538] [] := y_st (y_mo (y_rf e.1) rfl rfl) hH (by repeat (first | exact w_nil | refine w_cons (Or.inl (y_m rfl)) ?_ | refine w_cons (Or.inr (by assumption)) ?_)) (by repeat (first | exact w_nil | refine w_cons (Or.inl (y_m rfl)) ?_ | refine w_cons (Or.inr (by assumption)) ?_))
    refine c_ev11 (d := d) n0 n10 m2 (by omega) (tx_s_at s2 f rfl (hH.2.1 1538 _ rfl) inc (by omega)) ((y_ae f rfl).trans g2) (fun b r aJ H2 f2 s3 hE2 g3 ha2 => ⟨fun n e => (by cases e), ?_⟩)
    exact T44 (k := 2) (y_sq (y_sq e f rfl rfl) f2 rfl rfl) s3 (pr_gv_2 hE h47 hE2) g3 (tx_f_2 fl ha ha2 hs2)
  have T17 : ∀ {G : aH} {q : Nat} {aI cI : Int32}, y_fr h G [1538] [94, 95, 96] → tx_s nd G sg t q → cI.toInt = pr_k (y_N sg) t q → pr_E (y_N sg) t nd.toInt false p 0 = (true, q) → w_a G 94 = some (0, .inl (fr.set (2 * sd) aI)) → 0 ≤ aI.toInt → aOK s_P X (d + 3) a_m86 17 [some (.ref 14), some (.ref 94), some (.int sI)] [.int cI] G C S K0 := by
    intro G q aI cI e s2 hc hE g2 ha
    refine w_go z_hl [24] [] 30 e.1 ?_
    refine ⟨fun z => fun H hH => ?_, fun z => ⟨by decide, fun H hH => ?_⟩⟩
    · have y1 : cI.toInt = ((Int8.ofInt 47).toInt32).toInt := (y_ci .eq _ _).mp z
      rw [c47, hc] at y1
      have f : y_fr G H [] [] := y_st (y_rf e.1) hH (by repeat (first | exact w_nil | refine w_cons (Or.inl (y_m rfl)) ?_ | refine w_cons (Or.inr (by assumption)) ?_)) (by repeat (first | exact w_nil | refine w_cons (Or.inl (y_m rfl)) ?_ | refine w_cons (Or.inr (by assumption)) ?_))
      exact T24 (y_sq e f rfl rfl) (tx_s_fr s2 f rfl rfl) (pr_k_t (by decide) y1) hE y1 ((y_ae f rfl).trans g2) ha
    · have y1 : ¬ (cI.toInt = ((Int8.ofInt 47).toInt32).toInt) := y_cif z
      rw [c47, hc] at y1
      have f : y_fr G H [] [] := y_st (y_rf e.1) hH (by repeat (first | exact w_nil | refine w_cons (Or.inl (y_m rfl)) ?_ | refine w_cons (Or.inr (by assumption)) ?_)) (by repeat (first | exact w_nil | refine w_cons (Or.inl (y_m rfl)) ?_ | refine w_cons (Or.inr (by assumption)) ?_))
      exact hK true q 1 H _ (y_sq e f rfl rfl) (tx_s_fr s2 f rfl rfl) (pr_gv_1 hE y1) ((y_ae f rfl).trans g2) (tx_f_1 fl ha hs2)
  have T8 : ∀ {G : aH} {q : Nat} {aI : Int32} (b : Bool), y_fr h G [1538] [94, 95, 96] → tx_s nd G sg t q → pr_E (y_N sg) t nd.toInt false p 0 = (b, q) → w_a G 94 = some (0, .inl (fr.set (2 * sd) aI)) → 0 ≤ aI.toInt → aOK s_P X (d + 3) a_m86 8 [some (.ref 14), some (.ref 94), some (.int sI)] [.int (y_01 b)] G C S K0 := by
    intro G q aI b e s2 hE g2 ha
    cases b with
    | true =>
      refine w_go z_hl [24] [82] 30 e.1 ?_
      refine ⟨fun _ => fun H hH => ?_, fun z => absurd z (by decide)⟩
      have f : y_fr G H [] [] := y_st (y_rf e.1) hH (by repeat (first | exact w_nil | refine w_cons (Or.inl (y_m rfl)) ?_ | refine w_cons (Or.inr (by assumption)) ?_)) (by repeat (first | exact w_nil | refine w_cons (Or.inl (y_m rfl)) ?_ | refine w_cons (Or.inr (by assumption)) ?_))
      refine c_lkT (tx_s_fr s2 f rfl rfl) (fun r H2 f2 er => ⟨fun n e => (by cases e), ?_⟩)
      exact T17 (y_sq (y_sq e f rfl rfl) f2 rfl rfl) (tx_s_fr (tx_s_fr s2 f rfl rfl) f2 rfl rfl) er hE ((y_ae f2 rfl).trans ((y_ae f rfl).trans g2)) ha
    | false =>
      refine w_go z_hl [24] [82] 30 e.1 ?_
      refine ⟨fun z => absurd z (by decide), fun _ => ⟨by decide, fun H hH => ?_⟩⟩
      have f : y_fr G H [] [] := y_st (y_rf e.1) hH (by repeat (first | exact w_nil | refine w_cons (Or.inl (y_m rfl)) ?_ | refine w_cons (Or.inr (by assumption)) ?_)) (by repeat (first | exact w_nil | refine w_cons (Or.inl (y_m rfl)) ?_ | refine w_cons (Or.inr (by assumption)) ?_))
      exact hK false q 1 H _ (y_sq e f rfl rfl) (tx_s_fr s2 f rfl rfl) (pr_gv_n hE) ((y_ae f rfl).trans g2) (tx_f_1 fl ha hs2)
  refine w_go z_hl [] [87] 30 hr ?_
  intro H hH
  have f : y_fr h H [] [] := y_st (y_rf hr) hH (by repeat (first | exact w_nil | refine w_cons (Or.inl (y_m rfl)) ?_ | refine w_cons (Or.inr (by assumption)) ?_)) (by repeat (first | exact w_nil | refine w_cons (Or.inl (y_m rfl)) ?_ | refine w_cons (Or.inr (by assumption)) ?_))
  refine c_ev11 (d := d) n0 n10 m1 (by omega) (tx_s_fr s f rfl rfl) ((y_ae f rfl).trans gf) (fun b q aI H2 f2 s3 hE g3 ha => ⟨fun n e => (by cases e), ?_⟩)
  exact T8 b (y_sq (y_mo f rfl rfl) f2 rfl rfl) s3 hE g3 ha
theorem c_rt11 {sI : Int32} {sd : Nat} (hs : sI.toInt = sd) (hs2 : sd < 2) (s : tx_s nd h sg t p) (hK : ∀ (b : Bool) (q : Nat) (H : aH), y_fr h H [1538] [97, 98] → tx_s nd H sg t q → pr_rt (y_N sg) t p = (b, q, 0) → K0 (some (.int (y_01 b))) H C S) : aOK s_P X (d + 2) a_m84 0 [some (.ref 14), some (.ref 94), some (.int sI)] [] h C S K0 := by
  obtain ⟨toI, atI, hr, a1, a2, a3, a4, a5, a6, pt, t40⟩ := id s
  have c58 : ((Int8.ofInt 58).toInt32).toInt = 58 := by decide
  have c48 : ((Int8.ofInt 48).toInt32).toInt = 48 := by decide
  have T61 : ∀ {G : aH} {q : Nat} {r : Int32}, y_fr h G [1538] [97] → tx_s nd G sg t q → pr_rt (y_N sg) t p = (true, q, 0) → aOK s_P X (d + 2) a_m84 61 [some (.ref 14), some (.ref 94), some (.int sI)] [.int r, .int sI, .ref 100] G C S K0 := by
    intro G q r e s2 hg
    refine w_go z_hl [] [] 20 e.1 ?_
    refine ⟨⟨by omega, by omega⟩, y_l32 _, fun l hl len bb => ⟨by decide, fun H hH => ?_⟩⟩
    have f : y_fr G H [] [98] := y_st (y_mo (y_rf e.1) rfl rfl) hH (by repeat (first | exact w_nil | refine w_cons (Or.inl (y_m rfl)) ?_ | refine w_cons (Or.inr (by assumption)) ?_)) (by repeat (first | exact w_nil | refine w_cons (Or.inl (y_m rfl)) ?_ | refine w_cons (Or.inr (by assumption)) ?_))
    exact hK true q H (y_sq (y_mo e rfl rfl) f rfl rfl) (tx_s_fr s2 f rfl rfl) hg
  have T45 : ∀ {G : aH} {cI : Int32}, y_fr h G [1538] [97] → tx_s nd G sg t (pr_dq (y_N sg) t 8 p + 1) → pr_k (y_N sg) t (pr_dq (y_N sg) t 8 p) = 58 → pr_dg (y_N sg) t (pr_dq (y_N sg) t 8 p + 1) → cI.toInt = pr_k (y_N sg) t (pr_dq (y_N sg) t 8 p + 1) → aOK s_P X (d + 2) a_m84 45 [some (.ref 14), some (.ref 94), some (.int sI)] [.int cI] G C S K0 := by
    intro G cI e s2 h58 hd hc
    have hd1 := hd.1
    have hd2 := hd.2
    refine w_go z_hl [] [85] 30 e.1 ?_
    refine ⟨fun z => fun H hH => ?_, fun z => ⟨by decide, fun H hH => ?_⟩⟩
    · have y1 : cI.toInt ≠ ((Int8.ofInt 48).toInt32).toInt := (y_ci .ne _ _).mp z
      rw [c48, hc] at y1
      have f : y_fr G H [] [] := y_st (y_rf e.1) hH (by repeat (first | exact w_nil | refine w_cons (Or.inl (y_m rfl)) ?_ | refine w_cons (Or.inr (by assumption)) ?_)) (by repeat (first | exact w_nil | refine w_cons (Or.inl (y_m rfl)) ?_ | refine w_cons (Or.inr (by assumption)) ?_))
      refine c_number (d := d) (tx_s_fr s2 f rfl rfl) (fun r H2 f2 s3 => ⟨fun n e => (by cases e), ?_⟩)
      exact T61 (y_sq (y_sq e f rfl rfl) f2 rfl rfl) s3 (pr_rt_1 h58 ⟨by omega, hd2⟩)
    · have y1 : ¬ (cI.toInt ≠ ((Int8.ofInt 48).toInt32).toInt) := y_cif z
      rw [c48, hc] at y1
      have f : y_fr G H [] [] := y_st (y_rf e.1) hH (by repeat (first | exact w_nil | refine w_cons (Or.inl (y_m rfl)) ?_ | refine w_cons (Or.inr (by assumption)) ?_)) (by repeat (first | exact w_nil | refine w_cons (Or.inl (y_m rfl)) ?_ | refine w_cons (Or.inr (by assumption)) ?_))
      exact hK false _ H (y_mo (y_sq e f rfl rfl) rfl rfl) (tx_s_fr s2 f rfl rfl) (pr_rt_0 h58 (fun w => by have := w.1; omega))
  have T38 : ∀ {G : aH} (b : Bool), y_fr h G [1538] [97] → tx_s nd G sg t (pr_dq (y_N sg) t 8 p + 1) → pr_k (y_N sg) t (pr_dq (y_N sg) t 8 p) = 58 → (b = true → pr_dg (y_N sg) t (pr_dq (y_N sg) t 8 p + 1)) → (b = false → ¬ pr_dg (y_N sg) t (pr_dq (y_N sg) t 8 p + 1)) → aOK s_P X (d + 2) a_m84 38 [some (.ref 14), some (.ref 94), some (.int sI)] [.int (y_01 b)] G C S K0 := by
    intro G b e s2 h58 hy hn
    cases b with
    | true =>
      refine w_go z_hl [] [82] 30 e.1 ?_
      refine ⟨fun z => absurd z (by decide), fun _ => fun H hH => ?_⟩
      have f : y_fr G H [] [] := y_st (y_rf e.1) hH (by repeat (first | exact w_nil | refine w_cons (Or.inl (y_m rfl)) ?_ | refine w_cons (Or.inr (by assumption)) ?_)) (by repeat (first | exact w_nil | refine w_cons (Or.inl (y_m rfl)) ?_ | refine w_cons (Or.inr (by assumption)) ?_))
      refine c_lkT (tx_s_fr s2 f rfl rfl) (fun r H2 f2 er => ⟨fun n e => (by cases e), ?_⟩)
      exact T45 (y_sq (y_sq e f rfl rfl) f2 rfl rfl) (tx_s_fr (tx_s_fr s2 f rfl rfl) f2 rfl rfl) h58 (hy rfl) er
    | false =>
      refine w_go z_hl [] [82] 30 e.1 ?_
      refine ⟨fun _ => ⟨by decide, fun H hH => ?_⟩, fun z => absurd z (by decide)⟩
      have f : y_fr G H [] [] := y_st (y_rf e.1) hH (by repeat (first | exact w_nil | refine w_cons (Or.inl (y_m rfl)) ?_ | refine w_cons (Or.inr (by assumption)) ?_)) (by repeat (first | exact w_nil | refine w_cons (Or.inl (y_m rfl)) ?_ | refine w_cons (Or.inr (by assumption)) ?_))
      exact hK false _ H (y_mo (y_sq e f rfl rfl) rfl rfl) (tx_s_fr s2 f rfl rfl) (pr_rt_0 h58 (fun w => hn rfl ⟨by have := w.1; omega, w.2⟩))
  have T35 : ∀ {G : aH} {cI : Int32}, y_fr h G [1538] [97] → tx_s nd G sg t (pr_dq (y_N sg) t 8 p + 1) → pr_k (y_N sg) t (pr_dq (y_N sg) t 8 p) = 58 → cI.toInt = pr_k (y_N sg) t (pr_dq (y_N sg) t 8 p + 1) → aOK s_P X (d + 2) a_m84 35 [some (.ref 14), some (.ref 94), some (.int sI)] [.int cI] G C S K0 := by
    intro G cI e s2 h58 hc
    refine w_go z_hl [] [83] 20 e.1 ?_
    intro H hH
    have f : y_fr G H [] [] := y_st (y_rf e.1) hH (by repeat (first | exact w_nil | refine w_cons (Or.inl (y_m rfl)) ?_ | refine w_cons (Or.inr (by assumption)) ?_)) (by repeat (first | exact w_nil | refine w_cons (Or.inl (y_m rfl)) ?_ | refine w_cons (Or.inr (by assumption)) ?_))
    refine c_isDg (c := cI) f.1 (fun H2 f2 w => ⟨fun n e => (by cases e), ?_⟩) (fun H2 f2 w => ⟨fun n e => (by cases e), ?_⟩)
    · exact T38 true (y_sq (y_sq e f rfl rfl) f2 rfl rfl) (tx_s_fr (tx_s_fr s2 f rfl rfl) f2 rfl rfl) h58 (fun _ => ⟨by omega, by omega⟩) (fun z => absurd z (by decide))
    · exact T38 false (y_sq (y_sq e f rfl rfl) f2 rfl rfl) (tx_s_fr (tx_s_fr s2 f rfl rfl) f2 rfl rfl) h58 (fun z => absurd z (by decide)) (fun _ z => w ⟨by have := z.1; omega, by have := z.2; omega⟩)
  have T14 : ∀ {G : aH} {cI : Int32}, y_fr h G [1538] [97] → tx_s nd G sg t (pr_dq (y_N sg) t 8 p) → cI.toInt = pr_k (y_N sg) t (pr_dq (y_N sg) t 8 p) → aOK s_P X (d + 2) a_m84 14 [some (.ref 14), some (.ref 94), some (.int sI)] [.int cI] G C S K0 := by
    intro G cI e s2 hc
    obtain ⟨toJ, atJ, -, b1, b2, b3, b4, b5, b6, qt, -⟩ := id s2
    refine w_go z_hl [] [82] 40 e.1 ?_
    refine ⟨fun z => ?_, fun z => ⟨by decide, fun H hH => ?_⟩⟩
    · have y1 : cI.toInt = ((Int8.ofInt 58).toInt32).toInt := (y_ci .eq _ _).mp z
      rw [c58, hc] at y1
      have qt' := pr_k_t (by decide) y1
      have inc : (atJ + Int32.ofInt 1).toInt = ((pr_dq (y_N sg) t 8 p + 1 : Nat) : Int) := by rw [y_inc (by omega), b5]; rfl
      intro x hx _ _
      obtain rfl := y_fi b4 hx
      refine ⟨rfl, y_zini (by show 0 ≤ (atJ + Int32.ofInt 1).toInt; omega) (by show (atJ + Int32.ofInt 1).toInt ≤ 40; omega), fun H hH => ?_⟩
      have f : y_fr G H [1538] [] := y_st (y_mo (y_rf e.1) rfl rfl) hH (by repeat (first | exact w_nil | refine w_cons (Or.inl (y_m rfl)) ?_ | refine w_cons (Or.inr (by assumption)) ?_)) (by repeat (first | exact w_nil | refine w_cons (Or.inl (y_m rfl)) ?_ | refine w_cons (Or.inr (by assumption)) ?_))
      have s3 := tx_s_at s2 f rfl (hH.2.1 1538 _ rfl) inc (by omega)
      refine c_lkT s3 (fun r H2 f2 er => ⟨fun n e => (by cases e), ?_⟩)
      exact T35 (y_sq (y_sq e f rfl rfl) f2 rfl rfl) (tx_s_fr s3 f2 rfl rfl) y1 er
    · have y1 : ¬ (cI.toInt = ((Int8.ofInt 58).toInt32).toInt) := y_cif z
      rw [c58, hc] at y1
      have f : y_fr G H [] [] := y_st (y_rf e.1) hH (by repeat (first | exact w_nil | refine w_cons (Or.inl (y_m rfl)) ?_ | refine w_cons (Or.inr (by assumption)) ?_)) (by repeat (first | exact w_nil | refine w_cons (Or.inl (y_m rfl)) ?_ | refine w_cons (Or.inr (by assumption)) ?_))
      exact hK false _ H (y_mo (y_sq e f rfl rfl) rfl rfl) (tx_s_fr s2 f rfl rfl) (pr_rt_n y1)
  have T9 : ∀ {G : aH} {r : Int32}, y_fr h G [1538] [] → tx_s nd G sg t (pr_dq (y_N sg) t 8 p) → aOK s_P X (d + 2) a_m84 9 [some (.ref 14), some (.ref 94), some (.int sI)] [.int r, .int sI, .ref 99] G C S K0 := by
    intro G r e s2
    refine w_go z_hl [] [82] 30 e.1 ?_
    refine ⟨⟨by omega, by omega⟩, y_l32 _, fun l hl len bb => fun H hH => ?_⟩
    have f : y_fr G H [] [97] := y_st (y_mo (y_rf e.1) rfl rfl) hH (by repeat (first | exact w_nil | refine w_cons (Or.inl (y_m rfl)) ?_ | refine w_cons (Or.inr (by assumption)) ?_)) (by repeat (first | exact w_nil | refine w_cons (Or.inl (y_m rfl)) ?_ | refine w_cons (Or.inr (by assumption)) ?_))
    refine c_lkT (tx_s_fr s2 f rfl rfl) (fun r H2 f2 er => ⟨fun n e => (by cases e), ?_⟩)
    exact T14 (y_sq (y_sq (y_mo e rfl rfl) f rfl rfl) f2 rfl rfl) (tx_s_fr (tx_s_fr s2 f rfl rfl) f2 rfl rfl) er
  refine w_go z_hl [] [85] 30 hr ?_
  intro H hH
  have f : y_fr h H [] [] := y_st (y_rf hr) hH (by repeat (first | exact w_nil | refine w_cons (Or.inl (y_m rfl)) ?_ | refine w_cons (Or.inr (by assumption)) ?_)) (by repeat (first | exact w_nil | refine w_cons (Or.inl (y_m rfl)) ?_ | refine w_cons (Or.inr (by assumption)) ?_))
  refine c_number (d := d) (tx_s_fr s f rfl rfl) (fun r H2 f2 s3 => ⟨fun n e => (by cases e), ?_⟩)
  exact T9 (y_sq (y_mo f rfl rfl) f2 rfl rfl) s3
end PPT11
end PT33idf
section PT33idg
/-! ===== v21: clear, parseTerm, parseFirst, parseSecond of the class with saying 11 (laid by wip/tools/mk21e.py) ===== -/
section PFS11
variable {X : aX} {C S d : Nat} {K0 : Option Value → aH → Nat → Nat → Prop} {sg : List Int32} {t p : Nat} {nd : Int32} {h : aH}
theorem c_clearl11 : ∀ (m : Nat) (h : aH) (iI : Int32) (i : Nat) (fr : List Int32), w_hr z_D h → iI.toInt = i → i + m = 4 → w_a h 94 = some (0, .inl fr) → fr.length = 4 → (∀ j, j < i → y_N fr j = -1) → (∀ (H : aH) (fr' : List Int32), y_fr h H [] [94, 95, 96] → w_a H 94 = some (0, .inl fr') → (∀ j, j < 4 → y_N fr' j = -1) → K0 none H C S) → aOK s_P X d a_m79 13 [some (.ref 94), some (.int iI)] [] h C S K0 := by
  have c4 : (Int32.ofInt 4).toInt = 4 := by decide
  intro m
  induction m with
  | zero =>
    intro h iI i fr hr hi hm g len hf hK
    have ei : i = 4 := by omega
    rw [ei] at hf
    refine w_go z_hl [13] [] 30 hr ?_
    refine ⟨fun _ => fun H hH => ?_, fun z => ?_⟩
    · have f : y_fr h H [] [] := y_st (y_rf hr) hH (by repeat (first | exact w_nil | refine w_cons (Or.inl (y_m rfl)) ?_ | refine w_cons (Or.inr (by assumption)) ?_)) (by repeat (first | exact w_nil | refine w_cons (Or.inl (y_m rfl)) ?_ | refine w_cons (Or.inr (by assumption)) ?_))
      exact hK H fr (y_mo f rfl rfl) ((y_ae f rfl).trans g) hf
    · have y1 : ¬ ((Int32.ofInt 4).toInt ≤ iI.toInt) := y_cif z
      rw [c4] at y1
      exfalso
      omega
  | succ m ih =>
    intro h iI i fr hr hi hm g len hf hK
    have ink : (iI + Int32.ofInt 1).toInt = ((i + 1 : Nat) : Int) := by rw [y_inc (by omega), hi]; rfl
    have ci := y_cl1 hi
    refine w_go z_hl [13] [] 60 hr ?_
    refine ⟨fun z => ?_, fun z => ?_⟩
    · have y1 : (Int32.ofInt 4).toInt ≤ iI.toInt := (y_ci .ge _ _).mp z
      rw [c4] at y1
      exfalso
      omega
    · refine ⟨⟨by omega, by omega⟩, by decide, fun l hl len1 bb => ?_⟩
      obtain rfl := y_ai g hl
      refine ⟨⟨by omega, by omega⟩, y_l32 _, fun l2 hl2 len2 bb2 => ⟨⟨by omega, by omega⟩, y_l32 _, fun l3 hl3 len3 bb3 => fun H hH => ?_⟩⟩
      have w := hH.2.2.1 94 _ rfl
      rw [ci] at w
      have f : y_fr h H [] [94, 95, 96] := y_st (y_mo (y_rf hr) rfl rfl) hH (by repeat (first | exact w_nil | refine w_cons (Or.inl (y_m rfl)) ?_ | refine w_cons (Or.inr (by assumption)) ?_)) (by repeat (first | exact w_nil | refine w_cons (Or.inl (y_m rfl)) ?_ | refine w_cons (Or.inr (by assumption)) ?_))
      refine ih H _ (i + 1) _ f.1 ink (by omega) w (by rw [List.length_set]; exact len) (fun j hj => ?_) (fun H' fr' f1 f2 f3 => hK H' fr' (y_sq f f1 rfl rfl) f2 f3)
      rw [y_Nset (by omega)]
      by_cases y : j = i
      · rw [if_pos y]
        decide
      · rw [if_neg y]
        exact hf j (by omega)
theorem c_clear11 (hr : w_hr z_D h) (hK : ∀ (H : aH) (fr : List Int32), y_fr h H [11777, 11778] [94, 95, 96] → w_a H 94 = some (0, .inl fr) → (∀ j, j < 4 → y_N fr j = -1) → K0 none H C S) : aOK s_P X d a_m79 0 [some (.ref 94), none] [] h C S K0 := by
  refine w_go z_hl [13] [] 30 hr ?_
  refine ⟨rfl, y_zini (by decide) (by decide), rfl, y_zini (by decide) (by decide), fun H hH => ?_⟩
  have f : y_fr h H [11777, 11778] [] := y_st (y_mo (y_rf hr) rfl rfl) hH (by repeat (first | exact w_nil | refine w_cons (Or.inl (y_m rfl)) ?_ | refine w_cons (Or.inr (by assumption)) ?_)) (by repeat (first | exact w_nil | refine w_cons (Or.inl (y_m rfl)) ?_ | refine w_cons (Or.inr (by assumption)) ?_))
  obtain ⟨fr, f1, fl, -⟩ := c_arr f.1 (ob := 94) (n := 4) (lo := -1) (hi := 40) rfl
  exact c_clearl11 4 H _ 0 fr f.1 (by decide) rfl f1 fl (fun j hj => absurd hj (Nat.not_lt_zero j)) (fun H' fr' e1 e2 e3 => hK H' fr' (y_sq (y_mo f rfl rfl) e1 rfl rfl) e2 e3)
theorem c_tm11 (n0 : 0 ≤ nd.toInt) (n10 : nd.toInt ≤ 10) {sI : Int32} {sd : Nat} (hs : sI.toInt = sd) (hs2 : sd < 2) (s : tx_s nd h sg t p) {fr : List Int32} (gf : w_a h 94 = some (0, .inl fr)) (hK : ∀ (b : Bool) (q k : Nat) (H : aH) (fr' : List Int32), y_fr h H [1538] [94, 95, 96, 97, 98] → tx_s nd H sg t q → pr_tm (y_N sg) t nd.toInt p = (b, q, k) → w_a H 94 = some (0, .inl fr') → (k = 0 ∧ fr' = fr) ∨ tx_f fr fr' sd k → K0 (some (.int (y_01 b))) H C S) : aOK s_P X (d + 4) a_m81 0 [some (.ref 14), some (.ref 94), some (.int sI)] [] h C S K0 := by
  have hr := (tx_s_hr s).1
  have T25 : ∀ {G : aH} {b : Bool} {q k : Nat} {pc : Nat} {fr' : List Int32}, (pc = 16 ∨ pc = 25) → y_fr h G [1538] [94, 95, 96, 97, 98] → tx_s nd G sg t q → pr_tm (y_N sg) t nd.toInt p = (b, q, k) → w_a G 94 = some (0, .inl fr') → (k = 0 ∧ fr' = fr) ∨ tx_f fr fr' sd k → aOK s_P X (d + 4) a_m81 pc [some (.ref 14), some (.ref 94), some (.int sI)] [.int (y_01 b)] G C S K0 := by
    intro G b q k pc fr' hpc e s2 hg g2 hf
    rcases hpc with rfl | rfl
    · refine w_go z_hl [] [] 20 e.1 ?_
      refine ⟨y_01b b, fun H hH => ?_⟩
      have f : y_fr G H [] [] := y_st (y_rf e.1) hH (by repeat (first | exact w_nil | refine w_cons (Or.inl (y_m rfl)) ?_ | refine w_cons (Or.inr (by assumption)) ?_)) (by repeat (first | exact w_nil | refine w_cons (Or.inl (y_m rfl)) ?_ | refine w_cons (Or.inr (by assumption)) ?_))
      exact hK b q k H fr' (y_sq e f rfl rfl) (tx_s_fr s2 f rfl rfl) hg ((y_ae f rfl).trans g2) hf
    · refine w_go z_hl [] [] 20 e.1 ?_
      refine ⟨y_01b b, fun H hH => ?_⟩
      have f : y_fr G H [] [] := y_st (y_rf e.1) hH (by repeat (first | exact w_nil | refine w_cons (Or.inl (y_m rfl)) ?_ | refine w_cons (Or.inr (by assumption)) ?_)) (by repeat (first | exact w_nil | refine w_cons (Or.inl (y_m rfl)) ?_ | refine w_cons (Or.inr (by assumption)) ?_))
      exact hK b q k H fr' (y_sq e f rfl rfl) (tx_s_fr s2 f rfl rfl) hg ((y_ae f rfl).trans g2) hf
  have T7 : ∀ {G : aH} (b : Bool), y_fr h G [] [] → (b = true → pr_dg (y_N sg) t p) → (b = false → ¬ pr_dg (y_N sg) t p) → aOK s_P X (d + 4) a_m81 7 [some (.ref 14), some (.ref 94), some (.int sI)] [.int (y_01 b)] G C S K0 := by
    intro G b e hy hn
    cases b with
    | true =>
      refine w_go z_hl [] [84, 86] 30 e.1 ?_
      refine ⟨fun z => absurd z (by decide), fun _ => fun H hH => ?_⟩
      have f : y_fr h H [] [] := y_st e hH (by repeat (first | exact w_nil | refine w_cons (Or.inl (y_m rfl)) ?_ | refine w_cons (Or.inr (by assumption)) ?_)) (by repeat (first | exact w_nil | refine w_cons (Or.inl (y_m rfl)) ?_ | refine w_cons (Or.inr (by assumption)) ?_))
      refine c_rt11 (d := d + 1) hs hs2 (tx_s_fr s f rfl rfl) (fun b q H2 f2 s3 hg => ⟨fun n e => (by cases e), ?_⟩)
      exact T25 (k := 0) (Or.inl rfl) (y_sq (y_mo f rfl rfl) f2 rfl rfl) s3 (by rw [pr_tm_1 (hy rfl)]; exact hg) ((y_ae f2 rfl).trans ((y_ae f rfl).trans gf)) (Or.inl ⟨rfl, rfl⟩)
    | false =>
      refine w_go z_hl [] [84, 86] 30 e.1 ?_
      refine ⟨fun _ => fun H hH => ?_, fun z => absurd z (by decide)⟩
      have f : y_fr h H [] [] := y_st e hH (by repeat (first | exact w_nil | refine w_cons (Or.inl (y_m rfl)) ?_ | refine w_cons (Or.inr (by assumption)) ?_)) (by repeat (first | exact w_nil | refine w_cons (Or.inl (y_m rfl)) ?_ | refine w_cons (Or.inr (by assumption)) ?_))
      refine c_gv11 (d := d) n0 n10 hs hs2 (tx_s_fr s f rfl rfl) ((y_ae f rfl).trans gf) (fun b q k H2 fr' f2 s3 hg g3 hf => ⟨fun n e => (by cases e), ?_⟩)
      exact T25 (Or.inr rfl) (y_sq (y_mo f rfl rfl) f2 rfl rfl) s3 (by rw [pr_tm_0 (hn rfl)]; exact hg) g3 (Or.inr hf)
  have T4 : ∀ {G : aH} {cI : Int32}, y_fr h G [] [] → cI.toInt = pr_k (y_N sg) t p → aOK s_P X (d + 4) a_m81 4 [some (.ref 14), some (.ref 94), some (.int sI)] [.int cI] G C S K0 := by
    intro G cI e hc
    refine w_go z_hl [] [83] 20 e.1 ?_
    intro H hH
    have f : y_fr h H [] [] := y_st e hH (by repeat (first | exact w_nil | refine w_cons (Or.inl (y_m rfl)) ?_ | refine w_cons (Or.inr (by assumption)) ?_)) (by repeat (first | exact w_nil | refine w_cons (Or.inl (y_m rfl)) ?_ | refine w_cons (Or.inr (by assumption)) ?_))
    refine c_isDg (c := cI) f.1 (fun H2 f2 w => ⟨fun n e => (by cases e), ?_⟩) (fun H2 f2 w => ⟨fun n e => (by cases e), ?_⟩)
    · exact T7 true (y_sq f f2 rfl rfl) (fun _ => ⟨by omega, by omega⟩) (fun z => absurd z (by decide))
    · exact T7 false (y_sq f f2 rfl rfl) (fun z => absurd z (by decide)) (fun _ z => w ⟨by have := z.1; omega, by have := z.2; omega⟩)
  refine w_go z_hl [] [82] 20 hr ?_
  intro H hH
  have f : y_fr h H [] [] := y_st (y_rf hr) hH (by repeat (first | exact w_nil | refine w_cons (Or.inl (y_m rfl)) ?_ | refine w_cons (Or.inr (by assumption)) ?_)) (by repeat (first | exact w_nil | refine w_cons (Or.inl (y_m rfl)) ?_ | refine w_cons (Or.inr (by assumption)) ?_))
  refine c_lkT (tx_s_fr s f rfl rfl) (fun r H2 f2 er => ⟨fun n e => (by cases e), ?_⟩)
  exact T4 (y_sq f f2 rfl rfl) er
theorem c_isNum11 (hr : w_hr z_D h) {fr : List Int32} (gf : w_a h 94 = some (0, .inl fr)) (hK : ∀ (H : aH), y_fr h H [] [] → K0 (some (.int (y_01 (decide (y_N fr 0 = -1))))) H C S) : aOK s_P X d a_m89 0 [some (.ref 94), some (.int (Int32.ofInt 0))] [] h C S K0 := by
  have m1 : (Int32.ofInt 2 * Int32.ofInt 0).toInt = ((0 : Nat) : Int) := by decide
  have cm := y_cl1 m1
  have cn : (Int32.ofInt (-1)).toInt = -1 := by decide
  refine w_go z_hl [] [] 30 hr ?_
  refine ⟨⟨by decide, by decide⟩, fun l hl len bb => ?_⟩
  obtain rfl := y_ai gf hl
  refine ⟨fun z => ⟨by decide, fun H hH => ?_⟩, fun z => ⟨by decide, fun H hH => ?_⟩⟩
  · have y1 : (fr.getD (Int32.ofInt 2 * Int32.ofInt 0).toNatClampNeg 0).toInt ≠ (Int32.ofInt (-1)).toInt := (y_ci .ne _ _).mp z
    rw [cm, cn] at y1
    have w := hK H (y_st (y_rf hr) hH (by repeat (first | exact w_nil | refine w_cons (Or.inl (y_m rfl)) ?_ | refine w_cons (Or.inr (by assumption)) ?_)) (by repeat (first | exact w_nil | refine w_cons (Or.inl (y_m rfl)) ?_ | refine w_cons (Or.inr (by assumption)) ?_)))
    rw [decide_eq_false (show ¬ (y_N fr 0 = -1) from y1)] at w
    exact w
  · have y1 : ¬ ((fr.getD (Int32.ofInt 2 * Int32.ofInt 0).toNatClampNeg 0).toInt ≠ (Int32.ofInt (-1)).toInt) := y_cif z
    rw [cm, cn] at y1
    have w := hK H (y_st (y_rf hr) hH (by repeat (first | exact w_nil | refine w_cons (Or.inl (y_m rfl)) ?_ | refine w_cons (Or.inr (by assumption)) ?_)) (by repeat (first | exact w_nil | refine w_cons (Or.inl (y_m rfl)) ?_ | refine w_cons (Or.inr (by assumption)) ?_)))
    rw [decide_eq_true (show y_N fr 0 = -1 from Decidable.not_not.mp y1)] at w
    exact w
theorem c_first11 (n0 : 0 ≤ nd.toInt) (n10 : nd.toInt ≤ 10) (s : tx_s nd h sg t 0) {fr : List Int32} (gf : w_a h 94 = some (0, .inl fr)) (hf0 : y_N fr 0 = -1) (hf1 : y_N fr 1 = -1) (yes : ∀ (q k : Nat) (H : aH) (rel : Int32) (fr' : List Int32), y_fr h H [1538, 11778] [94, 95, 96, 97, 98] → tx_s nd H sg t (q + 1) → pr_tm (y_N sg) t nd.toInt 0 = (true, q, k) → w_f H 11778 = some (.int rel) → w_a H 94 = some (0, .inl fr') → ((pr_k (y_N sg) t q = 126 ∧ k = 1) ∧ rel.toInt = 126) ∨ (¬ (pr_k (y_N sg) t q = 126 ∧ k = 1) ∧ (pr_k (y_N sg) t q = 61 ∨ pr_k (y_N sg) t q = 60 ∨ pr_k (y_N sg) t q = 62) ∧ rel.toInt ≠ 126) → K0 (some (.int (y_01 true))) H C S) (no : ∀ (q : Nat) (H : aH), y_fr h H [1538, 11778] [94, 95, 96, 97, 98] → tx_s nd H sg t q → pr_sy (y_N sg) t nd.toInt = (false, q) → K0 (some (.int (y_01 false))) H C S) : aOK s_P X (d + 5) a_m80 0 [some (.ref 14), some (.ref 94), none, none] [] h C S K0 := by
  have hr := (tx_s_hr s).1
  have c126 : ((Int8.ofInt 126).toInt32).toInt = 126 := by decide
  have c61 : ((Int8.ofInt 61).toInt32).toInt = 61 := by decide
  have c60 : ((Int8.ofInt 60).toInt32).toInt = 60 := by decide
  have c62 : ((Int8.ofInt 62).toInt32).toInt = 62 := by decide
  have cn : (Int32.ofInt (-1)).toInt = -1 := by decide
  have T70 : ∀ {G : aH} {q k : Nat} {cI : Int32} {p3 : Option Value} {fr' : List Int32}, y_fr h G [1538, 11778] [94, 95, 96, 97, 98] → tx_s nd G sg t q → q < t → pr_tm (y_N sg) t nd.toInt 0 = (true, q, k) → w_a G 94 = some (0, .inl fr') → cI.toInt = pr_k (y_N sg) t q → 0 ≤ cI.toInt → cI.toInt ≤ 65535 → ((pr_k (y_N sg) t q = 126 ∧ k = 1) ∨ (¬ (pr_k (y_N sg) t q = 126 ∧ k = 1) ∧ (pr_k (y_N sg) t q = 61 ∨ pr_k (y_N sg) t q = 60 ∨ pr_k (y_N sg) t q = 62))) → aOK s_P X (d + 5) a_m80 70 [some (.ref 14), some (.ref 94), some (.int cI), p3] [] G C S K0 := by
    intro G q k cI p3 fr' e s2 qt ht g2 hc c0 c65 hw
    obtain ⟨toJ, atJ, -, b1, b2, b3, b4, b5, b6, -, t40⟩ := id s2
    have inc : (atJ + Int32.ofInt 1).toInt = ((q + 1 : Nat) : Int) := by rw [y_inc (by omega), b5]; rfl
    refine w_go z_hl [] [] 40 e.1 ?_
    refine ⟨y_fitC c0 c65, y_zini c0 c65, ?_⟩
    intro x hx _ _
    obtain rfl := y_fi b4 hx
    refine ⟨rfl, y_zini (by show 0 ≤ (atJ + Int32.ofInt 1).toInt; omega) (by show (atJ + Int32.ofInt 1).toInt ≤ 40; omega), by decide, fun H hH => ?_⟩
    have f : y_fr G H [1538, 11778] [] := y_st (y_mo (y_rf e.1) rfl rfl) hH (by repeat (first | exact w_nil | refine w_cons (Or.inl (y_m rfl)) ?_ | refine w_cons (Or.inr (by assumption)) ?_)) (by repeat (first | exact w_nil | refine w_cons (Or.inl (y_m rfl)) ?_ | refine w_cons (Or.inr (by assumption)) ?_))
    have s3 : tx_s nd H sg t (q + 1) := ⟨toJ, _, f.1, (y_ae f rfl).trans b1, (y_fe f rfl).trans b2, b3, hH.2.1 1538 _ rfl, inc, (y_fe f rfl).trans b6, by omega, t40⟩
    refine yes q k H cI fr' (y_sq e f rfl rfl) s3 ht (hH.2.1 11778 _ rfl) ((y_ae f rfl).trans g2) ?_
    rcases hw with w | ⟨w, w2⟩
    · exact Or.inl ⟨w, by rw [hc]; exact w.1⟩
    · refine Or.inr ⟨w, w2, ?_⟩
      rw [hc]
      rcases w2 with w3 | w3 | w3
      · omega
      · omega
      · omega
  have T45 : ∀ {G : aH} {q k : Nat} {cI : Int32} {fr' : List Int32} (b : Bool), y_fr h G [1538, 11778] [94, 95, 96, 97, 98] → tx_s nd G sg t q → pr_tm (y_N sg) t nd.toInt 0 = (true, q, k) → w_a G 94 = some (0, .inl fr') → cI.toInt = pr_k (y_N sg) t q → 0 ≤ cI.toInt → cI.toInt ≤ 65535 → (b = true → pr_k (y_N sg) t q = 126 ∧ k = 1) → (b = false → ¬ (pr_k (y_N sg) t q = 126 ∧ k = 1)) → aOK s_P X (d + 5) a_m80 45 [some (.ref 14), some (.ref 94), some (.int cI), none] [.int (y_01 b)] G C S K0 := by
    intro G q k cI fr' b e s2 ht g2 hc c0 c65 hy hn
    have f0 : y_fr G G [] [] := y_rf e.1
    have go : ∀ {H : aH} {p3 : Option Value}, y_fr G H [] [] → q < t → ((pr_k (y_N sg) t q = 126 ∧ k = 1) ∨ (¬ (pr_k (y_N sg) t q = 126 ∧ k = 1) ∧ (pr_k (y_N sg) t q = 61 ∨ pr_k (y_N sg) t q = 60 ∨ pr_k (y_N sg) t q = 62))) → aOK s_P X (d + 5) a_m80 70 [some (.ref 14), some (.ref 94), some (.int cI), p3] [] H C S K0 := fun f qt w => T70 (y_sq e f rfl rfl) (tx_s_fr s2 f rfl rfl) qt ht ((y_ae f rfl).trans g2) hc c0 c65 w
    have q61 : cI.toInt = 61 → ¬ (pr_k (y_N sg) t q = 126 ∧ k = 1) := fun z w => by have := w.1; omega
    have q60 : cI.toInt = 60 → ¬ (pr_k (y_N sg) t q = 126 ∧ k = 1) := fun z w => by have := w.1; omega
    have q62 : cI.toInt = 62 → ¬ (pr_k (y_N sg) t q = 126 ∧ k = 1) := fun z w => by have := w.1; omega
    cases b with
    | true =>
      refine w_go z_hl [70] [] 40 e.1 ?_
      refine ⟨fun z => fun H hH => ?_, fun z => ⟨fun z2 => fun H hH => ?_, fun z2 => ⟨fun z3 => fun H hH => ?_, fun z3 => ⟨fun _ => fun H hH => ?_, fun z4 => absurd z4 (by decide)⟩⟩⟩⟩
      · have y1 : cI.toInt = ((Int8.ofInt 61).toInt32).toInt := (y_ci .eq _ _).mp z
        rw [c61] at y1
        exact go (y_st f0 hH (by repeat (first | exact w_nil | refine w_cons (Or.inl (y_m rfl)) ?_ | refine w_cons (Or.inr (by assumption)) ?_)) (by repeat (first | exact w_nil | refine w_cons (Or.inl (y_m rfl)) ?_ | refine w_cons (Or.inr (by assumption)) ?_))) (pr_k_t (c := 61) (by decide) (hc.symm.trans y1)) (Or.inr ⟨q61 y1, Or.inl (hc.symm.trans y1)⟩)
      · have y1 : cI.toInt = ((Int8.ofInt 60).toInt32).toInt := (y_ci .eq _ _).mp z2
        rw [c60] at y1
        exact go (y_st f0 hH (by repeat (first | exact w_nil | refine w_cons (Or.inl (y_m rfl)) ?_ | refine w_cons (Or.inr (by assumption)) ?_)) (by repeat (first | exact w_nil | refine w_cons (Or.inl (y_m rfl)) ?_ | refine w_cons (Or.inr (by assumption)) ?_))) (pr_k_t (c := 60) (by decide) (hc.symm.trans y1)) (Or.inr ⟨q60 y1, Or.inr (Or.inl (hc.symm.trans y1))⟩)
      · have y1 : cI.toInt = ((Int8.ofInt 62).toInt32).toInt := (y_ci .eq _ _).mp z3
        rw [c62] at y1
        exact go (y_st f0 hH (by repeat (first | exact w_nil | refine w_cons (Or.inl (y_m rfl)) ?_ | refine w_cons (Or.inr (by assumption)) ?_)) (by repeat (first | exact w_nil | refine w_cons (Or.inl (y_m rfl)) ?_ | refine w_cons (Or.inr (by assumption)) ?_))) (pr_k_t (c := 62) (by decide) (hc.symm.trans y1)) (Or.inr ⟨q62 y1, Or.inr (Or.inr (hc.symm.trans y1))⟩)
      · exact go (y_st f0 hH (by repeat (first | exact w_nil | refine w_cons (Or.inl (y_m rfl)) ?_ | refine w_cons (Or.inr (by assumption)) ?_)) (by repeat (first | exact w_nil | refine w_cons (Or.inl (y_m rfl)) ?_ | refine w_cons (Or.inr (by assumption)) ?_))) (pr_k_t (c := 126) (by decide) (hy rfl).1) (Or.inl (hy rfl))
    | false =>
      refine w_go z_hl [70] [] 40 e.1 ?_
      refine ⟨fun z => fun H hH => ?_, fun z => ⟨fun z2 => fun H hH => ?_, fun z2 => ⟨fun z3 => fun H hH => ?_, fun z3 => ⟨fun z4 => absurd z4 (by decide), fun _ => ⟨by decide, fun H hH => ?_⟩⟩⟩⟩⟩
      · have y1 : cI.toInt = ((Int8.ofInt 61).toInt32).toInt := (y_ci .eq _ _).mp z
        rw [c61] at y1
        exact go (y_st f0 hH (by repeat (first | exact w_nil | refine w_cons (Or.inl (y_m rfl)) ?_ | refine w_cons (Or.inr (by assumption)) ?_)) (by repeat (first | exact w_nil | refine w_cons (Or.inl (y_m rfl)) ?_ | refine w_cons (Or.inr (by assumption)) ?_))) (pr_k_t (c := 61) (by decide) (hc.symm.trans y1)) (Or.inr ⟨q61 y1, Or.inl (hc.symm.trans y1)⟩)
      · have y1 : cI.toInt = ((Int8.ofInt 60).toInt32).toInt := (y_ci .eq _ _).mp z2
        rw [c60] at y1
        exact go (y_st f0 hH (by repeat (first | exact w_nil | refine w_cons (Or.inl (y_m rfl)) ?_ | refine w_cons (Or.inr (by assumption)) ?_)) (by repeat (first | exact w_nil | refine w_cons (Or.inl (y_m rfl)) ?_ | refine w_cons (Or.inr (by assumption)) ?_))) (pr_k_t (c := 60) (by decide) (hc.symm.trans y1)) (Or.inr ⟨q60 y1, Or.inr (Or.inl (hc.symm.trans y1))⟩)
      · have y1 : cI.toInt = ((Int8.ofInt 62).toInt32).toInt := (y_ci .eq _ _).mp z3
        rw [c62] at y1
        exact go (y_st f0 hH (by repeat (first | exact w_nil | refine w_cons (Or.inl (y_m rfl)) ?_ | refine w_cons (Or.inr (by assumption)) ?_)) (by repeat (first | exact w_nil | refine w_cons (Or.inl (y_m rfl)) ?_ | refine w_cons (Or.inr (by assumption)) ?_))) (pr_k_t (c := 62) (by decide) (hc.symm.trans y1)) (Or.inr ⟨q62 y1, Or.inr (Or.inr (hc.symm.trans y1))⟩)
      · have y1 : ¬ (cI.toInt = ((Int8.ofInt 61).toInt32).toInt) := y_cif z
        have y2 : ¬ (cI.toInt = ((Int8.ofInt 60).toInt32).toInt) := y_cif z2
        have y3 : ¬ (cI.toInt = ((Int8.ofInt 62).toInt32).toInt) := y_cif z3
        rw [c61, hc] at y1
        rw [c60, hc] at y2
        rw [c62, hc] at y3
        have f : y_fr G H [] [] := y_st f0 hH (by repeat (first | exact w_nil | refine w_cons (Or.inl (y_m rfl)) ?_ | refine w_cons (Or.inr (by assumption)) ?_)) (by repeat (first | exact w_nil | refine w_cons (Or.inl (y_m rfl)) ?_ | refine w_cons (Or.inr (by assumption)) ?_))
        exact no q H (y_sq e f rfl rfl) (tx_s_fr s2 f rfl rfl) (pr_sy_x ht (hn rfl) (fun w => by rcases w with w | w | w; exact y1 w; exact y2 w; exact y3 w))
  have T27 : ∀ {G : aH} {q k : Nat} {cI : Int32} {fr' : List Int32} (b : Bool), y_fr h G [1538, 11778] [94, 95, 96, 97, 98] → tx_s nd G sg t q → pr_tm (y_N sg) t nd.toInt 0 = (true, q, k) → w_a G 94 = some (0, .inl fr') → cI.toInt = pr_k (y_N sg) t q → 0 ≤ cI.toInt → cI.toInt ≤ 65535 → pr_k (y_N sg) t q = 126 → (b = true → k = 0) → (b = false → k ≠ 0 ∧ (k = 1 → y_N fr' 1 = -1) ∧ (k ≠ 1 → 0 ≤ y_N fr' 1)) → aOK s_P X (d + 5) a_m80 27 [some (.ref 14), some (.ref 94), some (.int cI), none] [.int (y_01 b)] G C S K0 := by
    intro G q k cI fr' b e s2 ht g2 hc c0 c65 h126 hy hn
    have f0 : y_fr G G [] [] := y_rf e.1
    cases b with
    | true =>
      refine w_go z_hl [45] [] 30 e.1 ?_
      refine ⟨fun _ => fun H hH => ?_, fun z => absurd z (by decide)⟩
      have f : y_fr G H [] [] := y_st f0 hH (by repeat (first | exact w_nil | refine w_cons (Or.inl (y_m rfl)) ?_ | refine w_cons (Or.inr (by assumption)) ?_)) (by repeat (first | exact w_nil | refine w_cons (Or.inl (y_m rfl)) ?_ | refine w_cons (Or.inr (by assumption)) ?_))
      exact T45 false (y_sq e f rfl rfl) (tx_s_fr s2 f rfl rfl) ht ((y_ae f rfl).trans g2) hc c0 c65 (fun w => absurd w (by decide)) (fun _ w => by have := hy rfl; omega)
    | false =>
      obtain ⟨k0, k1, k2⟩ := hn rfl
      have i1 : (Int32.ofInt 1).toInt = ((1 : Nat) : Int) := by decide
      have ci1 := y_cl1 i1
      refine w_go z_hl [45] [] 30 e.1 ?_
      refine ⟨fun z => absurd z (by decide), fun _ => ⟨⟨by decide, by decide⟩, fun l hl len bb => ?_⟩⟩
      obtain rfl := y_ai g2 hl
      refine ⟨fun z => fun H hH => ?_, fun z => fun H hH => ?_⟩
      · have y1 : (fr'.getD (Int32.ofInt 1).toNatClampNeg 0).toInt ≠ (Int32.ofInt (-1)).toInt := (y_ci .ne _ _).mp z
        rw [ci1, cn] at y1
        have y2 : y_N fr' 1 ≠ -1 := y1
        have f : y_fr G H [] [] := y_st f0 hH (by repeat (first | exact w_nil | refine w_cons (Or.inl (y_m rfl)) ?_ | refine w_cons (Or.inr (by assumption)) ?_)) (by repeat (first | exact w_nil | refine w_cons (Or.inl (y_m rfl)) ?_ | refine w_cons (Or.inr (by assumption)) ?_))
        exact T45 false (y_sq e f rfl rfl) (tx_s_fr s2 f rfl rfl) ht ((y_ae f rfl).trans g2) hc c0 c65 (fun w => absurd w (by decide)) (fun _ w => y2 (k1 w.2))
      · have y1 : ¬ ((fr'.getD (Int32.ofInt 1).toNatClampNeg 0).toInt ≠ (Int32.ofInt (-1)).toInt) := y_cif z
        rw [ci1, cn] at y1
        have y2 : y_N fr' 1 = -1 := Decidable.not_not.mp y1
        have f : y_fr G H [] [] := y_st f0 hH (by repeat (first | exact w_nil | refine w_cons (Or.inl (y_m rfl)) ?_ | refine w_cons (Or.inr (by assumption)) ?_)) (by repeat (first | exact w_nil | refine w_cons (Or.inl (y_m rfl)) ?_ | refine w_cons (Or.inr (by assumption)) ?_))
        refine T45 true (y_sq e f rfl rfl) (tx_s_fr s2 f rfl rfl) ht ((y_ae f rfl).trans g2) hc c0 c65 (fun _ => ⟨h126, ?_⟩) (fun w => absurd w (by decide))
        rcases Nat.decEq k 1 with w | w
        · have := k2 w
          omega
        · exact w
  have T15 : ∀ {G : aH} {q k : Nat} {cI : Int32} {fr' : List Int32}, y_fr h G [1538, 11778] [94, 95, 96, 97, 98] → tx_s nd G sg t q → pr_tm (y_N sg) t nd.toInt 0 = (true, q, k) → w_a G 94 = some (0, .inl fr') → (k = 0 ∧ fr' = fr) ∨ tx_f fr fr' 0 k → cI.toInt = pr_k (y_N sg) t q → 0 ≤ cI.toInt → cI.toInt ≤ 65535 → aOK s_P X (d + 5) a_m80 15 [some (.ref 14), some (.ref 94), none, none] [.int cI] G C S K0 := by
    intro G q k cI fr' e s2 ht g2 hf hc c0 c65
    have f0 : y_fr G G [] [] := y_rf e.1
    refine w_go z_hl [45] [89] 30 e.1 ?_
    refine ⟨fun z => fun H hH => ?_, fun z => fun H hH => ?_⟩
    · have y1 : cI.toInt ≠ ((Int8.ofInt 126).toInt32).toInt := (y_ci .ne _ _).mp z
      rw [c126, hc] at y1
      have f : y_fr G H [] [] := y_st f0 hH (by repeat (first | exact w_nil | refine w_cons (Or.inl (y_m rfl)) ?_ | refine w_cons (Or.inr (by assumption)) ?_)) (by repeat (first | exact w_nil | refine w_cons (Or.inl (y_m rfl)) ?_ | refine w_cons (Or.inr (by assumption)) ?_))
      exact T45 false (y_sq e f rfl rfl) (tx_s_fr s2 f rfl rfl) ht ((y_ae f rfl).trans g2) hc c0 c65 (fun w => absurd w (by decide)) (fun _ w => y1 w.1)
    · have y1 : ¬ (cI.toInt ≠ ((Int8.ofInt 126).toInt32).toInt) := y_cif z
      rw [c126, hc] at y1
      have y2 : pr_k (y_N sg) t q = 126 := Decidable.not_not.mp y1
      have f : y_fr G H [] [] := y_st f0 hH (by repeat (first | exact w_nil | refine w_cons (Or.inl (y_m rfl)) ?_ | refine w_cons (Or.inr (by assumption)) ?_)) (by repeat (first | exact w_nil | refine w_cons (Or.inl (y_m rfl)) ?_ | refine w_cons (Or.inr (by assumption)) ?_))
      refine c_isNum11 f.1 ((y_ae f rfl).trans g2) (fun H2 f2 => ⟨fun n e => (by cases e), ?_⟩)
      have e3 := y_sq (y_sq e f rfl rfl) f2 rfl rfl
      have s3 := tx_s_fr (tx_s_fr s2 f rfl rfl) f2 rfl rfl
      have g3 := (y_ae f2 rfl).trans ((y_ae f rfl).trans g2)
      rcases hf with ⟨hf, hf'⟩ | ⟨hf, hg, hh, hi⟩
      · rw [decide_eq_true (show y_N fr' 0 = -1 by rw [hf']; exact hf0)]
        exact T27 true e3 s3 ht g3 hc c0 c65 y2 (fun _ => hf) (fun w => absurd w (by decide))
      · have hg' : 0 ≤ y_N fr' 0 := hg
        rw [decide_eq_false (show ¬ (y_N fr' 0 = -1) by omega)]
        refine T27 false e3 s3 ht g3 hc c0 c65 y2 (fun w => absurd w (by decide)) (fun _ => ⟨by omega, fun w => ?_, fun w => ?_⟩)
        · rw [hh w 1 (by decide)]
          exact hf1
        · exact (hi (by omega)).1
  have T6 : ∀ {G : aH} {q k : Nat} {fr' : List Int32} (b : Bool), y_fr h G [1538, 11778] [94, 95, 96, 97, 98] → tx_s nd G sg t q → pr_tm (y_N sg) t nd.toInt 0 = (b, q, k) → w_a G 94 = some (0, .inl fr') → (k = 0 ∧ fr' = fr) ∨ tx_f fr fr' 0 k → aOK s_P X (d + 5) a_m80 6 [some (.ref 14), some (.ref 94), none, none] [.int (y_01 b)] G C S K0 := by
    intro G q k fr' b e s2 ht g2 hf
    cases b with
    | true =>
      refine w_go z_hl [] [82] 30 e.1 ?_
      refine ⟨fun _ => fun H hH => ?_, fun z => absurd z (by decide)⟩
      have f : y_fr G H [] [] := y_st (y_rf e.1) hH (by repeat (first | exact w_nil | refine w_cons (Or.inl (y_m rfl)) ?_ | refine w_cons (Or.inr (by assumption)) ?_)) (by repeat (first | exact w_nil | refine w_cons (Or.inl (y_m rfl)) ?_ | refine w_cons (Or.inr (by assumption)) ?_))
      obtain ⟨sg', z1, z2, z3⟩ := w_arrI f.1 (o := 13) (t := 3) (n := 60) (lo := 0) (hi := 65535) (by decide) rfl
      have kb : 0 ≤ pr_k (y_N sg) t q ∧ pr_k (y_N sg) t q ≤ 65535 := by
        obtain ⟨-, -, -, b1, -, -, -, -, -, -, t40⟩ := tx_s_fr s2 f rfl rfl
        have e4 := w_a_at z1
        rw [b1] at e4
        obtain rfl : sg = sg' := by
          injection e4 with e5
          injection e5 with _ e6
          injection e6
        by_cases w : q < t
        · rw [pr_k_1 w]
          exact z3 _ (z_gd (0 : Int32) (show q < sg.length by omega))
        · rw [show pr_k (y_N sg) t q = 0 from if_neg w]
          decide
      refine c_lkT (tx_s_fr s2 f rfl rfl) (fun r H2 f2 er => ⟨fun n e => (by cases e), ?_⟩)
      exact T15 (y_sq (y_sq e f rfl rfl) f2 rfl rfl) (tx_s_fr (tx_s_fr s2 f rfl rfl) f2 rfl rfl) ht ((y_ae f2 rfl).trans ((y_ae f rfl).trans g2)) hf er (by omega) (by omega)
    | false =>
      refine w_go z_hl [] [82] 30 e.1 ?_
      refine ⟨fun z => absurd z (by decide), fun _ => ⟨by decide, fun H hH => ?_⟩⟩
      have f : y_fr G H [] [] := y_st (y_rf e.1) hH (by repeat (first | exact w_nil | refine w_cons (Or.inl (y_m rfl)) ?_ | refine w_cons (Or.inr (by assumption)) ?_)) (by repeat (first | exact w_nil | refine w_cons (Or.inl (y_m rfl)) ?_ | refine w_cons (Or.inr (by assumption)) ?_))
      exact no q H (y_sq e f rfl rfl) (tx_s_fr s2 f rfl rfl) (pr_sy_n ht)
  refine w_go z_hl [] [81] 20 hr ?_
  intro H hH
  have f : y_fr h H [] [] := y_st (y_rf hr) hH (by repeat (first | exact w_nil | refine w_cons (Or.inl (y_m rfl)) ?_ | refine w_cons (Or.inr (by assumption)) ?_)) (by repeat (first | exact w_nil | refine w_cons (Or.inl (y_m rfl)) ?_ | refine w_cons (Or.inr (by assumption)) ?_))
  refine c_tm11 (d := d) (sd := 0) n0 n10 (by decide) (by decide) (tx_s_fr s f rfl rfl) ((y_ae f rfl).trans gf) (fun b q k H2 fr' f2 s3 ht g3 hf => ⟨fun n e => (by cases e), ?_⟩)
  exact T6 b (y_sq (y_mo f rfl rfl) f2 rfl rfl) s3 ht g3 hf
theorem c_second11 (n0 : 0 ≤ nd.toInt) (n10 : nd.toInt ≤ 10) (s : tx_s nd h sg t p) {rel : Int32} (gr : w_f h 11778 = some (.int rel)) (hK : ∀ (b : Bool) (q k : Nat) (H : aH), y_fr h H [1538] [94, 95, 96, 97, 98] → tx_s nd H sg t q → (rel.toInt = 126 → pr_gv (y_N sg) t nd.toInt p = (b, q, k)) → (rel.toInt ≠ 126 → pr_tm (y_N sg) t nd.toInt p = (b, q, k)) → K0 (some (.int (y_01 b))) H C S) : aOK s_P X (d + 5) a_m90 0 [some (.ref 14), some (.ref 94)] [] h C S K0 := by
  have hr := (tx_s_hr s).1
  have c126 : ((Int8.ofInt 126).toInt32).toInt = 126 := by decide
  obtain ⟨fr, gf, -, -⟩ := c_arr hr (ob := 94) (n := 4) (lo := -1) (hi := 40) rfl
  have T22 : ∀ {G : aH} {b : Bool} {q k pc : Nat}, (pc = 13 ∨ pc = 22) → y_fr h G [1538] [94, 95, 96, 97, 98] → tx_s nd G sg t q → (rel.toInt = 126 → pr_gv (y_N sg) t nd.toInt p = (b, q, k)) → (rel.toInt ≠ 126 → pr_tm (y_N sg) t nd.toInt p = (b, q, k)) → aOK s_P X (d + 5) a_m90 pc [some (.ref 14), some (.ref 94)] [.int (y_01 b)] G C S K0 := by
    intro G b q k pc hpc e s2 h1 h2
    rcases hpc with rfl | rfl
    · refine w_go z_hl [] [] 20 e.1 ?_
      refine ⟨y_01b b, fun H hH => ?_⟩
      have f : y_fr G H [] [] := y_st (y_rf e.1) hH (by repeat (first | exact w_nil | refine w_cons (Or.inl (y_m rfl)) ?_ | refine w_cons (Or.inr (by assumption)) ?_)) (by repeat (first | exact w_nil | refine w_cons (Or.inl (y_m rfl)) ?_ | refine w_cons (Or.inr (by assumption)) ?_))
      exact hK b q k H (y_sq e f rfl rfl) (tx_s_fr s2 f rfl rfl) h1 h2
    · refine w_go z_hl [] [] 20 e.1 ?_
      refine ⟨y_01b b, fun H hH => ?_⟩
      have f : y_fr G H [] [] := y_st (y_rf e.1) hH (by repeat (first | exact w_nil | refine w_cons (Or.inl (y_m rfl)) ?_ | refine w_cons (Or.inr (by assumption)) ?_)) (by repeat (first | exact w_nil | refine w_cons (Or.inl (y_m rfl)) ?_ | refine w_cons (Or.inr (by assumption)) ?_))
      exact hK b q k H (y_sq e f rfl rfl) (tx_s_fr s2 f rfl rfl) h1 h2
  refine w_go z_hl [] [81, 86] 40 hr ?_
  intro x hx _ _
  obtain rfl := y_fi gr hx
  refine ⟨fun z => ⟨by decide, ⟨fun _ => fun H hH => ?_, fun z2 => absurd z2 (by decide)⟩⟩, fun z => ⟨by decide, ⟨fun z2 => absurd z2 (by decide), fun _ => fun H hH => ?_⟩⟩⟩
  · have y1 : rel.toInt ≠ ((Int8.ofInt 126).toInt32).toInt := (y_ci .ne _ _).mp z
    rw [c126] at y1
    have f : y_fr h H [] [] := y_st (y_rf hr) hH (by repeat (first | exact w_nil | refine w_cons (Or.inl (y_m rfl)) ?_ | refine w_cons (Or.inr (by assumption)) ?_)) (by repeat (first | exact w_nil | refine w_cons (Or.inl (y_m rfl)) ?_ | refine w_cons (Or.inr (by assumption)) ?_))
    refine c_tm11 (d := d) (sd := 1) n0 n10 (by decide) (by decide) (tx_s_fr s f rfl rfl) ((y_ae f rfl).trans gf) (fun b q k H2 fr' f2 s3 ht g3 hf => ⟨fun n e => (by cases e), ?_⟩)
    exact T22 (k := k) (Or.inr rfl) (y_sq (y_mo f rfl rfl) f2 rfl rfl) s3 (fun w => absurd w y1) (fun _ => ht)
  · have y1 : ¬ (rel.toInt ≠ ((Int8.ofInt 126).toInt32).toInt) := y_cif z
    rw [c126] at y1
    have f : y_fr h H [] [] := y_st (y_rf hr) hH (by repeat (first | exact w_nil | refine w_cons (Or.inl (y_m rfl)) ?_ | refine w_cons (Or.inr (by assumption)) ?_)) (by repeat (first | exact w_nil | refine w_cons (Or.inl (y_m rfl)) ?_ | refine w_cons (Or.inr (by assumption)) ?_))
    refine c_gv11 (d := d + 1) (sd := 1) n0 n10 (by decide) (by decide) (tx_s_fr s f rfl rfl) ((y_ae f rfl).trans gf) (fun b q k H2 fr' f2 s3 hg g3 hf => ⟨fun n e => (by cases e), ?_⟩)
    exact T22 (k := k) (Or.inl rfl) (y_sq (y_mo f rfl rfl) f2 rfl rfl) s3 (fun _ => hg) (fun w => absurd w y1)
end PFS11
end PT33idg
section PT33idh
/-! ===== v21: parse of the class with saying 11 (laid by wip/tools/mk21f.py) ===== -/
section PPS11
variable {X : aX} {C S d : Nat} {K0 : Option Value → aH → Nat → Nat → Prop} {sg : List Int32} {nd len : Int32} {h : aH}
theorem c_parse11 (hr : w_hr z_D h) (n0 : 0 ≤ nd.toInt) (n10 : nd.toInt ≤ 10) (l0 : 0 ≤ len.toInt) (l60 : len.toInt ≤ 60) (gs : w_a h 13 = some (3, .inl sg)) (hK : ∀ (r : Int32) (H : aH), y_fr h H [1538, 1539, 1540, 11777, 11778] [93, 94, 95, 96, 97, 98] → r.toInt = pr_wr (y_N sg) len.toInt.toNat nd.toInt → (pr_sy (y_N sg) (pr_t len.toInt.toNat) nd.toInt).2 ≤ pr_t len.toInt.toNat → K0 (some (.int r)) H C S) : aOK s_P X (d + 6) a_m78 0 [some (.ref 14), some (.int len), some (.int nd), some (.ref 94), none] [] h C S K0 := by
  have c40 : ((Int8.ofInt 40).toInt32).toInt = 40 := by decide
  have tl := pr_t_le (len := len.toInt.toNat)
  -- the end: whole or not
  have T56 : ∀ {G : aH} {q : Nat} (b : Bool), y_fr h G [1538, 1539, 1540, 11777, 11778] [94, 95, 96, 97, 98] → tx_s nd G sg (pr_t len.toInt.toNat) q → (pr_sy (y_N sg) (pr_t len.toInt.toNat) nd.toInt).2 = q → pr_wh (y_N sg) (pr_t len.toInt.toNat) nd.toInt = b → aOK s_P X (d + 6) a_m78 56 [some (.ref 14), some (.int len), some (.int nd), some (.ref 94), none] [.int (y_01 b)] G C S K0 := by
    intro G q b e s hq hb
    obtain ⟨toI, atI, -, a1, a2, a3, a4, a5, a6, pt, t40⟩ := id s
    have f0 : y_fr G G [] [] := y_rf e.1
    have out : ∀ {H : aH} {r : Int32}, y_fr G H [] [] → r.toInt = pr_wr (y_N sg) len.toInt.toNat nd.toInt → K0 (some (.int r)) H C S := fun f er => hK _ _ (y_mo (y_sq e f rfl rfl) rfl rfl) er (by omega)
    cases b with
    | true =>
      have ew : pr_wr (y_N sg) len.toInt.toNat nd.toInt = if 40 < len.toInt.toNat then 40 else -1 := if_pos hb
      have T97 : ∀ {H : aH}, y_fr G H [] [] → ¬ (40 < len.toInt.toNat) → aOK s_P X (d + 6) a_m78 97 [some (.ref 14), some (.int len), some (.int nd), some (.ref 94), some (.int (y_01 true))] [] H C S K0 := by
        intro H f nl
        refine w_go z_hl [111] [] 30 f.1 ?_
        intro x hx _ _
        obtain rfl := y_fi ((y_fe f rfl).trans a2) hx
        intro H2 h2
        have f2 : y_fr G H2 [] [] := y_st f h2 (by repeat (first | exact w_nil | refine w_cons (Or.inl (y_m rfl)) ?_ | refine w_cons (Or.inr (by assumption)) ?_)) (by repeat (first | exact w_nil | refine w_cons (Or.inl (y_m rfl)) ?_ | refine w_cons (Or.inr (by assumption)) ?_))
        refine y_copy3 (o := 13) (dd := 93) (m := pr_t len.toInt.toNat) (n1 := 60) (n2 := 40) f2.1 a3 rfl rfl (by omega) (by omega) rfl rfl (by decide) (fun H3 f3 => ?_)
        show aOK s_P X (d + 6) a_m78 114 [some (.ref 14), some (.int len), some (.int nd), some (.ref 94), some (.int (y_01 true))] [] H3 C S K0
        have f4 : y_fr G H3 [] [93] := y_sq (y_mo f2 rfl rfl) f3 rfl rfl
        refine w_go z_hl [] [] 30 f3.1 ?_
        intro x hx x0 x40
        obtain rfl := y_fi ((y_fe f4 rfl).trans a2) hx
        refine ⟨rfl, y_zini x0 x40, fun H5 h5 => ?_⟩
        have f5 : y_fr H3 H5 [11777] [] := y_st (y_mo (y_rf f3.1) rfl rfl) h5 (by repeat (first | exact w_nil | refine w_cons (Or.inl (y_m rfl)) ?_ | refine w_cons (Or.inr (by assumption)) ?_)) (by repeat (first | exact w_nil | refine w_cons (Or.inl (y_m rfl)) ?_ | refine w_cons (Or.inr (by assumption)) ?_))
        refine hK _ H5 (y_sq (y_sq (y_mo e rfl rfl) f4 rfl rfl) f5 rfl rfl) ?_ (by omega)
        rw [ew, if_neg nl]
        decide
      refine w_go z_hl [97] [] 40 e.1 ?_
      refine ⟨fun _ => ⟨fun z => absurd z (by decide), fun _ => ?_⟩, fun z => absurd z (by decide)⟩
      intro x hx _ _
      obtain rfl := y_fi a2 hx
      refine ⟨fun z => fun H hH => ?_, fun z => fun H hH => ?_⟩
      · have y1 : len.toInt ≤ toI.toInt := (y_ci .le _ _).mp z
        exact T97 (y_st f0 hH (by repeat (first | exact w_nil | refine w_cons (Or.inl (y_m rfl)) ?_ | refine w_cons (Or.inr (by assumption)) ?_)) (by repeat (first | exact w_nil | refine w_cons (Or.inl (y_m rfl)) ?_ | refine w_cons (Or.inr (by assumption)) ?_))) (by omega)
      · have y1 : ¬ (len.toInt ≤ toI.toInt) := y_cif z
        have lt : 40 < len.toInt.toNat := by
          rcases Nat.lt_or_ge 40 len.toInt.toNat with w | w
          · exact w
          · have et : pr_t len.toInt.toNat = len.toInt.toNat := if_neg (by omega)
            omega
        have et : pr_t len.toInt.toNat = 40 := if_pos lt
        exact out (y_st f0 hH (by repeat (first | exact w_nil | refine w_cons (Or.inl (y_m rfl)) ?_ | refine w_cons (Or.inr (by assumption)) ?_)) (by repeat (first | exact w_nil | refine w_cons (Or.inl (y_m rfl)) ?_ | refine w_cons (Or.inr (by assumption)) ?_))) (by rw [ew, if_pos lt]; omega)
    | false =>
      have ew : pr_wr (y_N sg) len.toInt.toNat nd.toInt = (q : Nat) := by
        unfold pr_wr
        rw [if_neg (by rw [hb]; decide), hq]
      refine w_go z_hl [97] [] 40 e.1 ?_
      refine ⟨fun z => absurd z (by decide), fun _ => ?_⟩
      intro x hx _ _
      obtain rfl := y_fi a4 hx
      intro y hy _ _
      obtain rfl := y_fi a2 hy
      refine ⟨fun z => ⟨fun _ => fun H hH => ?_, fun z2 => absurd z2 (by decide)⟩, fun z => fun H hH => ?_⟩
      · have y1 : toI.toInt ≤ atI.toInt := (y_ci .ge _ _).mp z
        exact out (y_st f0 hH (by repeat (first | exact w_nil | refine w_cons (Or.inl (y_m rfl)) ?_ | refine w_cons (Or.inr (by assumption)) ?_)) (by repeat (first | exact w_nil | refine w_cons (Or.inl (y_m rfl)) ?_ | refine w_cons (Or.inr (by assumption)) ?_))) (by rw [ew]; omega)
      · exact out (y_st f0 hH (by repeat (first | exact w_nil | refine w_cons (Or.inl (y_m rfl)) ?_ | refine w_cons (Or.inr (by assumption)) ?_)) (by repeat (first | exact w_nil | refine w_cons (Or.inl (y_m rfl)) ?_ | refine w_cons (Or.inr (by assumption)) ?_))) (by rw [ew]; exact a5)
  have T37 : ∀ {G : aH} {q : Nat} (b : Bool), y_fr h G [1538, 1539, 1540, 11777, 11778] [94, 95, 96, 97, 98] → tx_s nd G sg (pr_t len.toInt.toNat) q → pr_sy (y_N sg) (pr_t len.toInt.toNat) nd.toInt = (b, q) → aOK s_P X (d + 6) a_m78 37 [some (.ref 14), some (.int len), some (.int nd), some (.ref 94), none] [.int (y_01 b)] G C S K0 := by
    intro G q b e s hs
    obtain ⟨toI, atI, -, a1, a2, a3, a4, a5, a6, pt, t40⟩ := id s
    have f0 : y_fr G G [] [] := y_rf e.1
    cases b with
    | true =>
      refine w_go z_hl [56] [] 40 e.1 ?_
      refine ⟨fun z => absurd z (by decide), fun _ => ?_⟩
      intro x hx _ _
      obtain rfl := y_fi a4 hx
      intro y hy _ _
      obtain rfl := y_fi a2 hy
      refine ⟨fun z => fun H hH => ?_, fun z => fun H hH => ?_⟩
      · have y1 : atI.toInt ≠ toI.toInt := (y_ci .ne _ _).mp z
        have f : y_fr G H [] [] := y_st f0 hH (by repeat (first | exact w_nil | refine w_cons (Or.inl (y_m rfl)) ?_ | refine w_cons (Or.inr (by assumption)) ?_)) (by repeat (first | exact w_nil | refine w_cons (Or.inl (y_m rfl)) ?_ | refine w_cons (Or.inr (by assumption)) ?_))
        refine T56 false (y_sq e f rfl rfl) (tx_s_fr s f rfl rfl) (by rw [hs]) ?_
        unfold pr_wh
        rw [hs]
        show (true && decide (q = pr_t len.toInt.toNat)) = false
        rw [decide_eq_false (by omega)]
        rfl
      · have y1 : ¬ (atI.toInt ≠ toI.toInt) := y_cif z
        have f : y_fr G H [] [] := y_st f0 hH (by repeat (first | exact w_nil | refine w_cons (Or.inl (y_m rfl)) ?_ | refine w_cons (Or.inr (by assumption)) ?_)) (by repeat (first | exact w_nil | refine w_cons (Or.inl (y_m rfl)) ?_ | refine w_cons (Or.inr (by assumption)) ?_))
        refine T56 true (y_sq e f rfl rfl) (tx_s_fr s f rfl rfl) (by rw [hs]) ?_
        unfold pr_wh
        rw [hs]
        show (true && decide (q = pr_t len.toInt.toNat)) = true
        rw [decide_eq_true (by omega)]
        rfl
    | false =>
      refine w_go z_hl [56] [] 40 e.1 ?_
      refine ⟨fun _ => fun H hH => ?_, fun z => absurd z (by decide)⟩
      have f : y_fr G H [] [] := y_st f0 hH (by repeat (first | exact w_nil | refine w_cons (Or.inl (y_m rfl)) ?_ | refine w_cons (Or.inr (by assumption)) ?_)) (by repeat (first | exact w_nil | refine w_cons (Or.inl (y_m rfl)) ?_ | refine w_cons (Or.inr (by assumption)) ?_))
      refine T56 false (y_sq e f rfl rfl) (tx_s_fr s f rfl rfl) (by rw [hs]) ?_
      unfold pr_wh
      rw [hs]
      rfl
  have T29n : ∀ {G : aH} {q : Nat}, y_fr h G [1538, 1539, 1540, 11777, 11778] [94, 95, 96, 97, 98] → tx_s nd G sg (pr_t len.toInt.toNat) q → pr_sy (y_N sg) (pr_t len.toInt.toNat) nd.toInt = (false, q) → aOK s_P X (d + 6) a_m78 29 [some (.ref 14), some (.int len), some (.int nd), some (.ref 94), none] [.int (y_01 false)] G C S K0 := by
    intro G q e s hs
    refine w_go z_hl [56] [] 40 e.1 ?_
    refine ⟨fun _ => fun H hH => ?_, fun z => absurd z (by decide)⟩
    have f : y_fr G H [] [] := y_st (y_rf e.1) hH (by repeat (first | exact w_nil | refine w_cons (Or.inl (y_m rfl)) ?_ | refine w_cons (Or.inr (by assumption)) ?_)) (by repeat (first | exact w_nil | refine w_cons (Or.inl (y_m rfl)) ?_ | refine w_cons (Or.inr (by assumption)) ?_))
    refine T56 false (y_sq e f rfl rfl) (tx_s_fr s f rfl rfl) (by rw [hs]) ?_
    unfold pr_wh
    rw [hs]
    rfl
  have T29 : ∀ {G : aH} {q k : Nat} {rel : Int32}, y_fr h G [1538, 1539, 1540, 11777, 11778] [94, 95, 96, 97, 98] → tx_s nd G sg (pr_t len.toInt.toNat) (q + 1) → pr_tm (y_N sg) (pr_t len.toInt.toNat) nd.toInt 0 = (true, q, k) → w_f G 11778 = some (.int rel) → ((pr_k (y_N sg) (pr_t len.toInt.toNat) q = 126 ∧ k = 1) ∧ rel.toInt = 126) ∨ (¬ (pr_k (y_N sg) (pr_t len.toInt.toNat) q = 126 ∧ k = 1) ∧ (pr_k (y_N sg) (pr_t len.toInt.toNat) q = 61 ∨ pr_k (y_N sg) (pr_t len.toInt.toNat) q = 60 ∨ pr_k (y_N sg) (pr_t len.toInt.toNat) q = 62) ∧ rel.toInt ≠ 126) → aOK s_P X (d + 6) a_m78 29 [some (.ref 14), some (.int len), some (.int nd), some (.ref 94), none] [.int (y_01 true)] G C S K0 := by
    intro G q k rel e s ht gr hw
    refine w_go z_hl [56] [90] 40 e.1 ?_
    refine ⟨fun z => absurd z (by decide), fun _ => fun H hH => ?_⟩
    have f : y_fr G H [] [] := y_st (y_rf e.1) hH (by repeat (first | exact w_nil | refine w_cons (Or.inl (y_m rfl)) ?_ | refine w_cons (Or.inr (by assumption)) ?_)) (by repeat (first | exact w_nil | refine w_cons (Or.inl (y_m rfl)) ?_ | refine w_cons (Or.inr (by assumption)) ?_))
    refine c_second11 (d := d) n0 n10 (tx_s_fr s f rfl rfl) ((y_fe f rfl).trans gr) (fun b r k2 H2 f2 s3 h1 h2 => ⟨fun n e => (by cases e), ?_⟩)
    refine T37 b (y_sq (y_sq e f rfl rfl) f2 rfl rfl) s3 ?_
    rcases hw with ⟨⟨w1, w2⟩, w3⟩ | ⟨w1, w2, w3⟩
    · rw [w2] at ht
      exact pr_sy_b ht w1 (h1 w3)
    · exact pr_sy_c ht w1 w2 (h2 w3)
  have T24 : ∀ {G : aH} {fr : List Int32}, y_fr h G [1538, 1539, 1540, 11777, 11778] [94, 95, 96, 97, 98] → tx_s nd G sg (pr_t len.toInt.toNat) 0 → w_a G 94 = some (0, .inl fr) → (∀ j, j < 4 → y_N fr j = -1) → aOK s_P X (d + 6) a_m78 24 [some (.ref 14), some (.int len), some (.int nd), some (.ref 94), none] [] G C S K0 := by
    intro G fr e s g hf
    refine w_go z_hl [56] [80] 40 e.1 ?_
    intro H hH
    have f : y_fr G H [] [] := y_st (y_rf e.1) hH (by repeat (first | exact w_nil | refine w_cons (Or.inl (y_m rfl)) ?_ | refine w_cons (Or.inr (by assumption)) ?_)) (by repeat (first | exact w_nil | refine w_cons (Or.inl (y_m rfl)) ?_ | refine w_cons (Or.inr (by assumption)) ?_))
    refine c_first11 (d := d) n0 n10 (tx_s_fr s f rfl rfl) ((y_ae f rfl).trans g) (hf 0 (by decide)) (hf 1 (by decide)) (fun q k H2 rel fr' f2 s3 ht gr g3 hw => ⟨fun n e => (by cases e), ?_⟩) (fun q H2 f2 s3 hs => ⟨fun n e => (by cases e), ?_⟩)
    · exact T29 (y_sq (y_sq e f rfl rfl) f2 rfl rfl) s3 ht gr hw
    · exact T29n (y_sq (y_sq e f rfl rfl) f2 rfl rfl) s3 hs
  refine w_go z_hl [56] [79] 60 hr ?_
  refine ⟨rfl, y_zini (by decide) (by decide), ?_⟩
  refine ⟨fun z => ⟨rfl, y_zini (by decide) (by decide), rfl, y_zini n0 n10, fun H hH => ?_⟩, fun z => ⟨rfl, y_zini l0 ?_, rfl, y_zini n0 n10, fun H hH => ?_⟩⟩
  · have y1 : ((Int8.ofInt 40).toInt32).toInt < len.toInt := (y_ci .gt _ _).mp z
    rw [c40] at y1
    have et : pr_t len.toInt.toNat = 40 := if_pos (by omega)
    have f : y_fr h H [1538, 1539, 1540] [] := y_st (y_mo (y_rf hr) rfl rfl) hH (by repeat (first | exact w_nil | refine w_cons (Or.inl (y_m rfl)) ?_ | refine w_cons (Or.inr (by assumption)) ?_)) (by repeat (first | exact w_nil | refine w_cons (Or.inl (y_m rfl)) ?_ | refine w_cons (Or.inr (by assumption)) ?_))
    have s : tx_s nd H sg (pr_t len.toInt.toNat) 0 := ⟨_, _, f.1, (y_ae f rfl).trans gs, hH.2.1 1539 _ rfl, by rw [et]; exact c40, hH.2.1 1538 _ rfl, rfl, hH.2.1 1540 _ rfl, Nat.zero_le _, tl.1⟩
    refine c_clear11 f.1 (fun H2 fr f2 g2 hf => ⟨fun n e => (by cases e), ?_⟩)
    exact T24 (y_sq (y_mo f rfl rfl) f2 rfl rfl) (tx_s_fr s f2 rfl rfl) g2 hf
  · have y1 : ¬ (((Int8.ofInt 40).toInt32).toInt < len.toInt) := y_cif z
    rw [c40] at y1
    show len.toInt ≤ 40
    omega
  · have y1 : ¬ (((Int8.ofInt 40).toInt32).toInt < len.toInt) := y_cif z
    rw [c40] at y1
    have et : pr_t len.toInt.toNat = len.toInt.toNat := if_neg (by omega)
    have f : y_fr h H [1538, 1539, 1540] [] := y_st (y_mo (y_rf hr) rfl rfl) hH (by repeat (first | exact w_nil | refine w_cons (Or.inl (y_m rfl)) ?_ | refine w_cons (Or.inr (by assumption)) ?_)) (by repeat (first | exact w_nil | refine w_cons (Or.inl (y_m rfl)) ?_ | refine w_cons (Or.inr (by assumption)) ?_))
    have s : tx_s nd H sg (pr_t len.toInt.toNat) 0 := ⟨_, _, f.1, (y_ae f rfl).trans gs, hH.2.1 1539 _ rfl, by rw [et]; omega, hH.2.1 1538 _ rfl, rfl, hH.2.1 1540 _ rfl, Nat.zero_le _, tl.1⟩
    refine c_clear11 f.1 (fun H2 fr f2 g2 hf => ⟨fun n e => (by cases e), ?_⟩)
    exact T24 (y_sq (y_mo f rfl rfl) f2 rfl rfl) (tx_s_fr s f2 rfl rfl) g2 hf
end PPS11
end PT33idh
section PT33idi
/-! ===== v21: say() of the class (laid by wip/tools/mk21g.py) ===== -/
theorem pr_m5 {x y : Int} (h : x = -1 - y) (h0 : 0 ≤ y) : ¬ 0 ≤ x := by omega
theorem pr_wr_b {T : Nat → Int} {len : Nat} {n : Int} (qt : (pr_sy T (pr_t len) n).2 ≤ pr_t len) : pr_wr T len n = -1 ∨ (0 ≤ pr_wr T len n ∧ pr_wr T len n ≤ 40) := by
  have tl := pr_t_le (len := len)
  unfold pr_wr
  by_cases w : pr_wh T (pr_t len) n = true
  · rw [if_pos w]
    by_cases l : 40 < len
    · rw [if_pos l]
      exact Or.inr ⟨by decide, by decide⟩
    · rw [if_neg l]
      exact Or.inl rfl
  · rw [if_neg w]
    exact Or.inr ⟨by omega, by omega⟩
/-- what a reading leaves of what both hold -/
def cs_k (h H : aH) : Prop := w_hr z_D H ∧ w_f H 15 = w_f h 15 ∧ w_f H 1537 = w_f h 1537 ∧ w_a H 13 = w_a h 13 ∧ w_f H 19603 = w_f h 19603 ∧ w_f H 19612 = w_f h 19612 ∧ w_a H 171 = w_a h 171
section PCS
variable {X : aX} {C S d : Nat} {K0 : Option Value → aH → Nat → Nat → Prop}
theorem c_sayi0 {G : aH} {len nd : Int32} {sg : List Int32} (hr : w_hr z_D G) (n0 : 0 ≤ nd.toInt) (n10 : nd.toInt ≤ 10) (l0 : 0 ≤ len.toInt) (l60 : len.toInt ≤ 60) (gs : w_a G 13 = some (3, .inl sg)) (hK : ∀ (r : Int32) (H : aH), cs_k G H → r.toInt = pr_wr (y_N sg) len.toInt.toNat nd.toInt → (pr_sy (y_N sg) (pr_t len.toInt.toNat) nd.toInt).2 ≤ pr_t len.toInt.toNat → aOK s_P X (d + 7) a_m77 52 [some (.ref 2), some (.int len), none] [.int r] H C S K0) : aOK s_P X (d + 7) a_m77 49 [some (.ref 2), some (.int len), none] [.ref 17, .int nd, .int len, .ref 14] G C S K0 := by
  refine w_go z_hl [] [78] 20 hr ?_
  intro H hH
  have f : y_fr G H [] [] := y_st (y_rf hr) hH (by repeat (first | exact w_nil | refine w_cons (Or.inl (y_m rfl)) ?_ | refine w_cons (Or.inr (by assumption)) ?_)) (by repeat (first | exact w_nil | refine w_cons (Or.inl (y_m rfl)) ?_ | refine w_cons (Or.inr (by assumption)) ?_))
  refine c_parse0 (d := d) f.1 n0 n10 l0 l60 ((y_ae f rfl).trans gs) (fun r H2 f2 er hq => ⟨fun n e => (by cases e), ?_⟩)
  exact hK r H2 ⟨f2.1, (y_fe f2 rfl).trans (y_fe f rfl), (y_fe f2 rfl).trans (y_fe f rfl), (y_ae f2 rfl).trans (y_ae f rfl), (y_fe f2 rfl).trans (y_fe f rfl), (y_fe f2 rfl).trans (y_fe f rfl), (y_ae f2 rfl).trans (y_ae f rfl)⟩ er hq
theorem c_sayi1 {G : aH} {len nd : Int32} {sg : List Int32} (hr : w_hr z_D G) (n0 : 0 ≤ nd.toInt) (n10 : nd.toInt ≤ 10) (l0 : 0 ≤ len.toInt) (l60 : len.toInt ≤ 60) (gs : w_a G 13 = some (3, .inl sg)) (hK : ∀ (r : Int32) (H : aH), cs_k G H → r.toInt = pr_wr (y_N sg) len.toInt.toNat nd.toInt → (pr_sy (y_N sg) (pr_t len.toInt.toNat) nd.toInt).2 ≤ pr_t len.toInt.toNat → aOK s_P X (d + 7) a_m77 52 [some (.ref 2), some (.int len), none] [.int r] H C S K0) : aOK s_P X (d + 7) a_m77 49 [some (.ref 2), some (.int len), none] [.ref 24, .int nd, .int len, .ref 14] G C S K0 := by
  refine w_go z_hl [] [78] 20 hr ?_
  intro H hH
  have f : y_fr G H [] [] := y_st (y_rf hr) hH (by repeat (first | exact w_nil | refine w_cons (Or.inl (y_m rfl)) ?_ | refine w_cons (Or.inr (by assumption)) ?_)) (by repeat (first | exact w_nil | refine w_cons (Or.inl (y_m rfl)) ?_ | refine w_cons (Or.inr (by assumption)) ?_))
  refine c_parse1 (d := d) f.1 n0 n10 l0 l60 ((y_ae f rfl).trans gs) (fun r H2 f2 er hq => ⟨fun n e => (by cases e), ?_⟩)
  exact hK r H2 ⟨f2.1, (y_fe f2 rfl).trans (y_fe f rfl), (y_fe f2 rfl).trans (y_fe f rfl), (y_ae f2 rfl).trans (y_ae f rfl), (y_fe f2 rfl).trans (y_fe f rfl), (y_fe f2 rfl).trans (y_fe f rfl), (y_ae f2 rfl).trans (y_ae f rfl)⟩ er hq
theorem c_sayi2 {G : aH} {len nd : Int32} {sg : List Int32} (hr : w_hr z_D G) (n0 : 0 ≤ nd.toInt) (n10 : nd.toInt ≤ 10) (l0 : 0 ≤ len.toInt) (l60 : len.toInt ≤ 60) (gs : w_a G 13 = some (3, .inl sg)) (hK : ∀ (r : Int32) (H : aH), cs_k G H → r.toInt = pr_wr (y_N sg) len.toInt.toNat nd.toInt → (pr_sy (y_N sg) (pr_t len.toInt.toNat) nd.toInt).2 ≤ pr_t len.toInt.toNat → aOK s_P X (d + 7) a_m77 52 [some (.ref 2), some (.int len), none] [.int r] H C S K0) : aOK s_P X (d + 7) a_m77 49 [some (.ref 2), some (.int len), none] [.ref 31, .int nd, .int len, .ref 14] G C S K0 := by
  refine w_go z_hl [] [78] 20 hr ?_
  intro H hH
  have f : y_fr G H [] [] := y_st (y_rf hr) hH (by repeat (first | exact w_nil | refine w_cons (Or.inl (y_m rfl)) ?_ | refine w_cons (Or.inr (by assumption)) ?_)) (by repeat (first | exact w_nil | refine w_cons (Or.inl (y_m rfl)) ?_ | refine w_cons (Or.inr (by assumption)) ?_))
  refine c_parse2 (d := d) f.1 n0 n10 l0 l60 ((y_ae f rfl).trans gs) (fun r H2 f2 er hq => ⟨fun n e => (by cases e), ?_⟩)
  exact hK r H2 ⟨f2.1, (y_fe f2 rfl).trans (y_fe f rfl), (y_fe f2 rfl).trans (y_fe f rfl), (y_ae f2 rfl).trans (y_ae f rfl), (y_fe f2 rfl).trans (y_fe f rfl), (y_fe f2 rfl).trans (y_fe f rfl), (y_ae f2 rfl).trans (y_ae f rfl)⟩ er hq
theorem c_sayi3 {G : aH} {len nd : Int32} {sg : List Int32} (hr : w_hr z_D G) (n0 : 0 ≤ nd.toInt) (n10 : nd.toInt ≤ 10) (l0 : 0 ≤ len.toInt) (l60 : len.toInt ≤ 60) (gs : w_a G 13 = some (3, .inl sg)) (hK : ∀ (r : Int32) (H : aH), cs_k G H → r.toInt = pr_wr (y_N sg) len.toInt.toNat nd.toInt → (pr_sy (y_N sg) (pr_t len.toInt.toNat) nd.toInt).2 ≤ pr_t len.toInt.toNat → aOK s_P X (d + 7) a_m77 52 [some (.ref 2), some (.int len), none] [.int r] H C S K0) : aOK s_P X (d + 7) a_m77 49 [some (.ref 2), some (.int len), none] [.ref 38, .int nd, .int len, .ref 14] G C S K0 := by
  refine w_go z_hl [] [78] 20 hr ?_
  intro H hH
  have f : y_fr G H [] [] := y_st (y_rf hr) hH (by repeat (first | exact w_nil | refine w_cons (Or.inl (y_m rfl)) ?_ | refine w_cons (Or.inr (by assumption)) ?_)) (by repeat (first | exact w_nil | refine w_cons (Or.inl (y_m rfl)) ?_ | refine w_cons (Or.inr (by assumption)) ?_))
  refine c_parse3 (d := d) f.1 n0 n10 l0 l60 ((y_ae f rfl).trans gs) (fun r H2 f2 er hq => ⟨fun n e => (by cases e), ?_⟩)
  exact hK r H2 ⟨f2.1, (y_fe f2 rfl).trans (y_fe f rfl), (y_fe f2 rfl).trans (y_fe f rfl), (y_ae f2 rfl).trans (y_ae f rfl), (y_fe f2 rfl).trans (y_fe f rfl), (y_fe f2 rfl).trans (y_fe f rfl), (y_ae f2 rfl).trans (y_ae f rfl)⟩ er hq
theorem c_sayi4 {G : aH} {len nd : Int32} {sg : List Int32} (hr : w_hr z_D G) (n0 : 0 ≤ nd.toInt) (n10 : nd.toInt ≤ 10) (l0 : 0 ≤ len.toInt) (l60 : len.toInt ≤ 60) (gs : w_a G 13 = some (3, .inl sg)) (hK : ∀ (r : Int32) (H : aH), cs_k G H → r.toInt = pr_wr (y_N sg) len.toInt.toNat nd.toInt → (pr_sy (y_N sg) (pr_t len.toInt.toNat) nd.toInt).2 ≤ pr_t len.toInt.toNat → aOK s_P X (d + 7) a_m77 52 [some (.ref 2), some (.int len), none] [.int r] H C S K0) : aOK s_P X (d + 7) a_m77 49 [some (.ref 2), some (.int len), none] [.ref 45, .int nd, .int len, .ref 14] G C S K0 := by
  refine w_go z_hl [] [78] 20 hr ?_
  intro H hH
  have f : y_fr G H [] [] := y_st (y_rf hr) hH (by repeat (first | exact w_nil | refine w_cons (Or.inl (y_m rfl)) ?_ | refine w_cons (Or.inr (by assumption)) ?_)) (by repeat (first | exact w_nil | refine w_cons (Or.inl (y_m rfl)) ?_ | refine w_cons (Or.inr (by assumption)) ?_))
  refine c_parse4 (d := d) f.1 n0 n10 l0 l60 ((y_ae f rfl).trans gs) (fun r H2 f2 er hq => ⟨fun n e => (by cases e), ?_⟩)
  exact hK r H2 ⟨f2.1, (y_fe f2 rfl).trans (y_fe f rfl), (y_fe f2 rfl).trans (y_fe f rfl), (y_ae f2 rfl).trans (y_ae f rfl), (y_fe f2 rfl).trans (y_fe f rfl), (y_fe f2 rfl).trans (y_fe f rfl), (y_ae f2 rfl).trans (y_ae f rfl)⟩ er hq
theorem c_sayi5 {G : aH} {len nd : Int32} {sg : List Int32} (hr : w_hr z_D G) (n0 : 0 ≤ nd.toInt) (n10 : nd.toInt ≤ 10) (l0 : 0 ≤ len.toInt) (l60 : len.toInt ≤ 60) (gs : w_a G 13 = some (3, .inl sg)) (hK : ∀ (r : Int32) (H : aH), cs_k G H → r.toInt = pr_wr (y_N sg) len.toInt.toNat nd.toInt → (pr_sy (y_N sg) (pr_t len.toInt.toNat) nd.toInt).2 ≤ pr_t len.toInt.toNat → aOK s_P X (d + 7) a_m77 52 [some (.ref 2), some (.int len), none] [.int r] H C S K0) : aOK s_P X (d + 7) a_m77 49 [some (.ref 2), some (.int len), none] [.ref 52, .int nd, .int len, .ref 14] G C S K0 := by
  refine w_go z_hl [] [78] 20 hr ?_
  intro H hH
  have f : y_fr G H [] [] := y_st (y_rf hr) hH (by repeat (first | exact w_nil | refine w_cons (Or.inl (y_m rfl)) ?_ | refine w_cons (Or.inr (by assumption)) ?_)) (by repeat (first | exact w_nil | refine w_cons (Or.inl (y_m rfl)) ?_ | refine w_cons (Or.inr (by assumption)) ?_))
  refine c_parse5 (d := d) f.1 n0 n10 l0 l60 ((y_ae f rfl).trans gs) (fun r H2 f2 er hq => ⟨fun n e => (by cases e), ?_⟩)
  exact hK r H2 ⟨f2.1, (y_fe f2 rfl).trans (y_fe f rfl), (y_fe f2 rfl).trans (y_fe f rfl), (y_ae f2 rfl).trans (y_ae f rfl), (y_fe f2 rfl).trans (y_fe f rfl), (y_fe f2 rfl).trans (y_fe f rfl), (y_ae f2 rfl).trans (y_ae f rfl)⟩ er hq
theorem c_sayi6 {G : aH} {len nd : Int32} {sg : List Int32} (hr : w_hr z_D G) (n0 : 0 ≤ nd.toInt) (n10 : nd.toInt ≤ 10) (l0 : 0 ≤ len.toInt) (l60 : len.toInt ≤ 60) (gs : w_a G 13 = some (3, .inl sg)) (hK : ∀ (r : Int32) (H : aH), cs_k G H → r.toInt = pr_wr (y_N sg) len.toInt.toNat nd.toInt → (pr_sy (y_N sg) (pr_t len.toInt.toNat) nd.toInt).2 ≤ pr_t len.toInt.toNat → aOK s_P X (d + 7) a_m77 52 [some (.ref 2), some (.int len), none] [.int r] H C S K0) : aOK s_P X (d + 7) a_m77 49 [some (.ref 2), some (.int len), none] [.ref 59, .int nd, .int len, .ref 14] G C S K0 := by
  refine w_go z_hl [] [78] 20 hr ?_
  intro H hH
  have f : y_fr G H [] [] := y_st (y_rf hr) hH (by repeat (first | exact w_nil | refine w_cons (Or.inl (y_m rfl)) ?_ | refine w_cons (Or.inr (by assumption)) ?_)) (by repeat (first | exact w_nil | refine w_cons (Or.inl (y_m rfl)) ?_ | refine w_cons (Or.inr (by assumption)) ?_))
  refine c_parse6 (d := d) f.1 n0 n10 l0 l60 ((y_ae f rfl).trans gs) (fun r H2 f2 er hq => ⟨fun n e => (by cases e), ?_⟩)
  exact hK r H2 ⟨f2.1, (y_fe f2 rfl).trans (y_fe f rfl), (y_fe f2 rfl).trans (y_fe f rfl), (y_ae f2 rfl).trans (y_ae f rfl), (y_fe f2 rfl).trans (y_fe f rfl), (y_fe f2 rfl).trans (y_fe f rfl), (y_ae f2 rfl).trans (y_ae f rfl)⟩ er hq
theorem c_sayi7 {G : aH} {len nd : Int32} {sg : List Int32} (hr : w_hr z_D G) (n0 : 0 ≤ nd.toInt) (n10 : nd.toInt ≤ 10) (l0 : 0 ≤ len.toInt) (l60 : len.toInt ≤ 60) (gs : w_a G 13 = some (3, .inl sg)) (hK : ∀ (r : Int32) (H : aH), cs_k G H → r.toInt = pr_wr (y_N sg) len.toInt.toNat nd.toInt → (pr_sy (y_N sg) (pr_t len.toInt.toNat) nd.toInt).2 ≤ pr_t len.toInt.toNat → aOK s_P X (d + 7) a_m77 52 [some (.ref 2), some (.int len), none] [.int r] H C S K0) : aOK s_P X (d + 7) a_m77 49 [some (.ref 2), some (.int len), none] [.ref 66, .int nd, .int len, .ref 14] G C S K0 := by
  refine w_go z_hl [] [78] 20 hr ?_
  intro H hH
  have f : y_fr G H [] [] := y_st (y_rf hr) hH (by repeat (first | exact w_nil | refine w_cons (Or.inl (y_m rfl)) ?_ | refine w_cons (Or.inr (by assumption)) ?_)) (by repeat (first | exact w_nil | refine w_cons (Or.inl (y_m rfl)) ?_ | refine w_cons (Or.inr (by assumption)) ?_))
  refine c_parse7 (d := d) f.1 n0 n10 l0 l60 ((y_ae f rfl).trans gs) (fun r H2 f2 er hq => ⟨fun n e => (by cases e), ?_⟩)
  exact hK r H2 ⟨f2.1, (y_fe f2 rfl).trans (y_fe f rfl), (y_fe f2 rfl).trans (y_fe f rfl), (y_ae f2 rfl).trans (y_ae f rfl), (y_fe f2 rfl).trans (y_fe f rfl), (y_fe f2 rfl).trans (y_fe f rfl), (y_ae f2 rfl).trans (y_ae f rfl)⟩ er hq
theorem c_sayi8 {G : aH} {len nd : Int32} {sg : List Int32} (hr : w_hr z_D G) (n0 : 0 ≤ nd.toInt) (n10 : nd.toInt ≤ 10) (l0 : 0 ≤ len.toInt) (l60 : len.toInt ≤ 60) (gs : w_a G 13 = some (3, .inl sg)) (hK : ∀ (r : Int32) (H : aH), cs_k G H → r.toInt = pr_wr (y_N sg) len.toInt.toNat nd.toInt → (pr_sy (y_N sg) (pr_t len.toInt.toNat) nd.toInt).2 ≤ pr_t len.toInt.toNat → aOK s_P X (d + 7) a_m77 52 [some (.ref 2), some (.int len), none] [.int r] H C S K0) : aOK s_P X (d + 7) a_m77 49 [some (.ref 2), some (.int len), none] [.ref 73, .int nd, .int len, .ref 14] G C S K0 := by
  refine w_go z_hl [] [78] 20 hr ?_
  intro H hH
  have f : y_fr G H [] [] := y_st (y_rf hr) hH (by repeat (first | exact w_nil | refine w_cons (Or.inl (y_m rfl)) ?_ | refine w_cons (Or.inr (by assumption)) ?_)) (by repeat (first | exact w_nil | refine w_cons (Or.inl (y_m rfl)) ?_ | refine w_cons (Or.inr (by assumption)) ?_))
  refine c_parse8 (d := d) f.1 n0 n10 l0 l60 ((y_ae f rfl).trans gs) (fun r H2 f2 er hq => ⟨fun n e => (by cases e), ?_⟩)
  exact hK r H2 ⟨f2.1, (y_fe f2 rfl).trans (y_fe f rfl), (y_fe f2 rfl).trans (y_fe f rfl), (y_ae f2 rfl).trans (y_ae f rfl), (y_fe f2 rfl).trans (y_fe f rfl), (y_fe f2 rfl).trans (y_fe f rfl), (y_ae f2 rfl).trans (y_ae f rfl)⟩ er hq
theorem c_sayi9 {G : aH} {len nd : Int32} {sg : List Int32} (hr : w_hr z_D G) (n0 : 0 ≤ nd.toInt) (n10 : nd.toInt ≤ 10) (l0 : 0 ≤ len.toInt) (l60 : len.toInt ≤ 60) (gs : w_a G 13 = some (3, .inl sg)) (hK : ∀ (r : Int32) (H : aH), cs_k G H → r.toInt = pr_wr (y_N sg) len.toInt.toNat nd.toInt → (pr_sy (y_N sg) (pr_t len.toInt.toNat) nd.toInt).2 ≤ pr_t len.toInt.toNat → aOK s_P X (d + 7) a_m77 52 [some (.ref 2), some (.int len), none] [.int r] H C S K0) : aOK s_P X (d + 7) a_m77 49 [some (.ref 2), some (.int len), none] [.ref 80, .int nd, .int len, .ref 14] G C S K0 := by
  refine w_go z_hl [] [78] 20 hr ?_
  intro H hH
  have f : y_fr G H [] [] := y_st (y_rf hr) hH (by repeat (first | exact w_nil | refine w_cons (Or.inl (y_m rfl)) ?_ | refine w_cons (Or.inr (by assumption)) ?_)) (by repeat (first | exact w_nil | refine w_cons (Or.inl (y_m rfl)) ?_ | refine w_cons (Or.inr (by assumption)) ?_))
  refine c_parse9 (d := d) f.1 n0 n10 l0 l60 ((y_ae f rfl).trans gs) (fun r H2 f2 er hq => ⟨fun n e => (by cases e), ?_⟩)
  exact hK r H2 ⟨f2.1, (y_fe f2 rfl).trans (y_fe f rfl), (y_fe f2 rfl).trans (y_fe f rfl), (y_ae f2 rfl).trans (y_ae f rfl), (y_fe f2 rfl).trans (y_fe f rfl), (y_fe f2 rfl).trans (y_fe f rfl), (y_ae f2 rfl).trans (y_ae f rfl)⟩ er hq
theorem c_sayi10 {G : aH} {len nd : Int32} {sg : List Int32} (hr : w_hr z_D G) (n0 : 0 ≤ nd.toInt) (n10 : nd.toInt ≤ 10) (l0 : 0 ≤ len.toInt) (l60 : len.toInt ≤ 60) (gs : w_a G 13 = some (3, .inl sg)) (hK : ∀ (r : Int32) (H : aH), cs_k G H → r.toInt = pr_wr (y_N sg) len.toInt.toNat nd.toInt → (pr_sy (y_N sg) (pr_t len.toInt.toNat) nd.toInt).2 ≤ pr_t len.toInt.toNat → aOK s_P X (d + 7) a_m77 52 [some (.ref 2), some (.int len), none] [.int r] H C S K0) : aOK s_P X (d + 7) a_m77 49 [some (.ref 2), some (.int len), none] [.ref 87, .int nd, .int len, .ref 14] G C S K0 := by
  refine w_go z_hl [] [78] 20 hr ?_
  intro H hH
  have f : y_fr G H [] [] := y_st (y_rf hr) hH (by repeat (first | exact w_nil | refine w_cons (Or.inl (y_m rfl)) ?_ | refine w_cons (Or.inr (by assumption)) ?_)) (by repeat (first | exact w_nil | refine w_cons (Or.inl (y_m rfl)) ?_ | refine w_cons (Or.inr (by assumption)) ?_))
  refine c_parse10 (d := d) f.1 n0 n10 l0 l60 ((y_ae f rfl).trans gs) (fun r H2 f2 er hq => ⟨fun n e => (by cases e), ?_⟩)
  exact hK r H2 ⟨f2.1, (y_fe f2 rfl).trans (y_fe f rfl), (y_fe f2 rfl).trans (y_fe f rfl), (y_ae f2 rfl).trans (y_ae f rfl), (y_fe f2 rfl).trans (y_fe f rfl), (y_fe f2 rfl).trans (y_fe f rfl), (y_ae f2 rfl).trans (y_ae f rfl)⟩ er hq
theorem c_sayi11 {G : aH} {len nd : Int32} {sg : List Int32} (hr : w_hr z_D G) (n0 : 0 ≤ nd.toInt) (n10 : nd.toInt ≤ 10) (l0 : 0 ≤ len.toInt) (l60 : len.toInt ≤ 60) (gs : w_a G 13 = some (3, .inl sg)) (hK : ∀ (r : Int32) (H : aH), cs_k G H → r.toInt = pr_wr (y_N sg) len.toInt.toNat nd.toInt → (pr_sy (y_N sg) (pr_t len.toInt.toNat) nd.toInt).2 ≤ pr_t len.toInt.toNat → aOK s_P X (d + 7) a_m77 52 [some (.ref 2), some (.int len), none] [.int r] H C S K0) : aOK s_P X (d + 7) a_m77 49 [some (.ref 2), some (.int len), none] [.ref 94, .int nd, .int len, .ref 14] G C S K0 := by
  refine w_go z_hl [] [78] 20 hr ?_
  intro H hH
  have f : y_fr G H [] [] := y_st (y_rf hr) hH (by repeat (first | exact w_nil | refine w_cons (Or.inl (y_m rfl)) ?_ | refine w_cons (Or.inr (by assumption)) ?_)) (by repeat (first | exact w_nil | refine w_cons (Or.inl (y_m rfl)) ?_ | refine w_cons (Or.inr (by assumption)) ?_))
  refine c_parse11 (d := d) f.1 n0 n10 l0 l60 ((y_ae f rfl).trans gs) (fun r H2 f2 er hq => ⟨fun n e => (by cases e), ?_⟩)
  exact hK r H2 ⟨f2.1, (y_fe f2 rfl).trans (y_fe f rfl), (y_fe f2 rfl).trans (y_fe f rfl), (y_ae f2 rfl).trans (y_ae f rfl), (y_fe f2 rfl).trans (y_fe f rfl), (y_fe f2 rfl).trans (y_fe f rfl), (y_ae f2 rfl).trans (y_ae f rfl)⟩ er hq
theorem c_say {h : aH} (hr : w_hr z_D h) {len sy nd : Int32} {sg : List Int32} (g1 : w_f h 1537 = some (.int len)) (g2 : w_f h 15 = some (.int sy)) (g3 : w_f h 128 = some (.int nd)) (g4 : w_a h 13 = some (3, .inl sg)) (n0 : 0 ≤ nd.toInt) (n10 : nd.toInt ≤ 10)
    (hk : ∀ (r sy' : Int32) (H : aH), w_hr z_D H → r.toInt = pr_an (y_N sg) len.toInt.toNat nd.toInt sy.toInt → w_f H 15 = some (.int sy') → sy'.toInt = (if 0 ≤ pr_an (y_N sg) len.toInt.toNat nd.toInt sy.toInt then sy.toInt + 1 else sy.toInt) → w_f H 1537 = some (.int (Int32.ofInt 0)) → w_a H 13 = some (3, .inl sg) → w_f H 19603 = w_f h 19603 → w_f H 19612 = w_f h 19612 → w_a H 171 = w_a h 171 → K0 (some (.int r)) H C S) : aOK s_P X (d + 7) a_m77 0 [some (.ref 2), none, none] [] h C S K0 := by
  have b1 := n_bd (lo := 0) (hi := 12) hr g2 rfl
  have b2 := n_bd (lo := 0) (hi := 60) hr g1 rfl
  have c12 : ((Int8.ofInt 12).toInt32).toInt = 12 := by decide
  have cm : (Int32.ofInt (-1)).toInt = -1 := by decide
  have T52 : ∀ {G H : aH} {r : Int32}, y_fr h G [1537] [] → w_f G 1537 = some (.int (Int32.ofInt 0)) → cs_k G H → sy.toInt ≤ 11 → r.toInt = pr_wr (y_N sg) len.toInt.toNat nd.toInt → (pr_sy (y_N sg) (pr_t len.toInt.toNat) nd.toInt).2 ≤ pr_t len.toInt.toNat → aOK s_P X (d + 7) a_m77 52 [some (.ref 2), some (.int len), none] [.int r] H C S K0 := by
    intro G H r e gl ⟨k1, k2, k3, k4, k5, k6, k7⟩ s11 er hq
    have ea := pr_an_wr (T := y_N sg) (len := len.toInt.toNat) (n := nd.toInt) (sy := sy.toInt) (by omega) hq
    have wb := pr_wr_b (T := y_N sg) (len := len.toInt.toNat) (n := nd.toInt) hq
    have j2 : w_f H 15 = some (.int sy) := k2.trans ((y_fe e rfl).trans g2)
    have j3 : w_f H 1537 = some (.int (Int32.ofInt 0)) := k3.trans gl
    have j4 : w_a H 13 = some (3, .inl sg) := k4.trans ((y_ae e rfl).trans g4)
    refine w_go z_hl [] [] 40 k1 ?_
    refine ⟨fun z => ?_, fun z => fun H2 h2 => ?_⟩
    · have y1 : r.toInt = (Int32.ofInt (-1)).toInt := (y_ci .eq _ _).mp z
      rw [cm, er] at y1
      rw [if_pos y1] at ea
      have hinc : (sy + Int32.ofInt 1).toInt = sy.toInt + 1 := y_inc (by omega)
      have hdec : (sy + Int32.ofInt 1 - Int32.ofInt 1).toInt = (sy + Int32.ofInt 1).toInt - 1 := y_sub1 (by omega)
      intro x hx _ _
      obtain rfl := y_fi j2 hx
      refine ⟨rfl, y_zini (by show 0 ≤ (sy + Int32.ofInt 1).toInt; omega) (by show (sy + Int32.ofInt 1).toInt ≤ 12; omega), fun H2 h2 => ?_⟩
      have f : y_fr H H2 [15] [] := y_st (y_mo (y_rf k1) rfl rfl) h2 (by repeat (first | exact w_nil | refine w_cons (Or.inl (y_m rfl)) ?_ | refine w_cons (Or.inr (by assumption)) ?_)) (by repeat (first | exact w_nil | refine w_cons (Or.inl (y_m rfl)) ?_ | refine w_cons (Or.inr (by assumption)) ?_))
      exact hk _ _ H2 f.1 (by show (sy + Int32.ofInt 1 - Int32.ofInt 1).toInt = _; omega) (h2.2.1 15 _ rfl) (by rw [ea, if_pos (by omega)]; exact hinc) ((y_fe f rfl).trans j3) ((y_ae f rfl).trans j4) ((y_fe f rfl).trans (k5.trans (y_fe e rfl))) ((y_fe f rfl).trans (k6.trans (y_fe e rfl))) ((y_ae f rfl).trans (k7.trans (y_ae e rfl)))
    · have y1 : ¬ (r.toInt = (Int32.ofInt (-1)).toInt) := y_cif z
      rw [cm, er] at y1
      rw [if_neg y1] at ea
      have hd : (Int32.ofInt (-1) - r).toInt = -1 - r.toInt := by
        rw [Int32.toInt_sub, cm]
        exact Int.bmod_eq_of_le (by omega) (by omega)
      have f : y_fr H H2 [] [] := y_st (y_rf k1) h2 (by repeat (first | exact w_nil | refine w_cons (Or.inl (y_m rfl)) ?_ | refine w_cons (Or.inr (by assumption)) ?_)) (by repeat (first | exact w_nil | refine w_cons (Or.inl (y_m rfl)) ?_ | refine w_cons (Or.inr (by assumption)) ?_))
      exact hk _ sy H2 f.1 (hd.trans (by rw [er, ea])) ((y_fe f rfl).trans j2) (by rw [if_neg (pr_m5 ea (wb.resolve_left y1).1)]) ((y_fe f rfl).trans j3) ((y_ae f rfl).trans j4) ((y_fe f rfl).trans (k5.trans (y_fe e rfl))) ((y_fe f rfl).trans (k6.trans (y_fe e rfl))) ((y_ae f rfl).trans (k7.trans (y_ae e rfl)))
  refine w_go z_hl [48] [] 60 hr ?_
  intro x hx _ _
  obtain rfl := y_fi g1 hx
  refine ⟨rfl, y_zini (by decide) (by decide), ?_⟩
  intro y hy _ _
  obtain rfl := y_fi g2 hy
  refine ⟨fun z => ?_, fun z => fun H hH => ?_⟩
  · have y1 : sy.toInt < ((Int8.ofInt 12).toInt32).toInt := (y_ci .lt _ _).mp z
    rw [c12] at y1
    intro w hw _ _
    obtain rfl := y_fi g3 hw
    intro H hH
    have e : y_fr h H [1537] [] := y_st (y_mo (y_rf hr) rfl rfl) hH (by repeat (first | exact w_nil | refine w_cons (Or.inl (y_m rfl)) ?_ | refine w_cons (Or.inr (by assumption)) ?_)) (by repeat (first | exact w_nil | refine w_cons (Or.inl (y_m rfl)) ?_ | refine w_cons (Or.inr (by assumption)) ?_))
    have gl := hH.2.1 1537 _ rfl
    have gs := (y_ae e rfl).trans g4
    have cs : sy.toInt = ((0 : Nat) : Int) ∨ sy.toInt = ((1 : Nat) : Int) ∨ sy.toInt = ((2 : Nat) : Int) ∨ sy.toInt = ((3 : Nat) : Int) ∨ sy.toInt = ((4 : Nat) : Int) ∨ sy.toInt = ((5 : Nat) : Int) ∨ sy.toInt = ((6 : Nat) : Int) ∨ sy.toInt = ((7 : Nat) : Int) ∨ sy.toInt = ((8 : Nat) : Int) ∨ sy.toInt = ((9 : Nat) : Int) ∨ sy.toInt = ((10 : Nat) : Int) ∨ sy.toInt = ((11 : Nat) : Int) := by omega
    rcases cs with c | c | c | c | c | c | c | c | c | c | c | c
    · exact y_aald (o := 14) (j := 0) (r := 17) e.1 c rfl rfl rfl (c_sayi0 (d := d) e.1 n0 n10 b2.1 b2.2 gs (fun r H2 kk er hq => T52 e gl kk (by omega) er hq))
    · exact y_aald (o := 14) (j := 1) (r := 24) e.1 c rfl rfl rfl (c_sayi1 (d := d) e.1 n0 n10 b2.1 b2.2 gs (fun r H2 kk er hq => T52 e gl kk (by omega) er hq))
    · exact y_aald (o := 14) (j := 2) (r := 31) e.1 c rfl rfl rfl (c_sayi2 (d := d) e.1 n0 n10 b2.1 b2.2 gs (fun r H2 kk er hq => T52 e gl kk (by omega) er hq))
    · exact y_aald (o := 14) (j := 3) (r := 38) e.1 c rfl rfl rfl (c_sayi3 (d := d) e.1 n0 n10 b2.1 b2.2 gs (fun r H2 kk er hq => T52 e gl kk (by omega) er hq))
    · exact y_aald (o := 14) (j := 4) (r := 45) e.1 c rfl rfl rfl (c_sayi4 (d := d) e.1 n0 n10 b2.1 b2.2 gs (fun r H2 kk er hq => T52 e gl kk (by omega) er hq))
    · exact y_aald (o := 14) (j := 5) (r := 52) e.1 c rfl rfl rfl (c_sayi5 (d := d) e.1 n0 n10 b2.1 b2.2 gs (fun r H2 kk er hq => T52 e gl kk (by omega) er hq))
    · exact y_aald (o := 14) (j := 6) (r := 59) e.1 c rfl rfl rfl (c_sayi6 (d := d) e.1 n0 n10 b2.1 b2.2 gs (fun r H2 kk er hq => T52 e gl kk (by omega) er hq))
    · exact y_aald (o := 14) (j := 7) (r := 66) e.1 c rfl rfl rfl (c_sayi7 (d := d) e.1 n0 n10 b2.1 b2.2 gs (fun r H2 kk er hq => T52 e gl kk (by omega) er hq))
    · exact y_aald (o := 14) (j := 8) (r := 73) e.1 c rfl rfl rfl (c_sayi8 (d := d) e.1 n0 n10 b2.1 b2.2 gs (fun r H2 kk er hq => T52 e gl kk (by omega) er hq))
    · exact y_aald (o := 14) (j := 9) (r := 80) e.1 c rfl rfl rfl (c_sayi9 (d := d) e.1 n0 n10 b2.1 b2.2 gs (fun r H2 kk er hq => T52 e gl kk (by omega) er hq))
    · exact y_aald (o := 14) (j := 10) (r := 87) e.1 c rfl rfl rfl (c_sayi10 (d := d) e.1 n0 n10 b2.1 b2.2 gs (fun r H2 kk er hq => T52 e gl kk (by omega) er hq))
    · exact y_aald (o := 14) (j := 11) (r := 94) e.1 c rfl rfl rfl (c_sayi11 (d := d) e.1 n0 n10 b2.1 b2.2 gs (fun r H2 kk er hq => T52 e gl kk (by omega) er hq))
  · have y1 : ¬ (sy.toInt < ((Int8.ofInt 12).toInt32).toInt) := y_cif z
    rw [c12] at y1
    have ea : pr_an (y_N sg) len.toInt.toNat nd.toInt sy.toInt = -100 := if_pos (by omega)
    have e : y_fr h H [1537] [] := y_st (y_mo (y_rf hr) rfl rfl) hH (by repeat (first | exact w_nil | refine w_cons (Or.inl (y_m rfl)) ?_ | refine w_cons (Or.inr (by assumption)) ?_)) (by repeat (first | exact w_nil | refine w_cons (Or.inl (y_m rfl)) ?_ | refine w_cons (Or.inr (by assumption)) ?_))
    exact hk _ sy H e.1 (by rw [ea]; decide) ((y_fe e rfl).trans g2) (by rw [ea, if_neg (by decide)]) (hH.2.1 1537 _ rfl) ((y_ae e rfl).trans g4) (y_fe e rfl) (y_fe e rfl) (y_ae e rfl)
end PCS
end PT33idi
section PT33idj
/-! ===== v21: THE TEXT and the count of sayings, as class and reference hold them ===== -/
theorem tx_i2c {x : Int32} (h1 : 0 ≤ x.toInt) (h2 : x.toInt ≤ 65535) : (x.toUInt32 % 65536).toInt32 = x := by
  obtain ⟨e1, e2⟩ := z_nat h1
  have h3 : x.toUInt32 % 65536 = x.toUInt32 := by
    apply UInt32.toNat_inj.mp
    have q : x.toUInt32.toNat = x.toBitVec.toNat := rfl
    rw [UInt32.toNat_mod, q, show (65536 : UInt32).toNat = 65536 by decide]
    exact Nat.mod_eq_of_lt (by omega)
  rw [h3]
  rfl
theorem tx_255 (x : Int32) : 0 ≤ (x &&& (Int16.ofInt 255).toInt32).toInt ∧ (x &&& (Int16.ofInt 255).toInt32).toInt ≤ 255 := by
  have := z_t_and (x := x) (y := (Int16.ofInt 255).toInt32) (by decide)
  rw [show ((Int16.ofInt 255).toInt32).toInt = 255 by decide] at this
  exact this
section TXC
variable {X : aX} {C S d : Nat} {K0 : Option Value → aH → Nat → Nat → Prop}
theorem y_cast {h : aH} (hr : w_hr z_D h) {M : aM} {pc len : Nat} {k : aK} {ls : aL} {rest : List Value} {o j n : Nat} {l : List Int32} {jI x : Int32} (a1 : w_a h o = some (3, .inl l)) (hD : z_D o = some (.inl (3, n, 0, 65535))) (hj : jI.toInt = j) (hn : j < n) (x0 : 0 ≤ x.toInt) (x1 : x.toInt ≤ 65535) (hl : M.2.2.2.2.2.lookup pc = some (.castore, len, k)) (hK : ∀ H, y_fr h H [] [o] → w_a H o = some (3, .inl (l.set j x)) → aOK s_P X d M (pc + len) ls rest H C S K0) : aOK s_P X d M pc ls (.int x :: .int jI :: .ref (o + 2) :: rest) h C S K0 := by
  obtain ⟨l', e1, e2, e3⟩ := w_arrI hr (by decide) hD
  have e4 := w_a_at e1
  rw [a1] at e4
  obtain rfl : l = l' := by
    injection e4 with e5
    injection e5 with _ e6
    injection e6
  have cj : jI.toNatClampNeg = j := y_cl1 hj
  have zn : ¬ (jI < 0) := fun w => by
    have : jI.toInt < (0 : Int32).toInt := Int32.lt_iff_toInt_lt.mp w
    have : jI.toInt < 0 := this
    omega
  have na : a_nar 3 x = x := by
    show vp_nar .char x = x
    rw [vp_nar_char, z_nar3 x0 x1]
  have ha : a_ast 3 (.int x :: .int jI :: .ref (o + 2) :: rest) h = some (rest, h.set o (.inl (3, .inl (l.set j x))), 0, 0) := by
    unfold a_ast
    dsimp only
    rw [e1]
    dsimp only
    rw [if_pos rfl, cj, if_neg (fun w => by
      rcases w with w | w
      · exact zn w
      · omega), na]
  have hh : a_hp .castore k (.int x :: .int jI :: .ref (o + 2) :: rest) h = some (rest, h.set o (.inl (3, .inl (l.set j x))), 0, 0) := ha
  refine aOK_op hl (y_ophp rfl rfl rfl hh) ?_
  have r0 : w_rel z_D h [] [] h := ⟨hr, fun _ _ q => (by cases q), fun _ _ q => (by cases q), fun _ _ => rfl, fun _ _ => rfl⟩
  have r1 := w_rel_arr r0 hD e1 (b := (3, .inl (l.set j x))) ⟨by decide, _, rfl, by rw [List.length_set]; exact e2, fun y hy => by
    rcases List.mem_or_eq_of_mem_set hy with w | w
    · exact e3 y w
    · rw [w]
      exact ⟨x0, x1⟩⟩
  exact hK _ (y_fr_rel r1 w_nil (w_cons (Or.inl (List.mem_singleton.mpr rfl)) w_nil)) (r1.2.2.1 o _ (by simp [List.lookup]))
end TXC
/-- byte k of v, the highest first -/
def tx_b (v : Int32) (k : Nat) : Int32 := (v >>> (Int32.ofInt (24 - 8 * (k : Int)) &&& 31)) &&& (Int16.ofInt 255).toInt32
/-- the first k of four signs behind n -/
def tx_ap (v : Int32) (l : List Int32) (n : Nat) : Nat → List Int32
  | 0 => l
  | k + 1 => (tx_ap v l n k).set (n + k) (tx_b v k)
theorem tx_ap_l {v : Int32} {l : List Int32} {n : Nat} : ∀ k, (tx_ap v l n k).length = l.length := by
  intro k
  induction k with
  | zero => rfl
  | succ k ih =>
    show ((tx_ap v l n k).set (n + k) (tx_b v k)).length = l.length
    rw [List.length_set, ih]
theorem tx_ap_g {v : Int32} {a b : List Int32} {n : Nat} (hl : a.length = b.length) (ag : ∀ j, j < n → a.getD j 0 = b.getD j 0) : ∀ k, n + k ≤ a.length → ∀ j, j < n + k → (tx_ap v a n k).getD j 0 = (tx_ap v b n k).getD j 0 := by
  intro k
  induction k with
  | zero =>
    intro _ j hj
    exact ag j (by omega)
  | succ k ih =>
    intro hk j hj
    show ((tx_ap v a n k).set (n + k) (tx_b v k)).getD j 0 = ((tx_ap v b n k).set (n + k) (tx_b v k)).getD j 0
    rw [c_gset (by rw [tx_ap_l]; omega), c_gset (by rw [tx_ap_l]; omega)]
    by_cases q : j = n + k
    · rw [if_pos q, if_pos q]
    · rw [if_neg q, if_neg q]
      exact ih (by omega) j (by omega)
theorem tx_sh {v s : Int32} {k : Nat} (hs : s.toInt = 24 - 8 * (k : Int)) (k4 : k < 4) : (v >>> (s &&& 31)) &&& (Int16.ofInt 255).toInt32 = tx_b v k := by
  have e : s = Int32.ofInt (24 - 8 * (k : Int)) := Int32.toInt_inj.mp (by
    rw [hs, Int32.toInt_ofInt, show (Int32.size : Nat) = 4294967296 from rfl, Int.bmod_eq_of_le (by omega) (by omega)])
  rw [e]
  rfl
def g_TF : List Nat := [15, 19603, 1537, 19612]
def g_TA : List Nat := [13, 171]
/-- how many sayings, how many signs, the signs -/
def g_tx (h : aH) (s n : Int32) (a b : List Int32) : Prop := (w_f h 15 = some (.int s) ∧ w_f h 19603 = some (.int s)) ∧ (w_f h 1537 = some (.int n) ∧ w_f h 19612 = some (.int n)) ∧ (w_a h 13 = some (3, .inl a) ∧ w_a h 171 = some (0, .inl b)) ∧ (a.length = 60 ∧ b.length = 60) ∧ ∀ k : Nat, (k : Int) < n.toInt → a.getD k 0 = b.getD k 0
def n_IT (h : aH) : Prop := t_I h ∧ ∃ s n a b, g_tx h s n a b
theorem g_tx_sm {h H : aH} {s n : Int32} {a b : List Int32} (q : g_sm g_TF g_TA h H) (g : g_tx h s n a b) : g_tx H s n a b := by
  obtain ⟨⟨q1, q2⟩, ⟨q3, q4⟩, ⟨q5, q6⟩, q7⟩ := g
  exact ⟨⟨(q.1 15 (by decide)).trans q1, (q.1 19603 (by decide)).trans q2⟩, ⟨(q.1 1537 (by decide)).trans q3, (q.1 19612 (by decide)).trans q4⟩, ⟨(q.2 13 (by decide)).trans q5, (q.2 171 (by decide)).trans q6⟩, q7⟩
theorem g_Ts : g_sup n_IT g_TF g_TA := fun h H hI s q => by
  obtain ⟨-, x, n, a, b, q⟩ := q
  exact ⟨hI, x, n, a, b, g_tx_sm s q⟩
theorem g_Ti : ∀ h, n_IT h → t_I h := fun _ q => q.1
section TXS
variable {X : aX} {C S d : Nat} {K0 : Option Value → aH → Nat → Nat → Prop}
/-- one sign more (the class) -/
theorem c_app1 {h : aH} (hr : w_hr z_D h) {v sI n : Int32} {k : Nat} {a : List Int32} (hs : sI.toInt = 24 - 8 * (k : Int)) (k4 : k < 4) (g1 : w_f h 1537 = some (.int n)) (g2 : w_a h 13 = some (3, .inl a)) (n0 : 0 ≤ n.toInt) (n60 : n.toInt < 60) (hK : ∀ H, y_fr h H [1537] [13] → w_f H 1537 = some (.int (n + Int32.ofInt 1)) → w_a H 13 = some (3, .inl (a.set n.toInt.toNat (tx_b v k))) → aOK s_P X d a_m75 3 [some (.ref 14), some (.int v), some (.int (sI + Int32.ofInt (-8)))] [] H C S K0) : aOK s_P X d a_m75 3 [some (.ref 14), some (.int v), some (.int sI)] [] h C S K0 := by
  have inc : (n + Int32.ofInt 1).toInt = n.toInt + 1 := y_inc (by omega)
  have b255 := tx_255 (v >>> (sI &&& 31))
  have ei := tx_i2c (x := (v >>> (sI &&& 31)) &&& (Int16.ofInt 255).toInt32) b255.1 (by omega)
  have eb := tx_sh (v := v) hs k4
  have T33 : ∀ {J : aH}, y_fr h J [] [13] → w_a J 13 = some (3, .inl (a.set n.toInt.toNat (tx_b v k))) → aOK s_P X d a_m75 33 [some (.ref 14), some (.int v), some (.int sI)] [] J C S K0 := by
    intro J e w
    refine w_go z_hl [3] [] 30 e.1 ?_
    intro x hx _ _
    obtain rfl := y_fi ((y_fe e rfl).trans g1) hx
    refine ⟨rfl, y_zini (by show 0 ≤ (n + Int32.ofInt 1).toInt; omega) (by show (n + Int32.ofInt 1).toInt ≤ 60; omega), fun H hH => ?_⟩
    have f : y_fr J H [1537] [] := y_st (y_mo (y_rf e.1) rfl rfl) hH (by repeat (first | exact w_nil | refine w_cons (Or.inl (y_m rfl)) ?_ | refine w_cons (Or.inr (by assumption)) ?_)) (by repeat (first | exact w_nil | refine w_cons (Or.inl (y_m rfl)) ?_ | refine w_cons (Or.inr (by assumption)) ?_))
    exact hK H (y_sq (y_mo e rfl rfl) f rfl rfl) (hH.2.1 1537 _ rfl) ((y_ae f rfl).trans w)
  refine w_go z_hl [32] [] 40 hr ?_
  refine ⟨fun z => ?_, fun z => ?_⟩
  · have y1 : sI.toInt < (0 : Int32).toInt := (y_ci .lt _ _).mp z
    have y2 : sI.toInt < 0 := y1
    exfalso
    omega
  · intro x hx _ _
    obtain rfl := y_fi g1 hx
    refine ⟨fun z2 => ?_, fun z2 => fun H hH => ?_⟩
    · have y1 : ((Int8.ofInt 60).toInt32).toInt ≤ n.toInt := (y_ci .ge _ _).mp z2
      rw [show ((Int8.ofInt 60).toInt32).toInt = 60 by decide] at y1
      exfalso
      omega
    · have e : y_fr h H [] [] := y_st (y_rf hr) hH (by repeat (first | exact w_nil | refine w_cons (Or.inl (y_m rfl)) ?_ | refine w_cons (Or.inr (by assumption)) ?_)) (by repeat (first | exact w_nil | refine w_cons (Or.inl (y_m rfl)) ?_ | refine w_cons (Or.inr (by assumption)) ?_))
      show aOK s_P X d a_m75 32 [some (.ref 14), some (.int v), some (.int sI)] [.int ((((v >>> (sI &&& 31)) &&& (Int16.ofInt 255).toInt32).toUInt32 % 65536).toInt32), .int n, .ref 15] H C S K0
      rw [ei, eb]
      rw [eb] at b255
      refine y_cast (o := 13) (j := n.toInt.toNat) e.1 ((y_ae e rfl).trans g2) rfl (by omega) (by omega) b255.1 (by omega) rfl (fun H2 f2 w2 => ?_)
      exact T33 (y_sq (y_mo e rfl rfl) f2 rfl rfl) w2
theorem c_append {h : aH} (hr : w_hr z_D h) {v n : Int32} {a : List Int32} (g1 : w_f h 1537 = some (.int n)) (g2 : w_a h 13 = some (3, .inl a)) (n0 : 0 ≤ n.toInt) (n56 : n.toInt ≤ 56) (hK : ∀ (m : Int32) (H : aH), y_fr h H [1537] [13] → m.toInt = n.toInt + 4 → w_f H 1537 = some (.int m) → w_a H 13 = some (3, .inl (tx_ap v a n.toInt.toNat 4)) → K0 none H C S) : aOK s_P X d a_m75 0 [some (.ref 14), some (.int v), none] [] h C S K0 := by
  have i1 : (n + Int32.ofInt 1).toInt = n.toInt + 1 := y_inc (by omega)
  have i2 : (n + Int32.ofInt 1 + Int32.ofInt 1).toInt = n.toInt + 2 := by rw [y_inc (by omega), i1]; omega
  have i3 : (n + Int32.ofInt 1 + Int32.ofInt 1 + Int32.ofInt 1).toInt = n.toInt + 3 := by rw [y_inc (by omega), i2]; omega
  have i4 : (n + Int32.ofInt 1 + Int32.ofInt 1 + Int32.ofInt 1 + Int32.ofInt 1).toInt = n.toInt + 4 := by rw [y_inc (by omega), i3]; omega
  refine w_go z_hl [3] [] 20 hr ?_
  intro H0 h0
  have e0 : y_fr h H0 [] [] := y_st (y_rf hr) h0 (by repeat (first | exact w_nil | refine w_cons (Or.inl (y_m rfl)) ?_ | refine w_cons (Or.inr (by assumption)) ?_)) (by repeat (first | exact w_nil | refine w_cons (Or.inl (y_m rfl)) ?_ | refine w_cons (Or.inr (by assumption)) ?_))
  refine c_app1 (k := 0) e0.1 (by decide) (by decide) ((y_fe e0 rfl).trans g1) ((y_ae e0 rfl).trans g2) n0 (by omega) (fun H1 e1 p1 q1 => ?_)
  refine c_app1 (k := 1) e1.1 (by decide) (by decide) p1 q1 (by omega) (by omega) (fun H2 e2 p2 q2 => ?_)
  refine c_app1 (k := 2) e2.1 (by decide) (by decide) p2 q2 (by omega) (by omega) (fun H3 e3 p3 q3 => ?_)
  refine c_app1 (k := 3) e3.1 (by decide) (by decide) p3 q3 (by omega) (by omega) (fun H4 e4 p4 q4 => ?_)
  have f : y_fr h H4 [1537] [13] := y_sq (y_sq (y_sq (y_sq (y_mo e0 rfl rfl) e1 rfl rfl) e2 rfl rfl) e3 rfl rfl) e4 rfl rfl
  refine w_go z_hl [] [] 20 f.1 ?_
  refine ⟨fun _ => fun H hH => ?_, fun z => ?_⟩
  · have e5 : y_fr H4 H [] [] := y_st (y_rf f.1) hH (by repeat (first | exact w_nil | refine w_cons (Or.inl (y_m rfl)) ?_ | refine w_cons (Or.inr (by assumption)) ?_)) (by repeat (first | exact w_nil | refine w_cons (Or.inl (y_m rfl)) ?_ | refine w_cons (Or.inr (by assumption)) ?_))
    refine hK _ H (y_sq f e5 rfl rfl) i4 ((y_fe e5 rfl).trans p4) ((y_ae e5 rfl).trans ?_)
    have t1 : (n + Int32.ofInt 1).toInt.toNat = n.toInt.toNat + 1 := by omega
    have t2 : (n + Int32.ofInt 1 + Int32.ofInt 1).toInt.toNat = n.toInt.toNat + 2 := by omega
    have t3 : (n + Int32.ofInt 1 + Int32.ofInt 1 + Int32.ofInt 1).toInt.toNat = n.toInt.toNat + 3 := by omega
    rw [t1, t2, t3] at q4
    exact q4
  · exact absurd z (by decide)
theorem c_signX {h : aH} (hr : w_hr z_D h) {v n : Int32} {a : List Int32} (g1 : w_f h 1537 = some (.int n)) (g2 : w_a h 13 = some (3, .inl a)) (n0 : 0 ≤ n.toInt) (n60 : n.toInt ≤ 60) (yes : n.toInt ≤ 56 → ∀ (m : Int32) (H : aH), y_fr h H [1537] [13] → m.toInt = n.toInt + 4 → w_f H 1537 = some (.int m) → w_a H 13 = some (3, .inl (tx_ap v a n.toInt.toNat 4)) → K0 (some (.int m)) H C S) (no : ¬ n.toInt ≤ 56 → ∀ (H : aH), y_fr h H [] [] → K0 (some (.int (Int32.ofInt (-1)))) H C S) : aOK s_P X (d + 1) a_m74 0 [some (.ref 2), some (.int v)] [] h C S K0 := by
  have i4 : (n + Int32.ofInt 4).toInt = n.toInt + 4 := by
    rw [Int32.toInt_add, show (Int32.ofInt 4).toInt = 4 by decide]
    exact Int.bmod_eq_of_le (by omega) (by omega)
  have c60 : ((Int8.ofInt 60).toInt32).toInt = 60 := by decide
  have T24 : ∀ {J : aH} {m : Int32}, n.toInt ≤ 56 → y_fr h J [1537] [13] → m.toInt = n.toInt + 4 → w_f J 1537 = some (.int m) → w_a J 13 = some (3, .inl (tx_ap v a n.toInt.toNat 4)) → aOK s_P X (d + 1) a_m74 24 [some (.ref 2), some (.int v)] [] J C S K0 := by
    intro J m l56 e hm w1 w2
    refine w_go z_hl [] [] 20 e.1 ?_
    intro x hx _ _
    obtain rfl := y_fi w1 hx
    intro H hH
    have f : y_fr J H [] [] := y_st (y_rf e.1) hH (by repeat (first | exact w_nil | refine w_cons (Or.inl (y_m rfl)) ?_ | refine w_cons (Or.inr (by assumption)) ?_)) (by repeat (first | exact w_nil | refine w_cons (Or.inl (y_m rfl)) ?_ | refine w_cons (Or.inr (by assumption)) ?_))
    exact yes l56 m H (y_sq e f rfl rfl) hm ((y_fe f rfl).trans w1) ((y_ae f rfl).trans w2)
  refine w_go z_hl [] [75] 30 hr ?_
  intro x hx _ _
  obtain rfl := y_fi g1 hx
  refine ⟨fun z => fun H hH => ?_, fun z => fun H hH => ?_⟩
  · have y1 : (n + Int32.ofInt 4).toInt ≤ ((Int8.ofInt 60).toInt32).toInt := (y_ci .le _ _).mp z
    rw [i4, c60] at y1
    have e : y_fr h H [] [] := y_st (y_rf hr) hH (by repeat (first | exact w_nil | refine w_cons (Or.inl (y_m rfl)) ?_ | refine w_cons (Or.inr (by assumption)) ?_)) (by repeat (first | exact w_nil | refine w_cons (Or.inl (y_m rfl)) ?_ | refine w_cons (Or.inr (by assumption)) ?_))
    refine c_append (d := d) e.1 ((y_fe e rfl).trans g1) ((y_ae e rfl).trans g2) n0 (by omega) (fun m H2 f2 w1 w2 w3 => ⟨fun n e => (by cases e), ?_⟩)
    exact T24 (by omega) (y_sq (y_mo e rfl rfl) f2 rfl rfl) w1 w2 w3
  · have y1 : ¬ ((n + Int32.ofInt 4).toInt ≤ ((Int8.ofInt 60).toInt32).toInt) := y_cif z
    rw [i4, c60] at y1
    exact no (by omega) H (y_st (y_rf hr) hH (by repeat (first | exact w_nil | refine w_cons (Or.inl (y_m rfl)) ?_ | refine w_cons (Or.inr (by assumption)) ?_)) (by repeat (first | exact w_nil | refine w_cons (Or.inl (y_m rfl)) ?_ | refine w_cons (Or.inr (by assumption)) ?_)))
theorem f_signX_loop {v n : Int32} {b : List Int32} (n0 : 0 ≤ n.toInt) (n56 : n.toInt ≤ 56) : ∀ (t : Nat) (h : aH) (kI : Int32) (k : Nat), w_hr z_D h → w_f h 19612 = some (.int n) → w_a h 171 = some (0, .inl (tx_ap v b n.toInt.toNat k)) → kI.toInt = k → k + t = 4 → (∀ (H : aH), y_fr h H [19612] [171] → w_f H 19612 = some (.int (n + Int32.ofInt 4)) → w_a H 171 = some (0, .inl (tx_ap v b n.toInt.toNat 4)) → K0 (some (.int (n + Int32.ofInt 4))) H C S) → aOK s_P X d a_m219 18 [some (.ref 155), some (.int v), some (.int kI)] [] h C S K0 := by
  intro t
  induction t with
  | zero =>
    intro h kI k hr g g2 hk hm hK
    have ek : k = 4 := by omega
    rw [ek] at g2
    have inc : (n + Int32.ofInt 4).toInt = n.toInt + 4 := by
      rw [Int32.toInt_add, show (Int32.ofInt 4).toInt = 4 by decide]
      exact Int.bmod_eq_of_le (by omega) (by omega)
    refine w_go z_hl [18] [] 40 hr ?_
    refine ⟨fun _ => ?_, fun q => ?_⟩
    · intro x hx _ _
      obtain rfl := y_fi g hx
      refine ⟨rfl, y_zini (by show 0 ≤ (n + Int32.ofInt 4).toInt; omega) (by show (n + Int32.ofInt 4).toInt ≤ 60; omega), fun H hH => ?_⟩
      have e : y_fr h H [19612] [] := y_st (y_mo (y_rf hr) rfl rfl) hH (by repeat (first | exact w_nil | refine w_cons (Or.inl (y_m rfl)) ?_ | refine w_cons (Or.inr (by assumption)) ?_)) (by repeat (first | exact w_nil | refine w_cons (Or.inl (y_m rfl)) ?_ | refine w_cons (Or.inr (by assumption)) ?_))
      exact hK H (y_mo e rfl rfl) (hH.2.1 19612 _ rfl) ((y_ae e rfl).trans g2)
    · have : ¬ ((Int32.ofInt 4).toInt ≤ kI.toInt) := y_cif q
      rw [show (Int32.ofInt 4).toInt = 4 by decide] at this
      exfalso
      omega
  | succ t ih =>
    intro h kI k hr g g2 hk hm hK
    have ink : (kI + Int32.ofInt 1).toInt = ((k + 1 : Nat) : Int) := by rw [y_inc (by omega), hk]; rfl
    have tk : (n + kI).toInt = ((n.toInt.toNat + k : Nat) : Int) := by
      rw [Int32.toInt_add, hk, Int.bmod_eq_of_le (by omega) (by omega)]
      omega
    have bx : 0 ≤ (n + kI).toInt ∧ (n + kI).toInt < ((60 : Nat) : Int) := by omega
    have ct := y_cl1 tk
    have c8 : ((Int8.ofInt 8).toInt32 * kI).toInt = 8 * (k : Int) := by
      rw [Int32.toInt_mul, hk, show ((Int8.ofInt 8).toInt32).toInt = 8 by decide]
      exact Int.bmod_eq_of_le (by omega) (by omega)
    have cs : ((Int8.ofInt 24).toInt32 - (Int8.ofInt 8).toInt32 * kI).toInt = 24 - 8 * (k : Int) := by
      rw [Int32.toInt_sub, c8, show ((Int8.ofInt 24).toInt32).toInt = 24 by decide]
      exact Int.bmod_eq_of_le (by omega) (by omega)
    have eb := tx_sh (v := v) cs (by omega)
    refine w_go z_hl [18] [] 40 hr ?_
    refine ⟨fun q => ?_, fun _ => ?_⟩
    · have : (Int32.ofInt 4).toInt ≤ kI.toInt := (y_ci .ge _ _).mp q
      rw [show (Int32.ofInt 4).toInt = 4 by decide] at this
      exfalso
      omega
    · intro x hx _ _
      obtain rfl := y_fi g hx
      refine ⟨bx, tx_255 _, fun l hl len bb => fun H hH => ?_⟩
      obtain rfl := y_ai g2 hl
      have e : y_fr h H [] [171] := y_st (y_mo (y_rf hr) rfl rfl) hH (by repeat (first | exact w_nil | refine w_cons (Or.inl (y_m rfl)) ?_ | refine w_cons (Or.inr (by assumption)) ?_)) (by repeat (first | exact w_nil | refine w_cons (Or.inl (y_m rfl)) ?_ | refine w_cons (Or.inr (by assumption)) ?_))
      have w : w_a H 171 = some (0, .inl ((tx_ap v b n.toInt.toNat k).set (n + kI).toNatClampNeg ((v >>> (((Int8.ofInt 24).toInt32 - (Int8.ofInt 8).toInt32 * kI) &&& 31)) &&& (Int16.ofInt 255).toInt32))) := hH.2.2.1 171 _ rfl
      rw [ct, eb] at w
      exact ih H _ (k + 1) e.1 ((y_fe e rfl).trans g) w ink (by omega) (fun H' f g' g3 => hK H' (y_sq (y_mo e rfl rfl) f rfl rfl) g' g3)
theorem f_signX {h : aH} (hr : w_hr z_D h) {v n : Int32} {b : List Int32} (g0 : w_f h 19612 = some (.int n)) (g2 : w_a h 171 = some (0, .inl b)) (yes : n.toInt ≤ 56 → ∀ (H : aH), y_fr h H [19584, 19612] [171] → w_f H 19612 = some (.int (n + Int32.ofInt 4)) → w_a H 171 = some (0, .inl (tx_ap v b n.toInt.toNat 4)) → K0 (some (.int (n + Int32.ofInt 4))) H C S) (no : ¬ n.toInt ≤ 56 → ∀ (H : aH), y_fr h H [19584] [] → K0 (some (.int (Int32.ofInt (-1)))) H C S) : aOK s_P X d a_m219 0 [some (.ref 155), some (.int v), none] [] h C S K0 := by
  have c56 : ((Int8.ofInt 56).toInt32).toInt = 56 := by decide
  refine w_go z_hl [18] [] 40 hr ?_
  refine ⟨rfl, y_zini (by decide) (by decide), ?_⟩
  intro x hx x0 x60
  obtain rfl := y_fi g0 hx
  have x0' : 0 ≤ n.toInt := x0
  refine ⟨fun q => fun H hH => ?_, fun q => fun H hH => no (fun w => ?_) H (y_st (y_mo (y_rf hr) rfl rfl) hH (by repeat (first | exact w_nil | refine w_cons (Or.inl (y_m rfl)) ?_ | refine w_cons (Or.inr (by assumption)) ?_)) (by repeat (first | exact w_nil | refine w_cons (Or.inl (y_m rfl)) ?_ | refine w_cons (Or.inr (by assumption)) ?_)))⟩
  · have q2 : n.toInt ≤ ((Int8.ofInt 56).toInt32).toInt := (y_ci .le _ _).mp q
    rw [c56] at q2
    have e0 : y_fr h H [19584] [] := y_st (y_mo (y_rf hr) rfl rfl) hH (by repeat (first | exact w_nil | refine w_cons (Or.inl (y_m rfl)) ?_ | refine w_cons (Or.inr (by assumption)) ?_)) (by repeat (first | exact w_nil | refine w_cons (Or.inl (y_m rfl)) ?_ | refine w_cons (Or.inr (by assumption)) ?_))
    exact f_signX_loop (b := b) x0' q2 4 H _ 0 e0.1 ((y_fe e0 rfl).trans hx) ((y_ae e0 rfl).trans g2) rfl rfl (fun H' f g w => yes q2 H' (y_sq (y_mo e0 rfl rfl) f rfl rfl) g w)
  · have q2 : ¬ (n.toInt ≤ ((Int8.ofInt 56).toInt32).toInt) := y_cif q
    rw [c56] at q2
    exact q2 w
theorem c_endX {h : aH} (hr : w_hr z_D h) {k n : Int32} (g1 : w_f h 1537 = some (.int n)) (n60 : n.toInt ≤ 60) (yes : 0 ≤ k.toInt ∧ k.toInt ≤ n.toInt → ∀ (H : aH), y_fr h H [1537] [] → w_f H 1537 = some (.int k) → K0 (some (.int (Int32.ofInt 1))) H C S) (no : ¬ (0 ≤ k.toInt ∧ k.toInt ≤ n.toInt) → ∀ (H : aH), y_fr h H [] [] → K0 (some (.int (Int32.ofInt 0))) H C S) : aOK s_P X d a_m76 0 [some (.ref 2), some (.int k)] [] h C S K0 := by
  refine w_go z_hl [] [] 40 hr ?_
  refine ⟨fun z => ⟨by decide, fun H hH => no (fun w => ?_) H (y_st (y_rf hr) hH (by repeat (first | exact w_nil | refine w_cons (Or.inl (y_m rfl)) ?_ | refine w_cons (Or.inr (by assumption)) ?_)) (by repeat (first | exact w_nil | refine w_cons (Or.inl (y_m rfl)) ?_ | refine w_cons (Or.inr (by assumption)) ?_)))⟩, fun z => ?_⟩
  · have y1 : k.toInt < (0 : Int32).toInt := (y_ci .lt _ _).mp z
    have y2 : k.toInt < 0 := y1
    omega
  · have y1 : ¬ (k.toInt < (0 : Int32).toInt) := y_cif z
    have y2 : ¬ (k.toInt < 0) := y1
    intro x hx _ _
    obtain rfl := y_fi g1 hx
    refine ⟨fun z2 => ?_, fun z2 => ⟨by decide, fun H hH => no (fun w => ?_) H (y_st (y_rf hr) hH (by repeat (first | exact w_nil | refine w_cons (Or.inl (y_m rfl)) ?_ | refine w_cons (Or.inr (by assumption)) ?_)) (by repeat (first | exact w_nil | refine w_cons (Or.inl (y_m rfl)) ?_ | refine w_cons (Or.inr (by assumption)) ?_)))⟩⟩
    · have y3 : k.toInt ≤ n.toInt := (y_ci .le _ _).mp z2
      refine ⟨rfl, y_zini (by show 0 ≤ k.toInt; omega) (by show k.toInt ≤ 60; omega), by decide, fun H hH => ?_⟩
      exact yes ⟨by omega, y3⟩ H (y_st (y_mo (y_rf hr) rfl rfl) hH (by repeat (first | exact w_nil | refine w_cons (Or.inl (y_m rfl)) ?_ | refine w_cons (Or.inr (by assumption)) ?_)) (by repeat (first | exact w_nil | refine w_cons (Or.inl (y_m rfl)) ?_ | refine w_cons (Or.inr (by assumption)) ?_))) (hH.2.1 1537 _ rfl)
    · have y3 : ¬ (k.toInt ≤ n.toInt) := y_cif z2
      exact y3 w.2
end TXS
/-- between the class's call and the reference's: the reference's side as it was, the class's as it is -/
def g_tm (H : aH) (s n : Int32) (a b : List Int32) (n1 : Int32) (a1 : List Int32) : Prop := (w_f H 15 = some (.int s) ∧ w_f H 19603 = some (.int s)) ∧ w_f H 19612 = some (.int n) ∧ w_a H 171 = some (0, .inl b) ∧ (a.length = 60 ∧ b.length = 60) ∧ (∀ k : Nat, (k : Int) < n.toInt → a.getD k 0 = b.getD k 0) ∧ w_f H 1537 = some (.int n1) ∧ w_a H 13 = some (3, .inl a1)
def tx_md (j : Nat) (us : List Int32) (n : Int32) (a : List Int32) (n1 : Int32) (a1 : List Int32) : Prop := ∃ v, us = [v] ∧ if j = 74 then (n.toInt ≤ 56 → n1.toInt = n.toInt + 4 ∧ a1 = tx_ap v a n.toInt.toNat 4) ∧ (¬ n.toInt ≤ 56 → n1 = n ∧ a1 = a) else a1 = a ∧ (0 ≤ v.toInt ∧ v.toInt ≤ n.toInt → n1 = v) ∧ (¬ (0 ≤ v.toInt ∧ v.toInt ≤ n.toInt) → n1 = n)
def n_MdT (j : Nat) (us : List Int32) (_ : Int32) (H : aH) : Prop := t_I H ∧ ∃ s n a b n1 a1, g_tm H s n a b n1 a1 ∧ tx_md j us n a n1 a1
theorem n_C74T {X : aX} : n_G X n_IT n_MdT (74, 2, 1, false, 1, 1, 0) := ⟨a_m74, rfl, rfl, rfl, fun us h C S K0 hl _ hk => by
  obtain ⟨⟨hI, s, n, a, b, q⟩, hk⟩ := hk
  match us, hl with
  | [v], _ =>
    obtain ⟨⟨q1, q2⟩, ⟨q3, q4⟩, ⟨q5, q6⟩, q7, q8⟩ := q
    have b0 := n_bd (lo := 0) (hi := 60) hI.1 q3 rfl
    refine c_signX (d := 199) hI.1 q3 q5 b0.1 b0.2 (fun z m H f w1 w2 w3 => ?_) (fun z H f => ?_)
    · refine hk _ H ⟨⟨f.1, y_jfr y_JA_x f rfl rfl hI.2.1, t_day_frc f rfl hI.2.2⟩, s, n, a, b, m, _, ⟨⟨(y_fe f rfl).trans q1, (y_fe f rfl).trans q2⟩, (y_fe f rfl).trans q4, (y_ae f rfl).trans q6, q7, q8, w2, w3⟩, v, rfl, ?_⟩
      rw [if_pos rfl]
      exact ⟨fun _ => ⟨w1, rfl⟩, fun w => absurd z w⟩
    · refine hk _ H ⟨⟨f.1, y_jfr y_JA_x f rfl rfl hI.2.1, t_day_frc f rfl hI.2.2⟩, s, n, a, b, n, a, ⟨⟨(y_fe f rfl).trans q1, (y_fe f rfl).trans q2⟩, (y_fe f rfl).trans q4, (y_ae f rfl).trans q6, q7, q8, (y_fe f rfl).trans q3, (y_ae f rfl).trans q5⟩, v, rfl, ?_⟩
      rw [if_pos rfl]
      exact ⟨fun w => absurd w z, fun _ => ⟨rfl, rfl⟩⟩⟩
theorem n_C219T {X : aX} : n_G X n_IT n_MdT (219, 155, 1, false, 1, 2, 74) := ⟨a_m219, rfl, rfl, rfl, fun us h C S K0 hl _ hk => by
  obtain ⟨g, hg, hz⟩ := (show ∃ g, n_MdT 74 us g h ∧ ∀ (x : Int32) (H : aH), n_IT H → ((1 : Nat) = 3 → x = g) → K0 (some (.int x)) H C S from hk)
  obtain ⟨hI, s, n, a, b, n1, a1, ⟨⟨q1, q2⟩, q4, q6, ⟨l1, l2⟩, q8, q3, q5⟩, v, rfl, q⟩ := hg
  rw [if_pos rfl] at q
  obtain ⟨y1, y2⟩ := q
  have b0 := n_bd (lo := 0) (hi := 60) hI.1 q4 rfl
  have tj : ∀ {H : aH}, y_fr h H [19584, 19612] [171] → t_I H := fun f => ⟨f.1, ⟨y_J_fr f rfl rfl hI.2.1.1, j_say_e f rfl rfl hI.2.1.2.1, j_cost_e f rfl rfl hI.2.1.2.2⟩, t_day_fr f rfl hI.2.2⟩
  refine f_signX (d := 200) hI.1 q4 q6 (fun z H f w1 w2 => ?_) (fun z H f => ?_)
  · obtain ⟨v1, v2⟩ := y1 z
    have i4 : (n + Int32.ofInt 4).toInt = n.toInt + 4 := by
      rw [Int32.toInt_add, show (Int32.ofInt 4).toInt = 4 by decide]
      exact Int.bmod_eq_of_le (by omega) (by omega)
    have en : n1 = n + Int32.ofInt 4 := Int32.toInt_inj.mp (by rw [v1, i4])
    subst en
    subst v2
    refine hz _ H ⟨tj f, s, _, _, _, ⟨(y_fe f rfl).trans q1, (y_fe f rfl).trans q2⟩, ⟨(y_fe f rfl).trans q3, w1⟩, ⟨(y_ae f rfl).trans q5, w2⟩, ⟨by rw [tx_ap_l]; exact l1, by rw [tx_ap_l]; exact l2⟩, fun k hk' => ?_⟩ (fun z => absurd z (by decide))
    exact tx_ap_g (by rw [l1, l2]) (fun j hj => q8 j (by omega)) 4 (by omega) k (by omega)
  · obtain ⟨v1, v2⟩ := y2 z
    subst v1
    subst v2
    have f2 : y_fr h H [19584, 19612] [171] := y_mo f rfl rfl
    exact hz _ H ⟨tj f2, s, _, _, b, ⟨(y_fe f rfl).trans q1, (y_fe f rfl).trans q2⟩, ⟨(y_fe f rfl).trans q3, (y_fe f rfl).trans q4⟩, ⟨(y_ae f rfl).trans q5, (y_ae f rfl).trans q6⟩, ⟨l1, l2⟩, q8⟩ (fun z => absurd z (by decide))⟩
theorem n_C76T {X : aX} : n_G X n_IT n_MdT (76, 2, 1, false, 1, 1, 0) := ⟨a_m76, rfl, rfl, rfl, fun us h C S K0 hl _ hk => by
  obtain ⟨⟨hI, s, n, a, b, q⟩, hk⟩ := hk
  match us, hl with
  | [v], _ =>
    obtain ⟨⟨q1, q2⟩, ⟨q3, q4⟩, ⟨q5, q6⟩, q7, q8⟩ := q
    have b0 := n_bd (lo := 0) (hi := 60) hI.1 q3 rfl
    refine c_endX (d := 200) hI.1 q3 b0.2 (fun z H f w1 => ?_) (fun z H f => ?_)
    · refine hk _ H ⟨⟨f.1, y_jfr y_JA_x f rfl rfl hI.2.1, t_day_frc f rfl hI.2.2⟩, s, n, a, b, v, a, ⟨⟨(y_fe f rfl).trans q1, (y_fe f rfl).trans q2⟩, (y_fe f rfl).trans q4, (y_ae f rfl).trans q6, q7, q8, w1, (y_ae f rfl).trans q5⟩, v, rfl, ?_⟩
      rw [if_neg (by decide)]
      exact ⟨rfl, fun _ => rfl, fun w => absurd z w⟩
    · refine hk _ H ⟨⟨f.1, y_jfr y_JA_x f rfl rfl hI.2.1, t_day_frc f rfl hI.2.2⟩, s, n, a, b, n, a, ⟨⟨(y_fe f rfl).trans q1, (y_fe f rfl).trans q2⟩, (y_fe f rfl).trans q4, (y_ae f rfl).trans q6, q7, q8, (y_fe f rfl).trans q3, (y_ae f rfl).trans q5⟩, v, rfl, ?_⟩
      rw [if_neg (by decide)]
      exact ⟨rfl, fun w => absurd w z, fun _ => rfl⟩⟩
theorem n_C220T {X : aX} : n_G X n_IT n_MdT (220, 155, 1, false, 1, 2, 76) := ⟨a_m220, rfl, rfl, rfl, fun us h C S K0 hl _ hk => by
  obtain ⟨g, hg, hz⟩ := (show ∃ g, n_MdT 76 us g h ∧ ∀ (x : Int32) (H : aH), n_IT H → ((1 : Nat) = 3 → x = g) → K0 (some (.int x)) H C S from hk)
  obtain ⟨hI, s, n, a, b, n1, a1, ⟨⟨q1, q2⟩, q4, q6, ⟨l1, l2⟩, q8, q3, q5⟩, v, rfl, q⟩ := hg
  rw [if_neg (by decide)] at q
  obtain ⟨rfl, y1, y2⟩ := q
  have tj : ∀ {H : aH}, y_fr h H [19584, 19612] [] → t_I H := fun f => ⟨f.1, ⟨y_J_fr f rfl rfl hI.2.1.1, j_say_e f rfl rfl hI.2.1.2.1, j_cost_e f rfl rfl hI.2.1.2.2⟩, t_day_fr f rfl hI.2.2⟩
  refine f_end (d := 199) hI.1 q4 (fun z H f w1 => ?_) (fun z H f => ?_)
  · have en := y1 z
    subst en
    exact hz _ H ⟨tj f, s, _, _, b, ⟨(y_fe f rfl).trans q1, (y_fe f rfl).trans q2⟩, ⟨(y_fe f rfl).trans q3, w1⟩, ⟨(y_ae f rfl).trans q5, (y_ae f rfl).trans q6⟩, ⟨l1, l2⟩, fun k hk' => q8 k (by omega)⟩ (fun z => absurd z (by decide))
  · have en := y2 z
    subst en
    have f2 : y_fr h H [19584, 19612] [] := y_mo f rfl rfl
    exact hz _ H ⟨tj f2, s, _, _, b, ⟨(y_fe f rfl).trans q1, (y_fe f rfl).trans q2⟩, ⟨(y_fe f rfl).trans q3, (y_fe f rfl).trans q4⟩, ⟨(y_ae f rfl).trans q5, (y_ae f rfl).trans q6⟩, ⟨l1, l2⟩, q8⟩ (fun z => absurd z (by decide))⟩
end PT33idj
section PT33idk
/-! ===== v21: say() as a pair of both systems ===== -/
section PRC
variable {T T' : Nat → Int} {t : Nat} {n : Int}
theorem pr_e_c (h : ∀ p, pr_k T t p = pr_k T' t p) : ∀ (f : Nat) (b : Bool) (p o : Nat), pr_e T t n f b p o = pr_e T' t n f b p o := by
  intro f
  induction f with
  | zero =>
    intro b p o
    cases b <;> rfl
  | succ f ih =>
    intro b p o
    cases b with
    | false =>
      show (if pr_k T t p = 33 then pr_e T t n f false (p + 1) o else if pr_k T t p = 40 ∧ o < 5 then pr_e T t n f false (p + 1) (o + 1) else if 97 ≤ pr_k T t p ∧ pr_k T t p < 97 + n then pr_e T t n f true (p + 1) o else (false, p)) = (if pr_k T' t p = 33 then pr_e T' t n f false (p + 1) o else if pr_k T' t p = 40 ∧ o < 5 then pr_e T' t n f false (p + 1) (o + 1) else if 97 ≤ pr_k T' t p ∧ pr_k T' t p < 97 + n then pr_e T' t n f true (p + 1) o else (false, p))
      rw [h p, ih, ih, ih]
    | true =>
      show (if pr_k T t p = 41 ∧ 0 < o then pr_e T t n f true (p + 1) (o - 1) else if pr_k T t p = 38 ∨ pr_k T t p = 124 then pr_e T t n f false (p + 1) o else (decide (o = 0), p)) = (if pr_k T' t p = 41 ∧ 0 < o then pr_e T' t n f true (p + 1) (o - 1) else if pr_k T' t p = 38 ∨ pr_k T' t p = 124 then pr_e T' t n f false (p + 1) o else (decide (o = 0), p))
      rw [h p, ih, ih]
theorem pr_E_c (h : ∀ p, pr_k T t p = pr_k T' t p) {b : Bool} {p o : Nat} : pr_E T t n b p o = pr_E T' t n b p o := pr_e_c h _ _ _ _
theorem pr_dq_c (h : ∀ p, pr_k T t p = pr_k T' t p) : ∀ (f p : Nat), pr_dq T t f p = pr_dq T' t f p := by
  intro f
  induction f with
  | zero =>
    intro p
    rfl
  | succ f ih =>
    intro p
    show (if 48 ≤ pr_k T t p ∧ pr_k T t p ≤ 57 then pr_dq T t f (p + 1) else p) = (if 48 ≤ pr_k T' t p ∧ pr_k T' t p ≤ 57 then pr_dq T' t f (p + 1) else p)
    rw [h p, ih]
theorem pr_gv_c (h : ∀ p, pr_k T t p = pr_k T' t p) {p : Nat} : pr_gv T t n p = pr_gv T' t n p := by
  unfold pr_gv
  rw [pr_E_c h (b := false) (p := p) (o := 0), h, pr_E_c h (b := false) (p := (pr_E T' t n false p 0).2 + 1) (o := 0)]
theorem pr_rt_c (h : ∀ p, pr_k T t p = pr_k T' t p) {p : Nat} : pr_rt T t p = pr_rt T' t p := by
  unfold pr_rt
  rw [pr_dq_c h 8 p, h (pr_dq T' t 8 p), h (pr_dq T' t 8 p + 1), pr_dq_c h 8 (pr_dq T' t 8 p + 1)]
theorem pr_tm_c (h : ∀ p, pr_k T t p = pr_k T' t p) {p : Nat} : pr_tm T t n p = pr_tm T' t n p := by
  show (if 48 ≤ pr_k T t p ∧ pr_k T t p ≤ 57 then pr_rt T t p else pr_gv T t n p) = (if 48 ≤ pr_k T' t p ∧ pr_k T' t p ≤ 57 then pr_rt T' t p else pr_gv T' t n p)
  rw [h p, pr_rt_c h, pr_gv_c h]
theorem pr_sy_cg (h : ∀ p, pr_k T t p = pr_k T' t p) : pr_sy T t n = pr_sy T' t n := by
  unfold pr_sy
  rw [pr_tm_c h (p := 0), h (pr_tm T' t n 0).2.1, pr_gv_c h, pr_tm_c h (p := (pr_tm T' t n 0).2.1 + 1)]
theorem pr_an_c {len : Nat} {sy : Int} (h : ∀ k, k < len → T k = T' k) : pr_an T len n sy = pr_an T' len n sy := by
  have tl := (pr_t_le (len := len)).2
  have hk : ∀ p, pr_k T (pr_t len) p = pr_k T' (pr_t len) p := fun p => by
    unfold pr_k
    by_cases z : p < pr_t len
    · rw [if_pos z, if_pos z]
      exact h p (by omega)
    · rw [if_neg z, if_neg z]
  unfold pr_an pr_wh
  rw [pr_sy_cg hk]
end PRC
/-- how many sayings there are behind it -/
def pr_cn (a s : Int) : Int := if 0 ≤ a then s + 1 else s
def n_MdC (us : List Int32) (g : Int32) (H : aH) : Prop := t_I H ∧ ∃ v, n_cV H (n_s77 us v).1 ∧ n_mV H v ∧ ∃ (s n sy : Int32) (a b : List Int32), (w_f H 15 = some (.int sy) ∧ sy.toInt = pr_cn g.toInt s.toInt) ∧ (w_f H 1537 = some (.int (Int32.ofInt 0)) ∧ w_a H 13 = some (3, .inl a)) ∧ (w_f H 19603 = some (.int s) ∧ w_f H 19612 = some (.int n) ∧ w_a H 171 = some (0, .inl b)) ∧ (a.length = 60 ∧ b.length = 60) ∧ (∀ k : Nat, (k : Int) < n.toInt → a.getD k 0 = b.getD k 0) ∧ g.toInt = pr_an (y_N a) n.toInt.toNat (v 128).toInt s.toInt
/-! ===== v16: both systems (laid by wip/tools/lay16.py) ===== -/
def n_pA (j : Nat) : Bool := ([12, 17, 21, 24, 74, 76, 77, 127, 157, 163, 165] : List Nat).elem j
def n_pB (j : Nat) : Bool := ([74, 76] : List Nat).elem j
abbrev n_IP : aH → Prop := fun h => n_I h ∧ n_IT h
abbrev n_MdP : Nat → List Int32 → Int32 → aH → Prop := n_MP n_pA n_pB n_I n_IT n_Md n_MdT 77 n_MdC
theorem n_MdP_r {j : Nat} {us : List Int32} {g : Int32} {H : aH} (q : n_MdP j us g H) : w_hr z_D H := by
  have q : (if j = 77 then n_MdC us g H else n_M12 n_pA n_I n_Md j us g H ∧ n_M12 n_pB n_IT n_MdT j us g H) := q
  by_cases z : j = 77
  · rw [if_pos z] at q
    exact q.1.1
  · rw [if_neg z] at q
    have q := q.1
    unfold n_M12 at q
    by_cases y : n_pA j = true
    · rw [if_pos y] at q
      exact q.1.1
    · rw [if_neg y] at q
      exact q.1.1
theorem n_C77 {X : aX} : n_G X n_IP n_MdP (77, 2, 0, false, 3, 1, 0) := ⟨a_m77, rfl, rfl, rfl, fun us h C S K0 hl hb hk => by
  obtain ⟨⟨⟨hI, v, hc, hm⟩, ⟨-, s, n, a, b, ⟨q1, q2⟩, ⟨q3, q4⟩, ⟨q5, q6⟩, q7, q8⟩⟩, hk⟩ := hk
  have b0 := n_bd (lo := 0) (hi := 10) hI.1 (hc.1 128 (by decide)) rfl
  have r1 := n_c77 (X := X) us h v C S (fun w H C' S' => C' = C ∧ S' = S ∧ ∃ x : Int32, w = some (.int x) ∧ t_I H ∧ n_cV H (n_s77 us v).1 ∧ n_mV H v) hl hb hI hc hm (fun x H i1 i2 i3 => ⟨rfl, rfl, x, rfl, i1, i2, i3⟩)
  match us, hl with
  | [], _ =>
    have r2 : aOK s_P X (193 + 7) a_m77 0 [some (.ref 2), none, none] [] h C S (fun w H _ _ => ∃ (x sy : Int32), w = some (.int x) ∧ x.toInt = pr_an (y_N a) n.toInt.toNat (v 128).toInt s.toInt ∧ (w_f H 15 = some (.int sy) ∧ sy.toInt = pr_cn x.toInt s.toInt) ∧ (w_f H 1537 = some (.int (Int32.ofInt 0)) ∧ w_a H 13 = some (3, .inl a)) ∧ (w_f H 19603 = some (.int s) ∧ w_f H 19612 = some (.int n) ∧ w_a H 171 = some (0, .inl b))) := c_say (d := 193) hI.1 q3 q1 (hc.1 128 (by decide)) q5 b0.1 b0.2 (fun r sy' H _ e2 e3 e4 e5 e6 e7 e8 e9 => ⟨r, sy', rfl, e2, ⟨e3, by rw [e4, e2]; rfl⟩, ⟨e5, e6⟩, e7.trans q2, e8.trans q4, e9.trans q6⟩)
    refine aOK_imp (fun w H C' S' k => ?_) (aOK_and r1 r2)
    obtain ⟨⟨c1, c2, x, c3, i1, i2, i3⟩, x', sy', d1, d2, d3, d4, d5⟩ := k
    rw [c3] at d1
    injection d1 with d1
    injection d1 with d1
    subst d1
    rw [c1, c2, c3]
    refine hk x H ?_
    show n_MP n_pA n_pB n_I n_IT n_Md n_MdT 77 n_MdC 77 [] _ _
    unfold n_MP
    rw [if_pos rfl]
    exact ⟨i1, v, i2, i3, s, n, sy', a, b, d3, d4, d5, q7, q8, d2⟩⟩
theorem n_C221 {X : aX} : n_G X n_IP n_MdP (221, 155, 0, false, 3, 2, 77) := ⟨a_m221, rfl, rfl, rfl, fun us h C S K0 hl hb hk => by
  obtain ⟨g, hg, hkk⟩ := (show ∃ g, n_MdP 77 us g h ∧ ∀ (x : Int32) (H : aH), n_IP H → ((3 : Nat) = 3 → x = g) → K0 (some (.int x)) H C S from hk)
  have hg : n_MP n_pA n_pB n_I n_IT n_Md n_MdT 77 n_MdC 77 us g h := hg
  unfold n_MP at hg
  rw [if_pos rfl] at hg
  obtain ⟨hI, v, hc, hm, s, n, sy, a, b, ⟨p1, p2⟩, ⟨p3, p4⟩, ⟨p5, p6, p7⟩, p8, p9, p10⟩ := hg
  have g0 : w_f h 19591 = some (.int (v 128)) := hm.1 (128, 19591) (by decide)
  have b0 := n_bd (lo := 0) (hi := 10) hI.1 g0 rfl
  have b1 := n_bd (lo := 0) (hi := 60) hI.1 p6 rfl
  have r1 := n_r221 (X := X) us h _ v C S (fun w H C' S' => C' = C ∧ S' = S ∧ ∃ x : Int32, w = some (.int x) ∧ t_I H ∧ n_cV H (n_s77 us v).1 ∧ n_mV H (n_s77 us v).1) hl hb hI hc hm (fun x H i1 i2 i3 => ⟨rfl, rfl, x, rfl, i1, i2, i3⟩)
  have ea : pr_an (y_N a) n.toInt.toNat (v 128).toInt s.toInt = pr_an (y_N b) n.toInt.toNat (v 128).toInt s.toInt := pr_an_c (fun k hk => congrArg Int32.toInt (p9 k (by omega)))
  match us, hl with
  | [], _ =>
    have r2 : aOK s_P X (31 + 169) a_m221 0 [some (.ref 155), none, none, none] [] h C S (fun w H _ _ => ∃ (x sy2 : Int32), w = some (.int x) ∧ x.toInt = pr_an (y_N b) n.toInt.toNat (v 128).toInt s.toInt ∧ (w_f H 19603 = some (.int sy2) ∧ sy2.toInt = pr_cn x.toInt s.toInt) ∧ w_f H 19612 = some (.int (Int32.ofInt 0)) ∧ (w_f H 15 = some (.int sy) ∧ w_f H 1537 = some (.int (Int32.ofInt 0)) ∧ w_a H 13 = some (3, .inl a) ∧ w_a H 171 = some (0, .inl b))) := f_sayX (d := 31) hI.1 p6 p5 g0 p7 b0.1 b0.2 (fun r sy' H e w1 w2 w3 w4 => ⟨r, sy', rfl, w1, ⟨w2, by rw [w3, w1]; rfl⟩, w4, (y_fe e rfl).trans p1, (y_fe e rfl).trans p3, (y_ae e rfl).trans p4, (y_ae e rfl).trans p7⟩)
    refine aOK_imp (fun w H C' S' k => ?_) (aOK_and r1 r2)
    obtain ⟨⟨c1, c2, x, c3, i1, i2, i3⟩, x', sy2, d1, d2, ⟨d3, d4⟩, d5, d6, d7, d8, d9⟩ := k
    rw [c3] at d1
    injection d1 with d1
    injection d1 with d1
    subst d1
    have ex : x = g := Int32.toInt_inj.mp (by rw [d2, p10, ea])
    have es : sy2 = sy := Int32.toInt_inj.mp (by rw [d4, p2, ex])
    rw [es] at d3
    rw [c1, c2, c3]
    exact hkk x H ⟨⟨i1, _, i2, i3⟩, i1, sy, Int32.ofInt 0, a, b, ⟨d6, d3⟩, ⟨d7, d5⟩, ⟨d8, d9⟩, p8, fun k hk => absurd (show (k : Int) < 0 from hk) (by omega)⟩ (fun _ => ex)⟩
end PT33idk
section PT33j
/-! ===== v16: the law of p21: its loop (laid by wip/tools/lay16.py) ===== -/
def n_tb : nT := [(12, 2, 2, false, 1, 1, 0), (17, 2, 3, false, 1, 1, 0), (21, 2, 2, false, 1, 1, 0), (24, 2, 2, false, 1, 1, 0), (28, 2, 1, false, 1, 0, 0), (33, 2, 1, false, 1, 0, 0), (46, 2, 1, false, 1, 0, 0), (47, 2, 0, false, 1, 0, 0), (49, 2, 2, false, 1, 0, 0), (52, 2, 1, false, 1, 0, 0), (54, 2, 2, false, 1, 0, 0), (57, 2, 2, false, 1, 0, 0), (58, 2, 1, false, 1, 0, 0), (61, 2, 3, false, 1, 0, 0), (66, 2, 3, false, 1, 0, 0), (68, 2, 1, false, 1, 0, 0), (71, 2, 1, false, 1, 0, 0), (74, 2, 1, false, 1, 1, 0), (76, 2, 1, false, 1, 1, 0), (77, 2, 0, false, 3, 1, 0), (92, 2, 1, false, 1, 0, 0), (112, 2, 2, false, 1, 0, 0), (113, 2, 2, false, 1, 0, 0), (114, 2, 1, false, 1, 0, 0), (115, 2, 4, false, 1, 0, 0), (119, 2, 2, false, 1, 0, 0), (125, 2, 1, false, 1, 0, 0), (127, 2, 2, false, 1, 1, 0), (128, 2, 2, false, 1, 0, 0), (137, 2, 2, false, 1, 0, 0), (139, 2, 2, false, 1, 0, 0), (143, 2, 4, false, 1, 0, 0), (145, 2, 2, false, 1, 0, 0), (146, 2, 3, false, 1, 0, 0), (149, 2, 5, false, 1, 0, 0), (153, 2, 2, false, 1, 0, 0), (156, 2, 2, false, 1, 0, 0), (157, 2, 3, true, 1, 1, 0), (159, 2, 1, false, 1, 0, 0), (162, 2, 1, false, 1, 0, 0), (163, 2, 1, false, 1, 1, 0), (165, 2, 1, false, 1, 1, 0), (168, 2, 1, false, 1, 0, 0), (173, 155, 2, false, 1, 2, 12), (177, 155, 3, false, 1, 2, 17), (180, 155, 2, false, 1, 2, 21), (181, 155, 2, false, 1, 2, 24), (183, 155, 1, false, 1, 0, 0), (187, 155, 1, false, 1, 0, 0), (198, 155, 1, false, 1, 0, 0), (199, 155, 0, false, 1, 0, 0), (200, 155, 2, false, 1, 0, 0), (202, 155, 1, false, 1, 0, 0), (204, 155, 2, false, 1, 0, 0), (206, 155, 2, false, 1, 0, 0), (207, 155, 1, false, 1, 0, 0), (208, 155, 3, false, 1, 0, 0), (213, 155, 3, false, 1, 0, 0), (214, 155, 1, false, 1, 0, 0), (217, 155, 1, false, 1, 0, 0), (219, 155, 1, false, 1, 2, 74), (220, 155, 1, false, 1, 2, 76), (221, 155, 0, false, 3, 2, 77), (233, 155, 1, false, 1, 0, 0), (246, 155, 2, false, 1, 0, 0), (247, 155, 2, false, 1, 0, 0), (248, 155, 1, false, 1, 0, 0), (249, 155, 4, false, 1, 0, 0), (250, 155, 2, false, 1, 0, 0), (254, 155, 1, false, 1, 0, 0), (255, 155, 2, false, 1, 2, 127), (256, 155, 2, false, 1, 0, 0), (262, 155, 2, false, 1, 0, 0), (263, 155, 2, false, 1, 0, 0), (265, 155, 4, false, 1, 0, 0), (267, 155, 2, false, 1, 0, 0), (268, 155, 3, false, 1, 0, 0), (270, 155, 5, false, 1, 0, 0), (271, 155, 2, false, 1, 0, 0), (272, 155, 2, false, 1, 0, 0), (273, 155, 3, true, 1, 2, 157), (274, 155, 1, false, 1, 0, 0), (278, 155, 1, false, 1, 0, 0), (279, 155, 1, false, 1, 2, 163), (280, 155, 1, false, 1, 2, 165), (281, 155, 1, false, 1, 0, 0), (283, 155, 2, false, 1, 0, 0), (287, 155, 1, false, 2, 0, 0)]
section NJ
variable {X : aX}
def n_tbx0 : nT := [(12, 2, 2, false, 1, 1, 0), (17, 2, 3, false, 1, 1, 0), (21, 2, 2, false, 1, 1, 0), (24, 2, 2, false, 1, 1, 0), (28, 2, 1, false, 1, 0, 0), (33, 2, 1, false, 1, 0, 0), (46, 2, 1, false, 1, 0, 0), (47, 2, 0, false, 1, 0, 0), (49, 2, 2, false, 1, 0, 0), (52, 2, 1, false, 1, 0, 0), (54, 2, 2, false, 1, 0, 0), (57, 2, 2, false, 1, 0, 0), (58, 2, 1, false, 1, 0, 0), (61, 2, 3, false, 1, 0, 0), (66, 2, 3, false, 1, 0, 0), (68, 2, 1, false, 1, 0, 0), (71, 2, 1, false, 1, 0, 0), (74, 2, 1, false, 1, 1, 0), (76, 2, 1, false, 1, 1, 0), (77, 2, 0, false, 3, 1, 0), (92, 2, 1, false, 1, 0, 0), (112, 2, 2, false, 1, 0, 0)]
theorem n_tbx0_G : ∀ e ∈ n_tbx0, n_G X n_IP n_MdP e := List.forall_mem_cons.mpr ⟨(n_P1 rfl (Or.inl ⟨(n_ofc (n_c12) rfl rfl rfl), rfl⟩) (Or.inr ⟨(g_of1 (Md := n_MdT) g_Ts g_Ti (g_c12 (by decide +kernel)) rfl rfl rfl), rfl⟩)), List.forall_mem_cons.mpr ⟨(n_P1 rfl (Or.inl ⟨(n_ofc (n_c17) rfl rfl rfl), rfl⟩) (Or.inr ⟨(g_of1 (Md := n_MdT) g_Ts g_Ti (g_c17 (by decide +kernel)) rfl rfl rfl), rfl⟩)), List.forall_mem_cons.mpr ⟨(n_P1 rfl (Or.inl ⟨(n_ofc (n_c21) rfl rfl rfl), rfl⟩) (Or.inr ⟨(g_of1 (Md := n_MdT) g_Ts g_Ti (g_c21 (by decide +kernel)) rfl rfl rfl), rfl⟩)), List.forall_mem_cons.mpr ⟨(n_P1 rfl (Or.inl ⟨(n_ofc (n_c24) rfl rfl rfl), rfl⟩) (Or.inr ⟨(g_of1 (Md := n_MdT) g_Ts g_Ti (g_c24 (by decide +kernel)) rfl rfl rfl), rfl⟩)), List.forall_mem_cons.mpr ⟨(n_G_and0 (n_of1I n_a28 rfl rfl rfl) (g_of1 (Md := n_MdT) g_Ts g_Ti (g_c28 (by decide +kernel)) rfl rfl rfl)), List.forall_mem_cons.mpr ⟨(n_G_and0 (n_of1I n_a33 rfl rfl rfl) (g_of1 (Md := n_MdT) g_Ts g_Ti (g_c33 (by decide +kernel)) rfl rfl rfl)), List.forall_mem_cons.mpr ⟨(n_G_and0 (n_of1I n_a46 rfl rfl rfl) (g_of1 (Md := n_MdT) g_Ts g_Ti (g_c46 (by decide +kernel)) rfl rfl rfl)), List.forall_mem_cons.mpr ⟨(n_G_and0 (n_of1I n_a47 rfl rfl rfl) (g_of1 (Md := n_MdT) g_Ts g_Ti (g_c47 (by decide +kernel)) rfl rfl rfl)), List.forall_mem_cons.mpr ⟨(n_G_and0 (n_of1I n_a49 rfl rfl rfl) (g_of1 (Md := n_MdT) g_Ts g_Ti (g_c49 (by decide +kernel)) rfl rfl rfl)), List.forall_mem_cons.mpr ⟨(n_G_and0 (n_of1I n_a52 rfl rfl rfl) (g_of1 (Md := n_MdT) g_Ts g_Ti (g_c52 (by decide +kernel)) rfl rfl rfl)), List.forall_mem_cons.mpr ⟨(n_G_and0 (n_of1I n_a54 rfl rfl rfl) (g_of1 (Md := n_MdT) g_Ts g_Ti (g_c54 (by decide +kernel)) rfl rfl rfl)), List.forall_mem_cons.mpr ⟨(n_G_and0 (n_of1 n_a57 rfl rfl rfl) (g_of1 (Md := n_MdT) g_Ts g_Ti (g_c57 (by decide +kernel)) rfl rfl rfl)), List.forall_mem_cons.mpr ⟨(n_G_and0 (n_of1I n_a58 rfl rfl rfl) (g_of1 (Md := n_MdT) g_Ts g_Ti (g_c58 (by decide +kernel)) rfl rfl rfl)), List.forall_mem_cons.mpr ⟨(n_G_and0 (n_of1 n_a61 rfl rfl rfl) (g_of1 (Md := n_MdT) g_Ts g_Ti (g_c61 (by decide +kernel)) rfl rfl rfl)), List.forall_mem_cons.mpr ⟨(n_G_and0 (n_of1I n_a66 rfl rfl rfl) (g_of1 (Md := n_MdT) g_Ts g_Ti (g_c66 (by decide +kernel)) rfl rfl rfl)), List.forall_mem_cons.mpr ⟨(n_G_and0 (n_of1I n_a68 rfl rfl rfl) (g_of1 (Md := n_MdT) g_Ts g_Ti (g_c68 (by decide +kernel)) rfl rfl rfl)), List.forall_mem_cons.mpr ⟨(n_G_and0 (n_of1I n_a71 rfl rfl rfl) (g_of1 (Md := n_MdT) g_Ts g_Ti (g_c71 (by decide +kernel)) rfl rfl rfl)), List.forall_mem_cons.mpr ⟨(n_P1 rfl (Or.inl ⟨(n_ofc (n_c74) rfl rfl rfl), rfl⟩) (Or.inl ⟨n_C74T, rfl⟩)), List.forall_mem_cons.mpr ⟨(n_P1 rfl (Or.inl ⟨(n_ofc (n_c76) rfl rfl rfl), rfl⟩) (Or.inl ⟨n_C76T, rfl⟩)), List.forall_mem_cons.mpr ⟨n_C77, List.forall_mem_cons.mpr ⟨(n_G_and0 (n_of1I n_a92 rfl rfl rfl) (g_of1 (Md := n_MdT) g_Ts g_Ti (g_c92 (by decide +kernel)) rfl rfl rfl)), List.forall_mem_cons.mpr ⟨(n_G_and0 (n_of1I n_a112 rfl rfl rfl) (g_of1 (Md := n_MdT) g_Ts g_Ti (g_c112 (by decide +kernel)) rfl rfl rfl)), fun _ h => absurd h List.not_mem_nil⟩⟩⟩⟩⟩⟩⟩⟩⟩⟩⟩⟩⟩⟩⟩⟩⟩⟩⟩⟩⟩⟩
def n_tbx1 : nT := [(113, 2, 2, false, 1, 0, 0), (114, 2, 1, false, 1, 0, 0), (115, 2, 4, false, 1, 0, 0), (119, 2, 2, false, 1, 0, 0), (125, 2, 1, false, 1, 0, 0), (127, 2, 2, false, 1, 1, 0), (128, 2, 2, false, 1, 0, 0), (137, 2, 2, false, 1, 0, 0), (139, 2, 2, false, 1, 0, 0), (143, 2, 4, false, 1, 0, 0), (145, 2, 2, false, 1, 0, 0), (146, 2, 3, false, 1, 0, 0), (149, 2, 5, false, 1, 0, 0), (153, 2, 2, false, 1, 0, 0), (156, 2, 2, false, 1, 0, 0), (157, 2, 3, true, 1, 1, 0), (159, 2, 1, false, 1, 0, 0), (162, 2, 1, false, 1, 0, 0), (163, 2, 1, false, 1, 1, 0), (165, 2, 1, false, 1, 1, 0), (168, 2, 1, false, 1, 0, 0), (173, 155, 2, false, 1, 2, 12)]
theorem n_tbx1_G : ∀ e ∈ n_tbx1, n_G X n_IP n_MdP e := List.forall_mem_cons.mpr ⟨(n_G_and0 (n_of1I n_a113 rfl rfl rfl) (g_of1 (Md := n_MdT) g_Ts g_Ti (g_c113 (by decide +kernel)) rfl rfl rfl)), List.forall_mem_cons.mpr ⟨(n_G_and0 (n_of1I n_a114 rfl rfl rfl) (g_of1 (Md := n_MdT) g_Ts g_Ti (g_c114 (by decide +kernel)) rfl rfl rfl)), List.forall_mem_cons.mpr ⟨(n_G_and0 (n_of1 n_a115 rfl rfl rfl) (g_of1 (Md := n_MdT) g_Ts g_Ti (g_c115 (by decide +kernel)) rfl rfl rfl)), List.forall_mem_cons.mpr ⟨(n_G_and0 (n_of1I n_a119 rfl rfl rfl) (g_of1 (Md := n_MdT) g_Ts g_Ti (g_c119 (by decide +kernel)) rfl rfl rfl)), List.forall_mem_cons.mpr ⟨(n_G_and0 (n_of1I n_a125 rfl rfl rfl) (g_of1 (Md := n_MdT) g_Ts g_Ti (g_c125 (by decide +kernel)) rfl rfl rfl)), List.forall_mem_cons.mpr ⟨(n_P1 rfl (Or.inl ⟨(n_ofc (n_c127) rfl rfl rfl), rfl⟩) (Or.inr ⟨(g_of1 (Md := n_MdT) g_Ts g_Ti (g_c127 (by decide +kernel)) rfl rfl rfl), rfl⟩)), List.forall_mem_cons.mpr ⟨(n_G_and0 (n_of1I n_a128 rfl rfl rfl) (g_of1 (Md := n_MdT) g_Ts g_Ti (g_c128 (by decide +kernel)) rfl rfl rfl)), List.forall_mem_cons.mpr ⟨(n_G_and0 (n_of1I n_a137 rfl rfl rfl) (g_of1 (Md := n_MdT) g_Ts g_Ti (g_c137 (by decide +kernel)) rfl rfl rfl)), List.forall_mem_cons.mpr ⟨(n_G_and0 (n_of1I n_a139 rfl rfl rfl) (g_of1 (Md := n_MdT) g_Ts g_Ti (g_c139 (by decide +kernel)) rfl rfl rfl)), List.forall_mem_cons.mpr ⟨(n_G_and0 (n_of1 n_a143 rfl rfl rfl) (g_of1 (Md := n_MdT) g_Ts g_Ti (g_c143 (by decide +kernel)) rfl rfl rfl)), List.forall_mem_cons.mpr ⟨(n_G_and0 (n_of1 n_a145 rfl rfl rfl) (g_of1 (Md := n_MdT) g_Ts g_Ti (g_c145 (by decide +kernel)) rfl rfl rfl)), List.forall_mem_cons.mpr ⟨(n_G_and0 (n_of1I n_a146 rfl rfl rfl) (g_of1 (Md := n_MdT) g_Ts g_Ti (g_c146 (by decide +kernel)) rfl rfl rfl)), List.forall_mem_cons.mpr ⟨(n_G_and0 (n_of1 n_a149 rfl rfl rfl) (g_of1 (Md := n_MdT) g_Ts g_Ti (g_c149 (by decide +kernel)) rfl rfl rfl)), List.forall_mem_cons.mpr ⟨(n_G_and0 (n_of1 n_a153 rfl rfl rfl) (g_of1 (Md := n_MdT) g_Ts g_Ti (g_c153 (by decide +kernel)) rfl rfl rfl)), List.forall_mem_cons.mpr ⟨(n_G_and0 (n_of1 n_a156 rfl rfl rfl) (g_of1 (Md := n_MdT) g_Ts g_Ti (g_c156 (by decide +kernel)) rfl rfl rfl)), List.forall_mem_cons.mpr ⟨(n_P1 rfl (Or.inl ⟨(n_ofc (n_c157) rfl rfl rfl), rfl⟩) (Or.inr ⟨(g_of1 (Md := n_MdT) g_Ts g_Ti (g_c157 (by decide +kernel)) rfl rfl rfl), rfl⟩)), List.forall_mem_cons.mpr ⟨(n_G_and0 (n_of1 n_a159 rfl rfl rfl) (g_of1 (Md := n_MdT) g_Ts g_Ti (g_c159 (by decide +kernel)) rfl rfl rfl)), List.forall_mem_cons.mpr ⟨(n_G_and0 (n_of1 n_a162 rfl rfl rfl) (g_of1 (Md := n_MdT) g_Ts g_Ti (g_c162 (by decide +kernel)) rfl rfl rfl)), List.forall_mem_cons.mpr ⟨(n_P1 rfl (Or.inl ⟨(n_ofc (n_c163) rfl rfl rfl), rfl⟩) (Or.inr ⟨(g_of1 (Md := n_MdT) g_Ts g_Ti (g_c163 (by decide +kernel)) rfl rfl rfl), rfl⟩)), List.forall_mem_cons.mpr ⟨(n_P1 rfl (Or.inl ⟨(n_ofc (n_c165) rfl rfl rfl), rfl⟩) (Or.inr ⟨(g_of1 (Md := n_MdT) g_Ts g_Ti (g_c165 (by decide +kernel)) rfl rfl rfl), rfl⟩)), List.forall_mem_cons.mpr ⟨(n_G_and0 (n_of1 n_a168 rfl rfl rfl) (g_of1 (Md := n_MdT) g_Ts g_Ti (g_c168 (by decide +kernel)) rfl rfl rfl)), List.forall_mem_cons.mpr ⟨(n_P2 rfl (Or.inl ⟨(n_ofr (by decide) (n_r173) rfl rfl rfl), rfl⟩) (Or.inr ⟨(g_of1 (Md := n_MdT) g_Ts g_Ti (g_r173 (by decide +kernel)) rfl rfl rfl), rfl⟩)), fun _ h => absurd h List.not_mem_nil⟩⟩⟩⟩⟩⟩⟩⟩⟩⟩⟩⟩⟩⟩⟩⟩⟩⟩⟩⟩⟩⟩
def n_tbx2 : nT := [(177, 155, 3, false, 1, 2, 17), (180, 155, 2, false, 1, 2, 21), (181, 155, 2, false, 1, 2, 24), (183, 155, 1, false, 1, 0, 0), (187, 155, 1, false, 1, 0, 0), (198, 155, 1, false, 1, 0, 0), (199, 155, 0, false, 1, 0, 0), (200, 155, 2, false, 1, 0, 0), (202, 155, 1, false, 1, 0, 0), (204, 155, 2, false, 1, 0, 0), (206, 155, 2, false, 1, 0, 0), (207, 155, 1, false, 1, 0, 0), (208, 155, 3, false, 1, 0, 0), (213, 155, 3, false, 1, 0, 0), (214, 155, 1, false, 1, 0, 0), (217, 155, 1, false, 1, 0, 0), (219, 155, 1, false, 1, 2, 74), (220, 155, 1, false, 1, 2, 76), (221, 155, 0, false, 3, 2, 77), (233, 155, 1, false, 1, 0, 0), (246, 155, 2, false, 1, 0, 0), (247, 155, 2, false, 1, 0, 0)]
theorem n_tbx2_G : ∀ e ∈ n_tbx2, n_G X n_IP n_MdP e := List.forall_mem_cons.mpr ⟨(n_P2 rfl (Or.inl ⟨(n_ofr (by decide) (n_r177) rfl rfl rfl), rfl⟩) (Or.inr ⟨(g_of1 (Md := n_MdT) g_Ts g_Ti (g_r177 (by decide +kernel)) rfl rfl rfl), rfl⟩)), List.forall_mem_cons.mpr ⟨(n_P2 rfl (Or.inl ⟨(n_ofr (by decide) (n_r180) rfl rfl rfl), rfl⟩) (Or.inr ⟨(g_of1 (Md := n_MdT) g_Ts g_Ti (g_r180 (by decide +kernel)) rfl rfl rfl), rfl⟩)), List.forall_mem_cons.mpr ⟨(n_P2 rfl (Or.inl ⟨(n_ofr (by decide) (n_r181) rfl rfl rfl), rfl⟩) (Or.inr ⟨(g_of1 (Md := n_MdT) g_Ts g_Ti (g_r181 (by decide +kernel)) rfl rfl rfl), rfl⟩)), List.forall_mem_cons.mpr ⟨(n_G_and0 (n_of1 n_a183 rfl rfl rfl) (g_of1 (Md := n_MdT) g_Ts g_Ti (g_r183 (by decide +kernel)) rfl rfl rfl)), List.forall_mem_cons.mpr ⟨(n_G_and0 (n_of1 n_a187 rfl rfl rfl) (g_of1 (Md := n_MdT) g_Ts g_Ti (g_r187 (by decide +kernel)) rfl rfl rfl)), List.forall_mem_cons.mpr ⟨(n_G_and0 (n_of1 n_a198 rfl rfl rfl) (g_of1 (Md := n_MdT) g_Ts g_Ti (g_r198 (by decide +kernel)) rfl rfl rfl)), List.forall_mem_cons.mpr ⟨(n_G_and0 (n_of1 n_a199 rfl rfl rfl) (g_of1 (Md := n_MdT) g_Ts g_Ti (g_r199 (by decide +kernel)) rfl rfl rfl)), List.forall_mem_cons.mpr ⟨(n_G_and0 (n_of1 n_a200 rfl rfl rfl) (g_of1 (Md := n_MdT) g_Ts g_Ti (g_r200 (by decide +kernel)) rfl rfl rfl)), List.forall_mem_cons.mpr ⟨(n_G_and0 (n_of1 n_a202 rfl rfl rfl) (g_of1 (Md := n_MdT) g_Ts g_Ti (g_r202 (by decide +kernel)) rfl rfl rfl)), List.forall_mem_cons.mpr ⟨(n_G_and0 (n_of1 n_a204 rfl rfl rfl) (g_of1 (Md := n_MdT) g_Ts g_Ti (g_r204 (by decide +kernel)) rfl rfl rfl)), List.forall_mem_cons.mpr ⟨(n_G_and0 (n_of1 n_a206 rfl rfl rfl) (g_of1 (Md := n_MdT) g_Ts g_Ti (g_r206 (by decide +kernel)) rfl rfl rfl)), List.forall_mem_cons.mpr ⟨(n_G_and0 (n_of1 n_a207 rfl rfl rfl) (g_of1 (Md := n_MdT) g_Ts g_Ti (g_r207 (by decide +kernel)) rfl rfl rfl)), List.forall_mem_cons.mpr ⟨(n_G_and0 (n_of1 n_a208 rfl rfl rfl) (g_of1 (Md := n_MdT) g_Ts g_Ti (g_r208 (by decide +kernel)) rfl rfl rfl)), List.forall_mem_cons.mpr ⟨(n_G_and0 (n_of1 n_a213 rfl rfl rfl) (g_of1 (Md := n_MdT) g_Ts g_Ti (g_r213 (by decide +kernel)) rfl rfl rfl)), List.forall_mem_cons.mpr ⟨(n_G_and0 (n_of1 n_a214 rfl rfl rfl) (g_of1 (Md := n_MdT) g_Ts g_Ti (g_r214 (by decide +kernel)) rfl rfl rfl)), List.forall_mem_cons.mpr ⟨(n_G_and0 (n_of1 n_a217 rfl rfl rfl) (g_of1 (Md := n_MdT) g_Ts g_Ti (g_r217 (by decide +kernel)) rfl rfl rfl)), List.forall_mem_cons.mpr ⟨(n_P2 rfl (Or.inl ⟨(n_ofr (by decide) (n_r219) rfl rfl rfl), rfl⟩) (Or.inl ⟨n_C219T, rfl⟩)), List.forall_mem_cons.mpr ⟨(n_P2 rfl (Or.inl ⟨(n_ofr (by decide) (n_r220) rfl rfl rfl), rfl⟩) (Or.inl ⟨n_C220T, rfl⟩)), List.forall_mem_cons.mpr ⟨n_C221, List.forall_mem_cons.mpr ⟨(n_G_and0 (n_of1 n_a233 rfl rfl rfl) (g_of1 (Md := n_MdT) g_Ts g_Ti (g_r233 (by decide +kernel)) rfl rfl rfl)), List.forall_mem_cons.mpr ⟨(n_G_and0 (n_of1 n_a246 rfl rfl rfl) (g_of1 (Md := n_MdT) g_Ts g_Ti (g_r246 (by decide +kernel)) rfl rfl rfl)), List.forall_mem_cons.mpr ⟨(n_G_and0 (n_of1 n_a247 rfl rfl rfl) (g_of1 (Md := n_MdT) g_Ts g_Ti (g_r247 (by decide +kernel)) rfl rfl rfl)), fun _ h => absurd h List.not_mem_nil⟩⟩⟩⟩⟩⟩⟩⟩⟩⟩⟩⟩⟩⟩⟩⟩⟩⟩⟩⟩⟩⟩
def n_tbx3 : nT := [(248, 155, 1, false, 1, 0, 0), (249, 155, 4, false, 1, 0, 0), (250, 155, 2, false, 1, 0, 0), (254, 155, 1, false, 1, 0, 0), (255, 155, 2, false, 1, 2, 127), (256, 155, 2, false, 1, 0, 0), (262, 155, 2, false, 1, 0, 0), (263, 155, 2, false, 1, 0, 0), (265, 155, 4, false, 1, 0, 0), (267, 155, 2, false, 1, 0, 0), (268, 155, 3, false, 1, 0, 0), (270, 155, 5, false, 1, 0, 0), (271, 155, 2, false, 1, 0, 0), (272, 155, 2, false, 1, 0, 0), (273, 155, 3, true, 1, 2, 157), (274, 155, 1, false, 1, 0, 0), (278, 155, 1, false, 1, 0, 0), (279, 155, 1, false, 1, 2, 163), (280, 155, 1, false, 1, 2, 165), (281, 155, 1, false, 1, 0, 0), (283, 155, 2, false, 1, 0, 0), (287, 155, 1, false, 2, 0, 0)]
theorem n_tbx3_G : ∀ e ∈ n_tbx3, n_G X n_IP n_MdP e := List.forall_mem_cons.mpr ⟨(n_G_and0 (n_of1 n_a248 rfl rfl rfl) (g_of1 (Md := n_MdT) g_Ts g_Ti (g_r248 (by decide +kernel)) rfl rfl rfl)), List.forall_mem_cons.mpr ⟨(n_G_and0 (n_of1 n_a249 rfl rfl rfl) (g_of1 (Md := n_MdT) g_Ts g_Ti (g_r249 (by decide +kernel)) rfl rfl rfl)), List.forall_mem_cons.mpr ⟨(n_G_and0 (n_of1 n_a250 rfl rfl rfl) (g_of1 (Md := n_MdT) g_Ts g_Ti (g_r250 (by decide +kernel)) rfl rfl rfl)), List.forall_mem_cons.mpr ⟨(n_G_and0 (n_of1 n_a254 rfl rfl rfl) (g_of1 (Md := n_MdT) g_Ts g_Ti (g_r254 (by decide +kernel)) rfl rfl rfl)), List.forall_mem_cons.mpr ⟨(n_P2 rfl (Or.inl ⟨(n_ofr (by decide) (n_r255) rfl rfl rfl), rfl⟩) (Or.inr ⟨(g_of1 (Md := n_MdT) g_Ts g_Ti (g_r255 (by decide +kernel)) rfl rfl rfl), rfl⟩)), List.forall_mem_cons.mpr ⟨(n_G_and0 (n_of1 n_a256 rfl rfl rfl) (g_of1 (Md := n_MdT) g_Ts g_Ti (g_r256 (by decide +kernel)) rfl rfl rfl)), List.forall_mem_cons.mpr ⟨(n_G_and0 (n_of1 n_a262 rfl rfl rfl) (g_of1 (Md := n_MdT) g_Ts g_Ti (g_r262 (by decide +kernel)) rfl rfl rfl)), List.forall_mem_cons.mpr ⟨(n_G_and0 (n_of1 n_a263 rfl rfl rfl) (g_of1 (Md := n_MdT) g_Ts g_Ti (g_r263 (by decide +kernel)) rfl rfl rfl)), List.forall_mem_cons.mpr ⟨(n_G_and0 (n_of1 n_a265 rfl rfl rfl) (g_of1 (Md := n_MdT) g_Ts g_Ti (g_r265 (by decide +kernel)) rfl rfl rfl)), List.forall_mem_cons.mpr ⟨(n_G_and0 (n_of1 n_a267 rfl rfl rfl) (g_of1 (Md := n_MdT) g_Ts g_Ti (g_r267 (by decide +kernel)) rfl rfl rfl)), List.forall_mem_cons.mpr ⟨(n_G_and0 (n_of1 n_a268 rfl rfl rfl) (g_of1 (Md := n_MdT) g_Ts g_Ti (g_r268 (by decide +kernel)) rfl rfl rfl)), List.forall_mem_cons.mpr ⟨(n_G_and0 (n_of1 n_a270 rfl rfl rfl) (g_of1 (Md := n_MdT) g_Ts g_Ti (g_r270 (by decide +kernel)) rfl rfl rfl)), List.forall_mem_cons.mpr ⟨(n_G_and0 (n_of1 n_a271 rfl rfl rfl) (g_of1 (Md := n_MdT) g_Ts g_Ti (g_r271 (by decide +kernel)) rfl rfl rfl)), List.forall_mem_cons.mpr ⟨(n_G_and0 (n_of1 n_a272 rfl rfl rfl) (g_of1 (Md := n_MdT) g_Ts g_Ti (g_r272 (by decide +kernel)) rfl rfl rfl)), List.forall_mem_cons.mpr ⟨(n_P2 rfl (Or.inl ⟨(n_ofr (by decide) (n_r273) rfl rfl rfl), rfl⟩) (Or.inr ⟨(g_of1 (Md := n_MdT) g_Ts g_Ti (g_r273 (by decide +kernel)) rfl rfl rfl), rfl⟩)), List.forall_mem_cons.mpr ⟨(n_G_and0 (n_of1 n_a274 rfl rfl rfl) (g_of1 (Md := n_MdT) g_Ts g_Ti (g_r274 (by decide +kernel)) rfl rfl rfl)), List.forall_mem_cons.mpr ⟨(n_G_and0 (n_of1 n_a278 rfl rfl rfl) (g_of1 (Md := n_MdT) g_Ts g_Ti (g_r278 (by decide +kernel)) rfl rfl rfl)), List.forall_mem_cons.mpr ⟨(n_P2 rfl (Or.inl ⟨(n_ofr (by decide) (n_r279) rfl rfl rfl), rfl⟩) (Or.inr ⟨(g_of1 (Md := n_MdT) g_Ts g_Ti (g_r279 (by decide +kernel)) rfl rfl rfl), rfl⟩)), List.forall_mem_cons.mpr ⟨(n_P2 rfl (Or.inl ⟨(n_ofr (by decide) (n_r280) rfl rfl rfl), rfl⟩) (Or.inr ⟨(g_of1 (Md := n_MdT) g_Ts g_Ti (g_r280 (by decide +kernel)) rfl rfl rfl), rfl⟩)), List.forall_mem_cons.mpr ⟨(n_G_and0 (n_of1 n_a281 rfl rfl rfl) (g_of1 (Md := n_MdT) g_Ts g_Ti (g_r281 (by decide +kernel)) rfl rfl rfl)), List.forall_mem_cons.mpr ⟨(n_G_and0 (n_of1 n_a283 rfl rfl rfl) (g_of1 (Md := n_MdT) g_Ts g_Ti (g_r283 (by decide +kernel)) rfl rfl rfl)), List.forall_mem_cons.mpr ⟨(n_G_and0 (n_of2 n_a287 rfl rfl rfl) (g_of2 (Md := n_MdT) g_Ts g_Ti (g_r287 (by decide +kernel)) rfl rfl rfl)), fun _ h => absurd h List.not_mem_nil⟩⟩⟩⟩⟩⟩⟩⟩⟩⟩⟩⟩⟩⟩⟩⟩⟩⟩⟩⟩⟩⟩
theorem n_tb_e : n_tb = n_tbx0 ++ (n_tbx1 ++ (n_tbx2 ++ (n_tbx3))) := rfl
theorem n_tb_T : ∀ e ∈ n_tb, n_G X n_IP n_MdP e := by
  intro e h
  rw [n_tb_e] at h
  exact (List.mem_append.mp h).elim (fun h => n_tbx0_G e h) (fun h => (List.mem_append.mp h).elim (fun h => n_tbx1_G e h) (fun h => (List.mem_append.mp h).elim (fun h => n_tbx2_G e h) (fun h => n_tbx3_G e h)))
def l_offs : List Int := [196, 233, 282, 319, 356, 381, 406, 431, 444, 481, 506, 543, 580, 605, 654, 703, 728, 753, 778, 803, 816, 841, 878, 915, 940, 1001, 1038, 1063, 1100, 1137, 1174, 1211, 1272, 1309, 1358, 1431, 1468, 1505, 1602, 1627, 1652, 1677, 1702, 1727, 1767]
set_option maxRecDepth 100000 in
theorem l_chk : l_offs.all (fun o => decide (0 ≤ o) && n_run n_tb 400 1 [] none (l_to (40 + o).toNat a_cL) []) = true := by decide +kernel
theorem l_sufL : l_suf a_cL := ⟨[], rfl⟩
theorem l_at {t : Nat} {e : Nat × aI} {r : List (Nat × aI)} (h : l_to t a_cL = e :: r) : a_mL.2.2.2.2.2.lookup e.1 = some e.2 := (l_look (h ▸ l_suf_to l_sufL)).1
set_option maxRecDepth 100000 in
theorem l_1835 : l_to 1835 a_cL = (1835, .iinc 4 6, 3, 0, 0, 0, 0) :: l_to 1838 a_cL := rfl
set_option maxRecDepth 100000 in
theorem l_1838 : l_to 1838 a_cL = (1838, .goto (-1815), 3, 0, 23, 0, 0) :: l_to 1841 a_cL := rfl
set_option maxRecDepth 100000 in
theorem l_1841 : l_to 1841 a_cL = (1841, .iconst 1, 1, 0, 0, 0, 0) :: l_to 1842 a_cL := rfl
set_option maxRecDepth 100000 in
theorem l_1842 : l_to 1842 a_cL = [(1842, .ireturn, 1, 0, 0, 0, 0)] := rfl
theorem l_k1835 : a_mL.2.2.2.2.2.lookup 1835 = some (.iinc 4 6, 3, 0, 0, 0, 0) := by
  have h := l_at (e := (1835, .iinc 4 6, 3, 0, 0, 0, 0)) l_1835
  exact h
theorem l_k1838 : a_mL.2.2.2.2.2.lookup 1838 = some (.goto (-1815), 3, 0, 23, 0, 0) := by
  have h := l_at (e := (1838, .goto (-1815), 3, 0, 23, 0, 0)) l_1838
  exact h
theorem l_k1841 : a_mL.2.2.2.2.2.lookup 1841 = some (.iconst 1, 1, 0, 0, 0, 0) := by
  have h := l_at (e := (1841, .iconst 1, 1, 0, 0, 0, 0)) l_1841
  exact h
theorem l_k1842 : a_mL.2.2.2.2.2.lookup 1842 = some (.ireturn, 1, 0, 0, 0, 0) := by
  have h := l_at (e := (1842, .ireturn, 1, 0, 0, 0, 0)) l_1842
  exact h
end NJ
section LP
variable {xs : Nat → Int32} {L : Nat} {CB SB : Nat}
def l_fin (CB SB : Nat) (v : Option Value) (_ : aH) (C S : Nat) : Prop := v = some (.int 1) ∧ C ≤ CB ∧ S ≤ SB
theorem l_and63 (x : Int32) : 0 ≤ (x &&& 63).toInt ∧ (x &&& 63).toInt ≤ 63 := by
  have h : (x &&& 63).toBitVec.toNat ≤ 63 := by
    show (x.toBitVec &&& (63 : Int32).toBitVec).toNat ≤ 63
    rw [BitVec.toNat_and]
    exact Nat.and_le_right
  have e : (x &&& 63).toInt = (x &&& 63).toBitVec.toInt := rfl
  rw [e, BitVec.toInt_eq_toNat_cond, if_pos (by omega)]
  omega
theorem l_Lsub (hL : L ≤ 3072) : (Int32.ofNat L - (Int8.ofInt 6).toInt32).toInt = (L : Int) - 6 := by
  have e1 : (Int32.ofNat L).toInt = L := Int32.toInt_ofNat_of_lt (by omega)
  rw [Int32.toInt_sub, e1, show ((Int8.ofInt 6).toInt32).toInt = 6 by decide, Int.bmod_eq_of_le (by omega) (by omega)]
theorem l_out (a b c : Option Value) {iI : Int32} {H : aH} {C S : Nat} (hC : C ≤ CB) (hS : S ≤ SB) : aOK s_P (some (L, xs)) 202 a_mL 1841 (l_ls iI a b c) [] H C S (l_fin CB SB) := by
  refine aOK_op l_k1841 (show _ = some (1842, l_ls iI a b c, [.int 1], H, 0, 0) from rfl) ?_
  exact aOK_ret l_k1842 rfl (show _ = some (some (.int 1)) from rfl) (fun n q => by cases q) ⟨rfl, hC, hS⟩
theorem l_loop (hL : L ≤ 3072) : ∀ (n i : Nat) (iI : Int32), iI.toInt = i → i ≤ L + 6 → L < i + 6 * (n + 1) → ∀ (a b c : Option Value) (H : aH) (C S : Nat), n_IP H → C + n ≤ CB → S + 6 * n ≤ SB → aOK s_P (some (L, xs)) 202 a_mL 23 (l_ls iI a b c) [] H C S (l_fin CB SB) := by
  intro n
  have top : ∀ (i : Nat) (iI : Int32) (a b c : Option Value) (H : aH) (C S : Nat), iI.toInt = i → (L < i + 6 → aOK s_P (some (L, xs)) 202 a_mL 1841 (l_ls iI a b c) [] H C S (l_fin CB SB)) → (i + 6 ≤ L → aOK s_P (some (L, xs)) 202 a_mL 33 (l_ls iI a b c) [] H C S (l_fin CB SB)) → aOK s_P (some (L, xs)) 202 a_mL 23 (l_ls iI a b c) [] H C S (l_fin CB SB) := by
    intro i iI a b c H C S hi h1 h2
    refine aOK_op rfl (show _ = some (25, l_ls iI a b c, [.int iI], H, 0, 0) from rfl) ?_
    refine aOK_op rfl (show _ = some (26, l_ls iI a b c, [.ref 0, .int iI], H, 0, 0) from rfl) ?_
    refine aOK_op rfl (show _ = some (27, l_ls iI a b c, [.int (Int32.ofNat L), .int iI], H, 0, 0) from rfl) ?_
    refine aOK_op rfl (show _ = some (29, l_ls iI a b c, [.int (Int8.ofInt 6).toInt32, .int (Int32.ofNat L), .int iI], H, 0, 0) from rfl) ?_
    refine aOK_op rfl (show _ = some (30, l_ls iI a b c, [.int (Int32.ofNat L - (Int8.ofInt 6).toInt32), .int iI], H, 0, 0) from rfl) ?_
    refine aOK_op rfl (show _ = some (if a_cnd .gt iI (Int32.ofNat L - (Int8.ofInt 6).toInt32) then 1841 else 33, l_ls iI a b c, [], H, 0, 0) from rfl) ?_
    cases q : a_cnd .gt iI (Int32.ofNat L - (Int8.ofInt 6).toInt32) with
    | true =>
      have g : (Int32.ofNat L - (Int8.ofInt 6).toInt32).toInt < iI.toInt := (y_ci .gt _ _).mp q
      rw [l_Lsub hL, hi] at g
      exact h1 (by omega)
    | false =>
      have g : ¬ ((Int32.ofNat L - (Int8.ofInt 6).toInt32).toInt < iI.toInt) := y_cif q
      rw [l_Lsub hL, hi] at g
      exact h2 (by omega)
  induction n with
  | zero =>
    intro i iI hi hb hn a b c H C S hI hC hS
    exact top i iI a b c H C S hi (fun _ => l_out a b c (by omega) (by omega)) (fun q => by omega)
  | succ n ih =>
    intro i iI hi hb hn a b c H C S hI hC hS
    refine top i iI a b c H C S hi (fun _ => l_out a b c (by omega) (by omega)) (fun h6 => ?_)
    have hend : ∀ (a b c : Option Value) (H : aH) (C' S' : Nat), n_IP H → C' ≤ C + 1 → S' ≤ S + 6 → aOK s_P (some (L, xs)) 202 a_mL 1835 (l_ls iI a b c) [] H C' S' (l_fin CB SB) := by
      intro a b c H C' S' hI' hC' hS'
      refine aOK_op l_k1835 (show _ = some (1838, l_ls (iI + Int32.ofInt 6) a b c, [], H, 0, 0) from rfl) ?_
      refine aOK_op l_k1838 (show _ = some (23, l_ls (iI + Int32.ofInt 6) a b c, [], H, 0, 0) from rfl) ?_
      exact ih (i + 6) _ (y_addS _ hi (show (Int32.ofInt 6).toInt = (6 : Nat) by decide) rfl (by omega)) (by omega) (by omega) a b c H C' S' hI' (by omega) (by omega)
    refine aOK_op rfl (show _ = some (34, l_ls iI a b c, [.ref 0], H, 0, 0) from rfl) ?_
    refine aOK_op rfl (show _ = some (36, l_ls iI a b c, [.int iI, .ref 0], H, 0, 0) from rfl) ?_
    refine aOK_op rfl (l_scr (n := i) hi (by omega)) ?_
    refine aOK_op rfl (show _ = some (39, l_ls iI a b c, [.int (Int8.ofInt 63).toInt32, .int (xs i)], H, 0, 0) from rfl) ?_
    refine aOK_op rfl (show _ = some (40, l_ls iI a b c, [.int (xs i &&& (Int8.ofInt 63).toInt32)], H, 0, 0) from rfl) ?_
    have h63 : 0 ≤ (xs i &&& (Int8.ofInt 63).toInt32).toInt := by
      have : (Int8.ofInt 63).toInt32 = 63 := by decide
      rw [this]
      exact (l_and63 (xs i)).1
    generalize (xs i &&& (Int8.ofInt 63).toInt32) = x at h63
    by_cases q : x.toInt < 0 ∨ 44 < x.toInt
    · exact y_tsw_d (t := 1835) rfl q (by decide) (hend a b c H C S hI (by omega) (by omega))
    · have hx : ∃ v : Nat, x.toInt = v ∧ v < 45 := ⟨x.toInt.toNat, by omega, by omega⟩
      obtain ⟨v, hv, v45⟩ := hx
      have ho : ∃ o, l_offs[v]? = some o := ⟨_, List.getElem?_eq_getElem (show v < l_offs.length from v45)⟩
      obtain ⟨o, ho⟩ := ho
      have hc := List.all_eq_true.mp l_chk o (List.mem_of_getElem? ho)
      rw [Bool.and_eq_true, decide_eq_true_eq] at hc
      refine y_tsw_i (t := (40 + o).toNat) (o := o) rfl q ?_ ?_ ?_
      · rw [hv]
        show l_offs.toArray[((v : Int) - 0).toNat]? = some o
        rw [show ((v : Int) - 0).toNat = v by omega, List.getElem?_toArray]
        exact ho
      · show (if 0 ≤ ((40 : Nat) : Int) + o then some (((40 : Nat) : Int) + o).toNat else none) = _
        rw [if_pos (by omega)]
        rfl
      · exact n_run_ok (CB := C + 1) (SB := S + 6) (Md := n_MdP) (by omega) hL hi (fun H q => q.1.1.1) (fun _ _ _ H q => n_MdP_r q) n_tb_T (n_S_and n_S169 (g_S169 g_Ts g_Ti rfl)) (n_S_and n_S171 (g_S171 g_Ts g_Ti rfl)) hend 400 1 [] none _ [] hc.2 (l_suf_to l_sufL) (fun j z q => (by cases q)) _ (fun e r hr => l_to_hd hr) 0 [] trivial a b c H C S hI (by omega) (by omega)
end LP
end PT33j
