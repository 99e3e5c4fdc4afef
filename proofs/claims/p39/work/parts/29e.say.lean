/-! ===== v3: the reference's readsSaying ===== -/
theorem y_l32 (x : Int32) : -2147483648 ≤ x.toInt ∧ x.toInt ≤ 2147483647 := ⟨x.le_toInt, by have := x.toInt_lt; omega⟩
def y_rw (i : Nat) (kd kd' : List Int32) (nu nu' : List Int64) (be be' fi fi' : List Int32) : Prop := (∀ j, j / 2 ≠ i → y_N kd' j = y_N kd j) ∧ (∀ j, j / 4 ≠ i → y_Nl nu' j = y_Nl nu j) ∧ (∀ j, j / 4 ≠ i → y_N be' j = y_N be j) ∧ ∀ j, j / 4 ≠ i → y_N fi' j = y_N fi j
theorem y_rw_rt {i sd : Nat} {kd kd' be be' fi fi' : List Int32} {nu nu' : List Int64} (hs : sd < 2) (a : y_rt (2 * i + sd) kd kd' nu nu' be be' fi fi') : y_rw i kd kd' nu nu' be be' fi fi' := ⟨fun j hj => a.1 j (by omega), fun j hj => a.2.1 j (by omega), fun j hj => a.2.2.1 j (by omega), fun j hj => a.2.2.2 j (by omega)⟩
theorem y_rw_tr {i : Nat} {kd kd' kd'' be be' be'' fi fi' fi'' : List Int32} {nu nu' nu'' : List Int64} (a : y_rw i kd kd' nu nu' be be' fi fi') (b : y_rw i kd' kd'' nu' nu'' be' be'' fi' fi'') : y_rw i kd kd'' nu nu'' be be'' fi fi'' := ⟨fun j hj => (b.1 j hj).trans (a.1 j hj), fun j hj => (b.2.1 j hj).trans (a.2.1 j hj), fun j hj => (b.2.2.1 j hj).trans (a.2.2.1 j hj), fun j hj => (b.2.2.2 j hj).trans (a.2.2.2 j hj)⟩
theorem y_tm_rw {T : Nat → Int} {t k i : Nat} {kd kd' be be' fi fi' : List Int32} {nu nu' : List Int64} (h : y_tm T t k kd nu be fi) (r : y_rw i kd kd' nu nu' be be' fi fi') (hne : k / 2 ≠ i) : y_tm T t k kd' nu' be' fi' := by
  obtain ⟨r1, r2, r3, r4⟩ := r
  unfold y_tm
  rw [r1 k hne, r2 (2 * k) (by omega), r2 (2 * k + 1) (by omega), r3 (2 * k) (by omega), r3 (2 * k + 1) (by omega), r4 (2 * k) (by omega), r4 (2 * k + 1) (by omega)]
  exact h
section WG
variable {X : aX} {C S d : Nat} {K0 : Option Value → aH → Nat → Nat → Prop} {h : aH} {tp : List Int32} {t p : Nat} {o : Int} {i : Nat} {kd : List Int32} {nu : List Int64} {be fi ac : List Int32}
theorem y_rs_ac {H : aH} (s : y_rs h tp t p o i kd nu be fi) (e : y_fr h H [] [165]) : y_rs H tp t p o i kd nu be fi := by
  obtain ⟨s1, ⟨iI, s2, s3⟩, s4, s5, s6, s7, s8⟩ := s
  exact ⟨y_ps_fr s1 e rfl rfl, ⟨iI, (y_fe e rfl).trans s2, s3⟩, s4, (y_ae e rfl).trans s5, (y_ae e rfl).trans s6, (y_ae e rfl).trans s7, (y_ae e rfl).trans s8⟩
/-- on the way through a saying -/
def y_sg (h G : aH) (tp : List Int32) (t q : Nat) (o : Int) (i : Nat) (kd : List Int32) (nu : List Int64) (be fi ac kd' : List Int32) (nu' : List Int64) (be' fi' ac' : List Int32) : Prop := y_fr h G [19613, 19615] [165, 166, 167, 168, 169] ∧ y_rs G tp t q o i kd' nu' be' fi' ∧ y_rw i kd kd' nu nu' be be' fi fi' ∧ w_a G 165 = some (0, .inl ac') ∧ ac'.length = 13 ∧ ∀ j, j ≠ i → y_N ac' j = y_N ac j
theorem y_sg_fr {G H : aH} {q : Nat} {kd' be' fi' ac' : List Int32} {nu' : List Int64} (s : y_sg h G tp t q o i kd nu be fi ac kd' nu' be' fi' ac') (f : y_fr G H [] []) : y_sg h H tp t q o i kd nu be fi ac kd' nu' be' fi' ac' := ⟨y_sq s.1 f rfl rfl, y_rs_fr s.2.1 f, s.2.2.1, (y_ae f rfl).trans s.2.2.2.1, s.2.2.2.2⟩
theorem y_sg_ps {G H : aH} {q q' : Nat} {o' : Int} {kd' be' fi' ac' : List Int32} {nu' : List Int64} (s : y_sg h G tp t q o i kd nu be fi ac kd' nu' be' fi' ac') (f : y_fr G H [19613, 19615] []) (ps : y_ps H tp t q' o') : y_sg h H tp t q' o' i kd nu be fi ac kd' nu' be' fi' ac' := ⟨y_sq s.1 f rfl rfl, y_rs_ps s.2.1 f ps, s.2.2.1, (y_ae f rfl).trans s.2.2.2.1, s.2.2.2.2⟩
theorem y_sg_nt {G H : aH} {q q' : Nat} {o' : Int} {kd' be' fi' ac' be2 fi2 : List Int32} {nu' : List Int64} {sd : Nat} (hs : sd < 2) (s : y_sg h G tp t q o i kd nu be fi ac kd' nu' be' fi' ac') (f : y_fr G H [19613, 19615] [168, 169]) (rs : y_rs H tp t q' o' i kd' nu' be2 fi2) (rt : y_rt (2 * i + sd) kd' kd' nu' nu' be' be2 fi' fi2) : y_sg h H tp t q' o' i kd nu be fi ac kd' nu' be2 fi2 ac' := ⟨y_sq s.1 f rfl rfl, rs, y_rw_tr s.2.2.1 (y_rw_rt hs rt), (y_ae f rfl).trans s.2.2.2.1, s.2.2.2.2⟩
theorem y_sg_tm {G H : aH} {q q' : Nat} {o' : Int} {kd' be' fi' ac' kd2 be2 fi2 : List Int32} {nu' nu2 : List Int64} {sd : Nat} (hs : sd < 2) (s : y_sg h G tp t q o i kd nu be fi ac kd' nu' be' fi' ac') (f : y_fr G H [19613, 19615] [166, 167, 168, 169]) (rs : y_rs H tp t q' o' i kd2 nu2 be2 fi2) (rt : y_rt (2 * i + sd) kd' kd2 nu' nu2 be' be2 fi' fi2) : y_sg h H tp t q' o' i kd nu be fi ac kd2 nu2 be2 fi2 ac' := ⟨y_sq s.1 f rfl rfl, rs, y_rw_tr s.2.2.1 (y_rw_rt hs rt), (y_ae f rfl).trans s.2.2.2.1, s.2.2.2.2⟩
theorem y_readsSaying (s : y_rs h tp t p o i kd nu be fi) (hac : w_a h 165 = some (0, .inl ac))
    (yes : ∀ (H : aH) (q : Nat) (kd' : List Int32) (nu' : List Int64) (be' fi' ac' : List Int32), y_sg h H tp t q o i kd nu be fi ac kd' nu' be' fi' ac' → y_tm (y_N tp) t (2 * i) kd' nu' be' fi' → y_tm (y_N tp) t (2 * i + 1) kd' nu' be' fi' → (y_N ac' i = 126 → y_N kd' (2 * i) ≠ 0 ∧ y_N kd' (2 * i + 1) ≠ 0) → K0 (some (.int (Int32.ofInt 1))) H C S)
    (no : ∀ (H : aH) (q : Nat) (o' : Int) (kd' : List Int32) (nu' : List Int64) (be' fi' ac' : List Int32), y_sg h H tp t q o' i kd nu be fi ac kd' nu' be' fi' ac' → K0 (some (.int (Int32.ofInt 0))) H C S) :
    aOK s_P X (d + 168) a_m222 0 [some (.ref 155)] [] h C S K0 := by
  obtain ⟨hr, pt, t40, o0, o5, i11, lk, ln, lb, lf⟩ := y_rs_hr s
  obtain ⟨s1, ⟨iI, s2, s3⟩, s4, s5, s6, s7, s8⟩ := id s
  have ci := y_cl1 s3
  have h2i : (Int32.ofInt 2 * iI).toInt = ((2 * i : Nat) : Int) := y_mulS (m := 2) _ (by decide) s3 rfl (by omega)
  have h2i1 : (Int32.ofInt 2 * iI + Int32.ofInt 1).toInt = ((2 * i + 1 : Nat) : Int) := y_addS _ h2i (n := 1) (by decide) rfl (by omega)
  have c2 := y_cl1 h2i
  have c21 := y_cl1 h2i1
  have b0 : 0 ≤ iI.toInt ∧ iI.toInt < ((13 : Nat) : Int) := by omega
  have b2 : 0 ≤ (Int32.ofInt 2 * iI).toInt ∧ (Int32.ofInt 2 * iI).toInt < ((26 : Nat) : Int) := by omega
  have b21 : 0 ≤ (Int32.ofInt 2 * iI + Int32.ofInt 1).toInt ∧ (Int32.ofInt 2 * iI + Int32.ofInt 1).toInt < ((26 : Nat) : Int) := by omega
  -- ends
  have Y : ∀ {G : aH} {pc q : Nat} {kd' : List Int32} {nu' : List Int64} {be' fi' ac' : List Int32}, (pc = 99 ∨ pc = 164) → y_sg h G tp t q o i kd nu be fi ac kd' nu' be' fi' ac' → y_tm (y_N tp) t (2 * i) kd' nu' be' fi' → y_tm (y_N tp) t (2 * i + 1) kd' nu' be' fi' → (y_N ac' i = 126 → y_N kd' (2 * i) ≠ 0 ∧ y_N kd' (2 * i + 1) ≠ 0) → aOK s_P X (d + 168) a_m222 pc [some (.ref 155)] [.int (Int32.ofInt 1)] G C S K0 := by
    intro G pc q kd' nu' be' fi' ac' hpc sg t0 t1 ha
    rcases hpc with rfl | rfl
    · refine w_go z_hl [] [] 40 sg.1.1 ?_
      refine ⟨by decide, fun H hH => ?_⟩
      exact yes H q _ _ _ _ _ (y_sg_fr sg (y_st (y_rf sg.1.1) hH (by repeat (first | exact w_nil | refine w_cons (Or.inl (y_m rfl)) ?_ | refine w_cons (Or.inr (by assumption)) ?_)) (by repeat (first | exact w_nil | refine w_cons (Or.inl (y_m rfl)) ?_ | refine w_cons (Or.inr (by assumption)) ?_)))) t0 t1 ha
    · refine w_go z_hl [] [] 40 sg.1.1 ?_
      refine ⟨by decide, fun H hH => ?_⟩
      exact yes H q _ _ _ _ _ (y_sg_fr sg (y_st (y_rf sg.1.1) hH (by repeat (first | exact w_nil | refine w_cons (Or.inl (y_m rfl)) ?_ | refine w_cons (Or.inr (by assumption)) ?_)) (by repeat (first | exact w_nil | refine w_cons (Or.inl (y_m rfl)) ?_ | refine w_cons (Or.inr (by assumption)) ?_)))) t0 t1 ha
  have N : ∀ {G : aH} {pc q : Nat} {o' : Int} {kd' : List Int32} {nu' : List Int64} {be' fi' ac' : List Int32}, (pc = 99 ∨ pc = 164) → y_sg h G tp t q o' i kd nu be fi ac kd' nu' be' fi' ac' → aOK s_P X (d + 168) a_m222 pc [some (.ref 155)] [.int (Int32.ofInt 0)] G C S K0 := by
    intro G pc q o' kd' nu' be' fi' ac' hpc sg
    rcases hpc with rfl | rfl
    · refine w_go z_hl [] [] 40 sg.1.1 ?_
      refine ⟨by decide, fun H hH => ?_⟩
      exact no H q o' _ _ _ _ _ (y_sg_fr sg (y_st (y_rf sg.1.1) hH (by repeat (first | exact w_nil | refine w_cons (Or.inl (y_m rfl)) ?_ | refine w_cons (Or.inr (by assumption)) ?_)) (by repeat (first | exact w_nil | refine w_cons (Or.inl (y_m rfl)) ?_ | refine w_cons (Or.inr (by assumption)) ?_))))
    · refine w_go z_hl [] [] 40 sg.1.1 ?_
      refine ⟨by decide, fun H hH => ?_⟩
      exact no H q o' _ _ _ _ _ (y_sg_fr sg (y_st (y_rf sg.1.1) hH (by repeat (first | exact w_nil | refine w_cons (Or.inl (y_m rfl)) ?_ | refine w_cons (Or.inr (by assumption)) ?_)) (by repeat (first | exact w_nil | refine w_cons (Or.inl (y_m rfl)) ?_ | refine w_cons (Or.inr (by assumption)) ?_))))
  have iAt : ∀ {G : aH} {q : Nat} {o' : Int} {kd' : List Int32} {nu' : List Int64} {be' fi' ac' : List Int32}, y_sg h G tp t q o' i kd nu be fi ac kd' nu' be' fi' ac' → w_f G 19610 = some (.int iI) := by
    intro G q o' kd' nu' be' fi' ac' sg
    exact (y_fe sg.1 rfl).trans s2
  -- a sign of comparing
  have T131 : ∀ {G : aH} {q : Nat} {kd' : List Int32} {nu' : List Int64} {be' fi' ac' : List Int32}, y_sg h G tp t q o i kd nu be fi ac kd' nu' be' fi' ac' → y_tm (y_N tp) t (2 * i) kd' nu' be' fi' → q < t → y_N tp q ≠ 126 → aOK s_P X (d + 168) a_m222 131 [some (.ref 155)] [] G C S K0 := by
    intro G q kd' nu' be' fi' ac' sg t0 hq h126
    obtain ⟨sg1, sg2, sg3, sg4, sg5, sg6⟩ := id sg
    obtain ⟨toI, atI, opI, nd, hr', a1, a2, a3, a4, a5, a6, a7, a8, pt', -, o0', o5'⟩ := id sg2.1
    have ac' := y_cl1 a5
    have inc : (atI + Int32.ofInt 1).toInt = ((q + 1 : Nat) : Int) := by rw [y_inc (by omega), a5]; rfl
    refine w_go z_hl [] [223] 60 hr' ?_
    intro x hx _ _
    obtain rfl := y_fi (iAt sg) hx
    intro y hy _ _
    obtain rfl := y_fi a4 hy
    refine ⟨⟨by omega, by omega⟩, fun l hl len bb => ?_⟩
    obtain rfl := y_ai a1 hl
    refine ⟨b0, y_l32 _, fun l2 hl2 len2 bb2 => ?_⟩
    obtain rfl := y_ai sg4 hl2
    refine ⟨rfl, y_zini (by show 0 ≤ (atI + Int32.ofInt 1).toInt; omega) (by show (atI + Int32.ofInt 1).toInt ≤ 40; omega), ?_⟩
    intro H hH
    have f : y_fr G H [19613] [165] := y_st (y_mo (y_rf hr') rfl rfl) hH (by repeat (first | exact w_nil | refine w_cons (Or.inl (y_m rfl)) ?_ | refine w_cons (Or.inr (by assumption)) ?_)) (by repeat (first | exact w_nil | refine w_cons (Or.inl (y_m rfl)) ?_ | refine w_cons (Or.inr (by assumption)) ?_))
    have A := hH.2.2.1 165 _ rfl
    rw [ci] at A
    have e2 : y_fr h H [19613, 19615] [165, 166, 167, 168, 169] := y_sq sg1 f rfl rfl
    have ps2 : y_ps H tp t (q + 1) o := ⟨toI, _, opI, nd, f.1, (y_ae f rfl).trans a1, (y_fe f rfl).trans a2, a3, hH.2.1 19613 _ rfl, inc, (y_fe f rfl).trans a6, a7, (y_fe f rfl).trans a8, by omega, t40, o0, o5⟩
    obtain ⟨r1, ⟨jI, r2, r3⟩, r4, r5, r6, r7, r8⟩ := sg2
    have rs2 : y_rs H tp t (q + 1) o i kd' nu' be' fi' := ⟨ps2, ⟨jI, (y_fe f rfl).trans r2, r3⟩, r4, (y_ae f rfl).trans r5, (y_ae f rfl).trans r6, (y_ae f rfl).trans r7, (y_ae f rfl).trans r8⟩
    have sg' : y_sg h H tp t (q + 1) o i kd nu be fi ac kd' nu' be' fi' _ := ⟨e2, rs2, sg3, A, by rw [List.length_set]; exact sg5, fun j hj => by rw [y_Nset (by omega), if_neg hj]; exact sg6 j hj⟩
    refine y_readsTerm (sd := 1) rs2 (by decide) (by decide) (fun H2 q2 kd2 nu2 be2 fi2 f2 rs3 rt3 tm3 => ⟨fun n e => (by cases e), ?_⟩) (fun H2 q2 o2 kd2 nu2 be2 fi2 f2 rs3 rt3 => ⟨fun n e => (by cases e), ?_⟩)
    · refine Y (Or.inr rfl) (y_sg_tm (sd := 1) (by decide) sg' f2 rs3 rt3) (y_tm_rt t0 rt3 (by omega)) tm3 (fun q3 => ?_)
      rw [y_Nset (by omega), if_pos rfl, ac'] at q3
      exact absurd q3 h126
    · exact N (Or.inr rfl) (y_sg_tm (sd := 1) (by decide) sg' f2 rs3 rt3)
  have T126 : ∀ {G : aH} {q : Nat} {kd' : List Int32} {nu' : List Int64} {be' fi' ac' : List Int32} {b : Bool}, y_sg h G tp t q o i kd nu be fi ac kd' nu' be' fi' ac' → y_tm (y_N tp) t (2 * i) kd' nu' be' fi' → (b = true → q < t ∧ y_N tp q ≠ 126) → aOK s_P X (d + 168) a_m222 126 [some (.ref 155)] [.int (y_01 b)] G C S K0 := by
    intro G q kd' nu' be' fi' ac' b sg t0 hb
    refine w_go z_hl [131] [] 40 sg.1.1 ?_
    refine ⟨fun q1 => fun H hH => ?_, fun q1 => ⟨by decide, fun H hH => ?_⟩⟩
    · cases b with
      | true => exact T131 (y_sg_fr sg (y_st (y_rf sg.1.1) hH (by repeat (first | exact w_nil | refine w_cons (Or.inl (y_m rfl)) ?_ | refine w_cons (Or.inr (by assumption)) ?_)) (by repeat (first | exact w_nil | refine w_cons (Or.inl (y_m rfl)) ?_ | refine w_cons (Or.inr (by assumption)) ?_)))) t0 (hb rfl).1 (hb rfl).2
      | false => exact absurd q1 (by decide)
    · exact no H q o _ _ _ _ _ (y_sg_fr sg (y_st (y_rf sg.1.1) hH (by repeat (first | exact w_nil | refine w_cons (Or.inl (y_m rfl)) ?_ | refine w_cons (Or.inr (by assumption)) ?_)) (by repeat (first | exact w_nil | refine w_cons (Or.inl (y_m rfl)) ?_ | refine w_cons (Or.inr (by assumption)) ?_))))
  have T117 : ∀ {G : aH} {q : Nat} {kd' : List Int32} {nu' : List Int64} {be' fi' ac' : List Int32} {b : Bool}, y_sg h G tp t q o i kd nu be fi ac kd' nu' be' fi' ac' → y_tm (y_N tp) t (2 * i) kd' nu' be' fi' → (b = true → q < t ∧ y_N tp q ≠ 126) → aOK s_P X (d + 168) a_m222 117 [some (.ref 155)] [.int (y_01 b)] G C S K0 := by
    intro G q kd' nu' be' fi' ac' b sg t0 hb
    refine w_go z_hl [131] [227] 40 sg.1.1 ?_
    refine ⟨fun q1 => fun H hH => ?_, fun q1 => fun H hH => ?_⟩
    · cases b with
      | true => exact T131 (y_sg_fr sg (y_st (y_rf sg.1.1) hH (by repeat (first | exact w_nil | refine w_cons (Or.inl (y_m rfl)) ?_ | refine w_cons (Or.inr (by assumption)) ?_)) (by repeat (first | exact w_nil | refine w_cons (Or.inl (y_m rfl)) ?_ | refine w_cons (Or.inr (by assumption)) ?_)))) t0 (hb rfl).1 (hb rfl).2
      | false => exact absurd q1 (by decide)
    · have sg' := y_sg_fr sg (y_st (y_rf sg.1.1) hH (by repeat (first | exact w_nil | refine w_cons (Or.inl (y_m rfl)) ?_ | refine w_cons (Or.inr (by assumption)) ?_)) (by repeat (first | exact w_nil | refine w_cons (Or.inl (y_m rfl)) ?_ | refine w_cons (Or.inr (by assumption)) ?_)))
      refine y_isAt sg'.2.1.1 (fun H2 e2 hp hc => ⟨fun n e => (by cases e), ?_⟩) (fun H2 e2 hn => ⟨fun n e => (by cases e), ?_⟩)
      · refine T126 (b := true) (y_sg_fr sg' e2) t0 (fun _ => ⟨hp, ?_⟩)
        rw [hc]
        decide
      · exact T126 (b := false) (y_sg_fr sg' e2) t0 (fun q => by cases q)
  have T108 : ∀ {G : aH} {q : Nat} {kd' : List Int32} {nu' : List Int64} {be' fi' ac' : List Int32} {b : Bool}, y_sg h G tp t q o i kd nu be fi ac kd' nu' be' fi' ac' → y_tm (y_N tp) t (2 * i) kd' nu' be' fi' → (b = true → q < t ∧ y_N tp q ≠ 126) → aOK s_P X (d + 168) a_m222 108 [some (.ref 155)] [.int (y_01 b)] G C S K0 := by
    intro G q kd' nu' be' fi' ac' b sg t0 hb
    refine w_go z_hl [131] [227] 40 sg.1.1 ?_
    refine ⟨fun q1 => fun H hH => ?_, fun q1 => fun H hH => ?_⟩
    · cases b with
      | true => exact T131 (y_sg_fr sg (y_st (y_rf sg.1.1) hH (by repeat (first | exact w_nil | refine w_cons (Or.inl (y_m rfl)) ?_ | refine w_cons (Or.inr (by assumption)) ?_)) (by repeat (first | exact w_nil | refine w_cons (Or.inl (y_m rfl)) ?_ | refine w_cons (Or.inr (by assumption)) ?_)))) t0 (hb rfl).1 (hb rfl).2
      | false => exact absurd q1 (by decide)
    · have sg' := y_sg_fr sg (y_st (y_rf sg.1.1) hH (by repeat (first | exact w_nil | refine w_cons (Or.inl (y_m rfl)) ?_ | refine w_cons (Or.inr (by assumption)) ?_)) (by repeat (first | exact w_nil | refine w_cons (Or.inl (y_m rfl)) ?_ | refine w_cons (Or.inr (by assumption)) ?_)))
      refine y_isAt sg'.2.1.1 (fun H2 e2 hp hc => ⟨fun n e => (by cases e), ?_⟩) (fun H2 e2 hn => ⟨fun n e => (by cases e), ?_⟩)
      · refine T117 (b := true) (y_sg_fr sg' e2) t0 (fun _ => ⟨hp, ?_⟩)
        rw [hc]
        decide
      · exact T117 (b := false) (y_sg_fr sg' e2) t0 (fun q => by cases q)
  have T102 : ∀ {G : aH} {q : Nat} {kd' : List Int32} {nu' : List Int64} {be' fi' ac' : List Int32}, y_sg h G tp t q o i kd nu be fi ac kd' nu' be' fi' ac' → y_tm (y_N tp) t (2 * i) kd' nu' be' fi' → aOK s_P X (d + 168) a_m222 102 [some (.ref 155)] [] G C S K0 := by
    intro G q kd' nu' be' fi' ac' sg t0
    refine w_go z_hl [131] [227] 40 sg.1.1 ?_
    intro H hH
    have sg' := y_sg_fr sg (y_st (y_rf sg.1.1) hH (by repeat (first | exact w_nil | refine w_cons (Or.inl (y_m rfl)) ?_ | refine w_cons (Or.inr (by assumption)) ?_)) (by repeat (first | exact w_nil | refine w_cons (Or.inl (y_m rfl)) ?_ | refine w_cons (Or.inr (by assumption)) ?_)))
    refine y_isAt sg'.2.1.1 (fun H2 e2 hp hc => ⟨fun n e => (by cases e), ?_⟩) (fun H2 e2 hn => ⟨fun n e => (by cases e), ?_⟩)
    · refine T108 (b := true) (y_sg_fr sg' e2) t0 (fun _ => ⟨hp, ?_⟩)
      rw [hc]
      decide
    · exact T108 (b := false) (y_sg_fr sg' e2) t0 (fun q => by cases q)
  -- together
  have T76y : ∀ {G : aH} {q : Nat} {kd' : List Int32} {nu' : List Int64} {be' fi' ac' : List Int32}, y_sg h G tp t q o i kd nu be fi ac kd' nu' be' fi' ac' → y_tm (y_N tp) t (2 * i) kd' nu' be' fi' → y_N kd' (2 * i) ≠ 0 → y_ok1 (y_N tp) t (y_N be' (2 * (2 * i + 1))) (y_N fi' (2 * (2 * i + 1))) → aOK s_P X (d + 168) a_m222 76 [some (.ref 155)] [.int (Int32.ofInt 1)] G C S K0 := by
    intro G q kd' nu' be' fi' ac' sg t0 hk0 ok
    obtain ⟨sg1, sg2, sg3, sg4, sg5, sg6⟩ := id sg
    obtain ⟨-, -, -, -, -, -, lk', ln', lb', lf'⟩ := y_rs_hr sg2
    refine w_go z_hl [] [228] 40 sg.1.1 ?_
    refine ⟨fun q => absurd q (by decide), fun _ => ?_⟩
    intro x hx _ _
    obtain rfl := y_fi (iAt sg) hx
    refine ⟨b21, by decide, fun l hl len bb => fun H hH => ?_⟩
    obtain rfl := y_ai sg2.2.2.2.1 hl
    have f : y_fr G H [] [166] := y_st (y_mo (y_rf sg.1.1) rfl rfl) hH (by repeat (first | exact w_nil | refine w_cons (Or.inl (y_m rfl)) ?_ | refine w_cons (Or.inr (by assumption)) ?_)) (by repeat (first | exact w_nil | refine w_cons (Or.inl (y_m rfl)) ?_ | refine w_cons (Or.inr (by assumption)) ?_))
    have A := hH.2.2.1 166 _ rfl
    rw [c21] at A
    have rs2 := y_rs_kd sg2 f A
    have rt2 : y_rt (2 * i + 1) kd' (kd'.set (2 * i + 1) (Int32.ofInt 2)) nu' nu' be' be' fi' fi' := y_rt_kd (by omega)
    have sg' := y_sg_tm (sd := 1) (by decide) sg (y_mo f rfl rfl) rs2 rt2
    refine y_notes (sd := 1) (g := 1) rs2 (by decide) (by decide) (by decide) (by decide) (fun H2 q2 be2 fi2 f2 rs3 rt3 same ok2 => ⟨fun n e => (by cases e), ?_⟩) (fun H2 q2 o2 be2 fi2 f2 rs3 rt3 => ⟨fun n e => (by cases e), ?_⟩)
    · have kk : y_N (kd'.set (2 * i + 1) (Int32.ofInt 2)) (2 * i + 1) = 2 := by
        rw [y_Nset (by omega), if_pos rfl]
        decide
      refine Y (Or.inl rfl) (y_sg_nt (sd := 1) (by decide) sg' f2 rs3 rt3) (y_tm_rt (y_tm_rt t0 rt2 (by omega)) rt3 (by omega)) ⟨fun q4 => ?_, fun _ => ?_, fun _ => ?_⟩ (fun _ => ⟨?_, ?_⟩)
      · rw [kk] at q4
        omega
      · rw [(same (2 * (2 * i + 1)) (by omega)).1, (same (2 * (2 * i + 1)) (by omega)).2]
        exact ok
      · rw [show 2 * (2 * i + 1) + 1 = 4 * i + 2 * 1 + 1 by omega]
        exact ok2
      · rw [y_Nset (by omega), if_neg (by omega)]
        exact hk0
      · rw [kk]
        decide
    · exact N (Or.inl rfl) (y_sg_nt (sd := 1) (by decide) sg' f2 rs3 rt3)
  have T76n : ∀ {G : aH} {q : Nat} {kd' : List Int32} {nu' : List Int64} {be' fi' ac' : List Int32}, y_sg h G tp t q o i kd nu be fi ac kd' nu' be' fi' ac' → y_tm (y_N tp) t (2 * i) kd' nu' be' fi' → y_N kd' (2 * i) ≠ 0 → y_N kd' (2 * i + 1) = 1 → y_ok1 (y_N tp) t (y_N be' (2 * (2 * i + 1))) (y_N fi' (2 * (2 * i + 1))) → aOK s_P X (d + 168) a_m222 76 [some (.ref 155)] [.int (Int32.ofInt 0)] G C S K0 := by
    intro G q kd' nu' be' fi' ac' sg t0 hk0 hk1 ok
    refine w_go z_hl [] [] 40 sg.1.1 ?_
    refine ⟨fun _ => ⟨by decide, fun H hH => ?_⟩, fun q => absurd q (by decide)⟩
    exact yes H q _ _ _ _ _ (y_sg_fr sg (y_st (y_rf sg.1.1) hH (by repeat (first | exact w_nil | refine w_cons (Or.inl (y_m rfl)) ?_ | refine w_cons (Or.inr (by assumption)) ?_)) (by repeat (first | exact w_nil | refine w_cons (Or.inl (y_m rfl)) ?_ | refine w_cons (Or.inr (by assumption)) ?_)))) t0 ⟨fun q => by omega, fun _ => ok, fun q => by omega⟩ (fun _ => ⟨hk0, by omega⟩)
  have T65y : ∀ {G : aH} {q : Nat} {kd' : List Int32} {nu' : List Int64} {be' fi' ac' : List Int32}, y_sg h G tp t q o i kd nu be fi ac kd' nu' be' fi' ac' → y_tm (y_N tp) t (2 * i) kd' nu' be' fi' → y_N kd' (2 * i) ≠ 0 → y_N kd' (2 * i + 1) = 1 → y_ok1 (y_N tp) t (y_N be' (2 * (2 * i + 1))) (y_N fi' (2 * (2 * i + 1))) → aOK s_P X (d + 168) a_m222 65 [some (.ref 155)] [.int (Int32.ofInt 1)] G C S K0 := by
    intro G q kd' nu' be' fi' ac' sg t0 hk0 hk1 ok
    refine w_go z_hl [] [226] 40 sg.1.1 ?_
    refine ⟨fun _ => fun H hH => ?_, fun q => absurd q (by decide)⟩
    have sg' := y_sg_fr sg (y_st (y_rf sg.1.1) hH (by repeat (first | exact w_nil | refine w_cons (Or.inl (y_m rfl)) ?_ | refine w_cons (Or.inr (by assumption)) ?_)) (by repeat (first | exact w_nil | refine w_cons (Or.inl (y_m rfl)) ?_ | refine w_cons (Or.inr (by assumption)) ?_)))
    refine y_comes sg'.2.1.1 (fun H2 f2 ps2 _ _ => ⟨fun n e => (by cases e), ?_⟩) (fun H2 f2 ps2 _ => ⟨fun n e => (by cases e), ?_⟩)
    · exact T76y (y_sg_ps sg' (y_mo f2 rfl rfl) ps2) t0 hk0 ok
    · exact T76n (y_sg_ps sg' (y_mo f2 rfl rfl) ps2) t0 hk0 hk1 ok
  have T65n : ∀ {G : aH} {q : Nat} {o' : Int} {kd' : List Int32} {nu' : List Int64} {be' fi' ac' : List Int32}, y_sg h G tp t q o' i kd nu be fi ac kd' nu' be' fi' ac' → aOK s_P X (d + 168) a_m222 65 [some (.ref 155)] [.int (Int32.ofInt 0)] G C S K0 := by
    intro G q o' kd' nu' be' fi' ac' sg
    refine w_go z_hl [] [] 40 sg.1.1 ?_
    refine ⟨fun q => absurd q (by decide), fun _ => ⟨by decide, fun H hH => ?_⟩⟩
    exact no H q o' _ _ _ _ _ (y_sg_fr sg (y_st (y_rf sg.1.1) hH (by repeat (first | exact w_nil | refine w_cons (Or.inl (y_m rfl)) ?_ | refine w_cons (Or.inr (by assumption)) ?_)) (by repeat (first | exact w_nil | refine w_cons (Or.inl (y_m rfl)) ?_ | refine w_cons (Or.inr (by assumption)) ?_))))
  have T31y : ∀ {G : aH} {q : Nat} {kd' : List Int32} {nu' : List Int64} {be' fi' ac' : List Int32}, y_sg h G tp t q o i kd nu be fi ac kd' nu' be' fi' ac' → y_tm (y_N tp) t (2 * i) kd' nu' be' fi' → y_N kd' (2 * i) ≠ 0 → aOK s_P X (d + 168) a_m222 31 [some (.ref 155)] [.int (Int32.ofInt 1)] G C S K0 := by
    intro G q kd' nu' be' fi' ac' sg t0 hk0
    obtain ⟨sg1, sg2, sg3, sg4, sg5, sg6⟩ := id sg
    obtain ⟨-, -, -, -, -, -, lk', ln', lb', lf'⟩ := y_rs_hr sg2
    refine w_go z_hl [] [228] 40 sg.1.1 ?_
    refine ⟨fun q => absurd q (by decide), fun _ => ?_⟩
    intro x hx _ _
    obtain rfl := y_fi (iAt sg) hx
    refine ⟨b0, by decide, fun l2 hl2 len2 bb2 => ?_⟩
    obtain rfl := y_ai sg4 hl2
    refine ⟨b21, by decide, fun l hl len bb => fun H hH => ?_⟩
    obtain rfl := y_ai sg2.2.2.2.1 hl
    have f : y_fr G H [] [165, 166] := y_st (y_mo (y_rf sg.1.1) rfl rfl) hH (by repeat (first | exact w_nil | refine w_cons (Or.inl (y_m rfl)) ?_ | refine w_cons (Or.inr (by assumption)) ?_)) (by repeat (first | exact w_nil | refine w_cons (Or.inl (y_m rfl)) ?_ | refine w_cons (Or.inr (by assumption)) ?_))
    have A := hH.2.2.1 166 _ rfl
    rw [c21] at A
    have B := hH.2.2.1 165 _ rfl
    rw [ci] at B
    obtain ⟨r1, ⟨jI, r2, r3⟩, r4, r5, r6, r7, r8⟩ := sg2
    have rs2 : y_rs H tp t q o i (kd'.set (2 * i + 1) (Int32.ofInt 1)) nu' be' fi' := ⟨y_ps_fr r1 f rfl rfl, ⟨jI, (y_fe f rfl).trans r2, r3⟩, r4, A, (y_ae f rfl).trans r6, (y_ae f rfl).trans r7, (y_ae f rfl).trans r8⟩
    have rt2 : y_rt (2 * i + 1) kd' (kd'.set (2 * i + 1) (Int32.ofInt 1)) nu' nu' be' be' fi' fi' := y_rt_kd (by omega)
    have sg' : y_sg h H tp t q o i kd nu be fi ac (kd'.set (2 * i + 1) (Int32.ofInt 1)) nu' be' fi' _ := ⟨y_sq sg1 f rfl rfl, rs2, y_rw_tr sg3 (y_rw_rt (sd := 1) (by decide) rt2), B, by rw [List.length_set]; exact sg5, fun j hj => by rw [y_Nset (by omega), if_neg hj]; exact sg6 j hj⟩
    refine y_notes (sd := 1) (g := 0) rs2 (by decide) (by decide) (by decide) (by decide) (fun H2 q2 be2 fi2 f2 rs3 rt3 same ok2 => ⟨fun n e => (by cases e), ?_⟩) (fun H2 q2 o2 be2 fi2 f2 rs3 rt3 => ⟨fun n e => (by cases e), ?_⟩)
    · refine T65y (y_sg_nt (sd := 1) (by decide) sg' f2 rs3 rt3) (y_tm_rt (y_tm_rt t0 rt2 (by omega)) rt3 (by omega)) ?_ ?_ ?_
      · rw [y_Nset (by omega), if_neg (by omega)]
        exact hk0
      · rw [y_Nset (by omega), if_pos rfl]
        decide
      · rw [show 2 * (2 * i + 1) = 4 * i + 2 * 1 + 0 by omega]
        exact ok2
    · exact T65n (y_sg_nt (sd := 1) (by decide) sg' f2 rs3 rt3)
  have T31n : ∀ {G : aH} {q : Nat} {kd' : List Int32} {nu' : List Int64} {be' fi' ac' : List Int32}, y_sg h G tp t q o i kd nu be fi ac kd' nu' be' fi' ac' → y_tm (y_N tp) t (2 * i) kd' nu' be' fi' → aOK s_P X (d + 168) a_m222 31 [some (.ref 155)] [.int (Int32.ofInt 0)] G C S K0 := by
    intro G q kd' nu' be' fi' ac' sg t0
    refine w_go z_hl [102] [] 40 sg.1.1 ?_
    refine ⟨fun _ => fun H hH => ?_, fun q => absurd q (by decide)⟩
    exact T102 (y_sg_fr sg (y_st (y_rf sg.1.1) hH (by repeat (first | exact w_nil | refine w_cons (Or.inl (y_m rfl)) ?_ | refine w_cons (Or.inr (by assumption)) ?_)) (by repeat (first | exact w_nil | refine w_cons (Or.inl (y_m rfl)) ?_ | refine w_cons (Or.inr (by assumption)) ?_)))) t0
  have T5y : ∀ {G : aH} {q : Nat} {kd' : List Int32} {nu' : List Int64} {be' fi' ac' : List Int32}, y_sg h G tp t q o i kd nu be fi ac kd' nu' be' fi' ac' → y_tm (y_N tp) t (2 * i) kd' nu' be' fi' → aOK s_P X (d + 168) a_m222 5 [some (.ref 155)] [.int (Int32.ofInt 1)] G C S K0 := by
    intro G q kd' nu' be' fi' ac' sg t0
    refine w_go z_hl [102] [226] 40 sg.1.1 ?_
    refine ⟨fun _ => ?_, fun q => absurd q (by decide)⟩
    intro x hx _ _
    obtain rfl := y_fi (iAt sg) hx
    refine ⟨b2, fun l hl len bb => ?_⟩
    obtain rfl := y_ai sg.2.1.2.2.2.1 hl
    refine ⟨fun _ => fun H hH => T102 (y_sg_fr sg (y_st (y_rf sg.1.1) hH (by repeat (first | exact w_nil | refine w_cons (Or.inl (y_m rfl)) ?_ | refine w_cons (Or.inr (by assumption)) ?_)) (by repeat (first | exact w_nil | refine w_cons (Or.inl (y_m rfl)) ?_ | refine w_cons (Or.inr (by assumption)) ?_)))) t0, fun q1 => fun H hH => ?_⟩
    have q2 : ¬ ((kd'.getD (Int32.ofInt 2 * iI).toNatClampNeg 0).toInt ≠ (Int32.ofInt 1).toInt) := y_cif q1
    rw [c2, show (Int32.ofInt 1).toInt = 1 by decide] at q2
    have hk1 : y_N kd' (2 * i) = 1 := Decidable.not_not.mp q2
    have sg' := y_sg_fr sg (y_st (y_rf sg.1.1) hH (by repeat (first | exact w_nil | refine w_cons (Or.inl (y_m rfl)) ?_ | refine w_cons (Or.inr (by assumption)) ?_)) (by repeat (first | exact w_nil | refine w_cons (Or.inl (y_m rfl)) ?_ | refine w_cons (Or.inr (by assumption)) ?_)))
    refine y_comes sg'.2.1.1 (fun H2 f2 ps2 _ _ => ⟨fun n e => (by cases e), ?_⟩) (fun H2 f2 ps2 _ => ⟨fun n e => (by cases e), ?_⟩)
    · exact T31y (y_sg_ps sg' (y_mo f2 rfl rfl) ps2) t0 (by omega)
    · exact T31n (y_sg_ps sg' (y_mo f2 rfl rfl) ps2) t0
  have T5n : ∀ {G : aH} {q : Nat} {o' : Int} {kd' : List Int32} {nu' : List Int64} {be' fi' ac' : List Int32}, y_sg h G tp t q o' i kd nu be fi ac kd' nu' be' fi' ac' → aOK s_P X (d + 168) a_m222 5 [some (.ref 155)] [.int (Int32.ofInt 0)] G C S K0 := by
    intro G q o' kd' nu' be' fi' ac' sg
    refine w_go z_hl [] [] 40 sg.1.1 ?_
    refine ⟨fun q => absurd q (by decide), fun _ => ⟨by decide, fun H hH => ?_⟩⟩
    exact no H q o' _ _ _ _ _ (y_sg_fr sg (y_st (y_rf sg.1.1) hH (by repeat (first | exact w_nil | refine w_cons (Or.inl (y_m rfl)) ?_ | refine w_cons (Or.inr (by assumption)) ?_)) (by repeat (first | exact w_nil | refine w_cons (Or.inl (y_m rfl)) ?_ | refine w_cons (Or.inr (by assumption)) ?_))))
  obtain ⟨la, z1, z2, -⟩ := w_arrI hr (o := 165) (t := 0) (n := 13) (lo := -2147483648) (hi := 2147483647) (by decide) rfl
  obtain rfl := y_ai hac (w_a_at z1)
  refine w_go z_hl [] [223] 40 hr ?_
  intro H hH
  have f : y_fr h H [] [] := y_st (y_rf hr) hH (by repeat (first | exact w_nil | refine w_cons (Or.inl (y_m rfl)) ?_ | refine w_cons (Or.inr (by assumption)) ?_)) (by repeat (first | exact w_nil | refine w_cons (Or.inl (y_m rfl)) ?_ | refine w_cons (Or.inr (by assumption)) ?_))
  have sg0 : y_sg h H tp t p o i kd nu be fi ac kd nu be fi ac := ⟨y_mo f rfl rfl, y_rs_fr s f, ⟨fun _ _ => rfl, fun _ _ => rfl, fun _ _ => rfl, fun _ _ => rfl⟩, (y_ae f rfl).trans hac, z2, fun _ _ => rfl⟩
  refine y_readsTerm (sd := 0) sg0.2.1 (by decide) (by decide) (fun H2 q2 kd2 nu2 be2 fi2 f2 rs3 rt3 tm3 => ⟨fun n e => (by cases e), ?_⟩) (fun H2 q2 o2 kd2 nu2 be2 fi2 f2 rs3 rt3 => ⟨fun n e => (by cases e), ?_⟩)
  · exact T5y (y_sg_tm (sd := 0) (by decide) sg0 f2 rs3 rt3) tm3
  · exact T5n (y_sg_tm (sd := 0) (by decide) sg0 f2 rs3 rt3)
end WG
