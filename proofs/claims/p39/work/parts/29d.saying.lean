/-! ===== v3: the reference's readsTerm, readsSaying ===== -/
section WG
variable {X : aX} {C S d : Nat} {K0 : Option Value → aH → Nat → Nat → Prop} {h : aH} {tp : List Int32} {t p : Nat} {o : Int} {i : Nat} {kd : List Int32} {nu : List Int64} {be fi : List Int32}
theorem y_rs_kd {H : aH} {kd' : List Int32} (s : y_rs h tp t p o i kd nu be fi) (e : y_fr h H [] [166]) (a : w_a H 166 = some (0, .inl kd')) : y_rs H tp t p o i kd' nu be fi := by
  obtain ⟨s1, ⟨iI, s2, s3⟩, s4, s5, s6, s7, s8⟩ := s
  exact ⟨y_ps_fr s1 e rfl rfl, ⟨iI, (y_fe e rfl).trans s2, s3⟩, s4, a, (y_ae e rfl).trans s6, (y_ae e rfl).trans s7, (y_ae e rfl).trans s8⟩
theorem y_rs_nu {H : aH} {nu' : List Int64} (s : y_rs h tp t p o i kd nu be fi) (e : y_fr h H [] [167]) (a : w_a H 167 = some (1, .inr (.inl nu'))) : y_rs H tp t p o i kd nu' be fi := by
  obtain ⟨s1, ⟨iI, s2, s3⟩, s4, s5, s6, s7, s8⟩ := s
  exact ⟨y_ps_fr s1 e rfl rfl, ⟨iI, (y_fe e rfl).trans s2, s3⟩, s4, (y_ae e rfl).trans s5, a, (y_ae e rfl).trans s7, (y_ae e rfl).trans s8⟩
theorem y_rs_hr (s : y_rs h tp t p o i kd nu be fi) : w_hr z_D h ∧ p ≤ t ∧ t ≤ 40 ∧ 0 ≤ o ∧ o ≤ 5 ∧ i ≤ 11 ∧ kd.length = 26 ∧ nu.length = 52 ∧ be.length = 52 ∧ fi.length = 52 := by
  obtain ⟨s1, s2, s4, s5, s6, s7, s8⟩ := s
  obtain ⟨hr, a, b, c, e⟩ := y_ps_hr s1
  obtain ⟨l1, z1, z2, -⟩ := w_arrI hr (o := 166) (t := 0) (n := 26) (lo := 0) (hi := 2) (by decide) rfl
  obtain ⟨l2, z3, z4, -⟩ := w_arrL hr (o := 167) (n := 52) (lo := -9223372036854775808) (hi := 9223372036854775807) rfl
  obtain ⟨l3, z5, z6, -⟩ := w_arrI hr (o := 168) (t := 0) (n := 52) (lo := 0) (hi := 40) (by decide) rfl
  obtain ⟨l4, z7, z8, -⟩ := w_arrI hr (o := 169) (t := 0) (n := 52) (lo := 0) (hi := 40) (by decide) rfl
  obtain rfl := y_ai s5 (w_a_at z1)
  obtain rfl := y_al s6 (w_a_at z3)
  obtain rfl := y_ai s7 (w_a_at z5)
  obtain rfl := y_ai s8 (w_a_at z7)
  exact ⟨hr, a, b, c, e, s4, z2, z4, z6, z8⟩
theorem y_readsTerm (s : y_rs h tp t p o i kd nu be fi) {sI : Int32} {sd : Nat} (hs : sI.toInt = sd) (hs2 : sd < 2)
    (yes : ∀ (H : aH) (q : Nat) (kd' : List Int32) (nu' : List Int64) (be' fi' : List Int32), y_fr h H [19613, 19615] [166, 167, 168, 169] → y_rs H tp t q o i kd' nu' be' fi' → y_rt (2 * i + sd) kd kd' nu nu' be be' fi fi' → y_tm (y_N tp) t (2 * i + sd) kd' nu' be' fi' → K0 (some (.int (Int32.ofInt 1))) H C S)
    (no : ∀ (H : aH) (q : Nat) (o' : Int) (kd' : List Int32) (nu' : List Int64) (be' fi' : List Int32), y_fr h H [19613, 19615] [166, 167, 168, 169] → y_rs H tp t q o' i kd' nu' be' fi' → y_rt (2 * i + sd) kd kd' nu nu' be be' fi fi' → K0 (some (.int (Int32.ofInt 0))) H C S) :
    aOK s_P X (d + 167) a_m223 0 [some (.ref 155), some (.int sI), none] [] h C S K0 := by
  obtain ⟨hr, pt, t40, o0, o5, i11, lk, ln, lb, lf⟩ := y_rs_hr s
  obtain ⟨s1, ⟨iI, s2, s3⟩, s4, s5, s6, s7, s8⟩ := id s
  have hk := y_2k s3 hs (by omega) (by omega)
  generalize hkI : Int32.ofInt 2 * iI + sI = kI at hk
  have ck := y_cl1 hk
  have hk2 : (Int32.ofInt 2 * kI).toInt = ((2 * (2 * i + sd) : Nat) : Int) := y_mulS (m := 2) _ (by decide) hk rfl (by omega)
  have hk3 : (Int32.ofInt 2 * kI + Int32.ofInt 1).toInt = ((2 * (2 * i + sd) + 1 : Nat) : Int) := y_addS _ hk2 (n := 1) (by decide) rfl (by omega)
  have c2 := y_cl1 hk2
  have c3 := y_cl1 hk3
  have b1 : 0 ≤ kI.toInt ∧ kI.toInt < ((26 : Nat) : Int) := by omega
  have b2 : 0 ≤ (Int32.ofInt 2 * kI).toInt ∧ (Int32.ofInt 2 * kI).toInt < ((52 : Nat) : Int) := by omega
  have b3 : 0 ≤ (Int32.ofInt 2 * kI + Int32.ofInt 1).toInt ∧ (Int32.ofInt 2 * kI + Int32.ofInt 1).toInt < ((52 : Nat) : Int) := by omega
  have T61 : ∀ {G : aH} {q : Nat} {kd' : List Int32} {nu' : List Int64} {be' fi' : List Int32} {r : Int64}, y_fr h G [19613, 19615] [166, 167, 168, 169] → y_rs G tp t q o i kd' nu' be' fi' → y_rt (2 * i + sd) kd kd' nu nu' be be' fi fi' → y_N kd' (2 * i + sd) = 0 → -1 ≤ y_Nl nu' (2 * (2 * i + sd)) → aOK s_P X (d + 167) a_m223 61 [some (.ref 155), some (.int sI), some (.int kI)] [.long r, .int (Int32.ofInt 2 * kI + Int32.ofInt 1), .ref 169] G C S K0 := by
    intro G q kd' nu' be' fi' r e rs rt hk0 hn0
    obtain ⟨-, -, -, -, -, -, lk', ln', lb', lf'⟩ := y_rs_hr rs
    refine w_go z_hl [] [] 40 e.1 ?_
    refine ⟨b3, y_l64 r, fun l hl len bb => ?_⟩
    obtain rfl := y_al rs.2.2.2.2.1 hl
    refine ⟨b3, ⟨fun _ => ⟨by decide, fun H hH => ?_⟩, fun q2 => ⟨by decide, fun H hH => ?_⟩⟩⟩
    · have f : y_fr G H [] [167] := y_st (y_mo (y_rf e.1) rfl rfl) hH (by repeat (first | exact w_nil | refine w_cons (Or.inl (y_m rfl)) ?_ | refine w_cons (Or.inr (by assumption)) ?_)) (by repeat (first | exact w_nil | refine w_cons (Or.inl (y_m rfl)) ?_ | refine w_cons (Or.inr (by assumption)) ?_))
      have A := hH.2.2.1 167 _ rfl
      rw [c3] at A
      exact no H q o _ _ _ _ (y_sq e f rfl rfl) (y_rs_nu rs f A) (y_rt_tr rt (y_rt_nu (by omega) (by omega)))
    · have f : y_fr G H [] [167] := y_st (y_mo (y_rf e.1) rfl rfl) hH (by repeat (first | exact w_nil | refine w_cons (Or.inl (y_m rfl)) ?_ | refine w_cons (Or.inr (by assumption)) ?_)) (by repeat (first | exact w_nil | refine w_cons (Or.inl (y_m rfl)) ?_ | refine w_cons (Or.inr (by assumption)) ?_))
      have A := hH.2.2.1 167 _ rfl
      rw [c3] at A
      have q3 : ¬ (((nu'.set (Int32.ofInt 2 * kI + Int32.ofInt 1).toNatClampNeg r).getD (Int32.ofInt 2 * kI + Int32.ofInt 1).toNatClampNeg 0).toInt ≤ (Int64.ofNat 0).toInt) := y_clf q2
      rw [c3, y_gset (by omega), if_pos rfl, show (Int64.ofNat 0).toInt = 0 by decide] at q3
      refine yes H q _ _ _ _ (y_sq e f rfl rfl) (y_rs_nu rs f A) (y_rt_tr rt (y_rt_nu (by omega) (by omega))) ⟨fun _ => ?_, fun q4 => absurd hk0 q4, fun q4 => ?_⟩
      · rw [y_Nlset (by omega), y_Nlset (by omega), if_pos rfl, if_neg (by omega)]
        exact ⟨hn0, by omega⟩
      · rw [hk0] at q4
        omega
  have T42y : ∀ {G : aH} {q : Nat} {kd' : List Int32} {nu' : List Int64} {be' fi' : List Int32}, y_fr h G [19613, 19615] [166, 167, 168, 169] → y_rs G tp t q o i kd' nu' be' fi' → y_rt (2 * i + sd) kd kd' nu nu' be be' fi fi' → y_N kd' (2 * i + sd) = 0 → -1 ≤ y_Nl nu' (2 * (2 * i + sd)) → aOK s_P X (d + 167) a_m223 42 [some (.ref 155), some (.int sI), some (.int kI)] [.int (Int32.ofInt 1)] G C S K0 := by
    intro G q kd' nu' be' fi' e rs rt hk0 hn0
    refine w_go z_hl [] [225] 40 e.1 ?_
    refine ⟨fun _ => fun H hH => ?_, fun q => absurd q (by decide)⟩
    have f : y_fr G H [] [] := y_st (y_rf e.1) hH (by repeat (first | exact w_nil | refine w_cons (Or.inl (y_m rfl)) ?_ | refine w_cons (Or.inr (by assumption)) ?_)) (by repeat (first | exact w_nil | refine w_cons (Or.inl (y_m rfl)) ?_ | refine w_cons (Or.inr (by assumption)) ?_))
    have rs2 := y_rs_fr rs f
    refine y_digits rs2.1 (fun H2 q2 r f2 ps2 _ _ => ⟨fun n e => (by cases e), ?_⟩)
    exact T61 (y_sq (y_sq e f rfl rfl) f2 rfl rfl) (y_rs_ps rs2 (y_mo f2 rfl rfl) ps2) rt hk0 hn0
  have T42n : ∀ {G : aH} {q : Nat} {kd' : List Int32} {nu' : List Int64} {be' fi' : List Int32}, y_fr h G [19613, 19615] [166, 167, 168, 169] → y_rs G tp t q o i kd' nu' be' fi' → y_rt (2 * i + sd) kd kd' nu nu' be be' fi fi' → aOK s_P X (d + 167) a_m223 42 [some (.ref 155), some (.int sI), some (.int kI)] [.int (Int32.ofInt 0)] G C S K0 := by
    intro G q kd' nu' be' fi' e rs rt
    refine w_go z_hl [] [] 40 e.1 ?_
    refine ⟨fun q => absurd q (by decide), fun _ => ⟨by decide, fun H hH => ?_⟩⟩
    have f : y_fr G H [] [] := y_st (y_rf e.1) hH (by repeat (first | exact w_nil | refine w_cons (Or.inl (y_m rfl)) ?_ | refine w_cons (Or.inr (by assumption)) ?_)) (by repeat (first | exact w_nil | refine w_cons (Or.inl (y_m rfl)) ?_ | refine w_cons (Or.inr (by assumption)) ?_))
    exact no H q o _ _ _ _ (y_sq e f rfl rfl) (y_rs_fr rs f) rt
  have T35 : ∀ {G : aH} {q : Nat} {kd' : List Int32} {r : Int64}, y_fr h G [19613, 19615] [166] → y_rs G tp t q o i kd' nu be fi → y_rt (2 * i + sd) kd kd' nu nu be be fi fi → y_N kd' (2 * i + sd) = 0 → -1 ≤ r.toInt → aOK s_P X (d + 167) a_m223 35 [some (.ref 155), some (.int sI), some (.int kI)] [.long r, .int (Int32.ofInt 2 * kI), .ref 169] G C S K0 := by
    intro G q kd' r e rs rt hk0 hr0
    refine w_go z_hl [] [226] 40 e.1 ?_
    refine ⟨b2, y_l64 r, fun l hl len bb => fun H hH => ?_⟩
    obtain rfl := y_al rs.2.2.2.2.1 hl
    have f : y_fr G H [] [167] := y_st (y_mo (y_rf e.1) rfl rfl) hH (by repeat (first | exact w_nil | refine w_cons (Or.inl (y_m rfl)) ?_ | refine w_cons (Or.inr (by assumption)) ?_)) (by repeat (first | exact w_nil | refine w_cons (Or.inl (y_m rfl)) ?_ | refine w_cons (Or.inr (by assumption)) ?_))
    have A := hH.2.2.1 167 _ rfl
    rw [c2] at A
    have e2 : y_fr h H [19613, 19615] [166, 167, 168, 169] := y_sq (y_mo e rfl rfl) f rfl rfl
    have rs2 := y_rs_nu rs f A
    have rt2 := y_rt_tr rt (y_rt_nu (x := r) (m := 2 * (2 * i + sd)) (kd := kd') (nu := nu) (be := be) (fi := fi) (by omega) (by omega))
    have n2 : -1 ≤ y_Nl (nu.set (2 * (2 * i + sd)) r) (2 * (2 * i + sd)) := by
      rw [y_Nlset (by omega), if_pos rfl]
      exact hr0
    refine y_comes rs2.1 (fun H2 f2 ps2 _ _ => ⟨fun n e => (by cases e), ?_⟩) (fun H2 f2 ps2 _ => ⟨fun n e => (by cases e), ?_⟩)
    · exact T42y (y_sq e2 f2 rfl rfl) (y_rs_ps rs2 (y_mo f2 rfl rfl) ps2) rt2 hk0 n2
    · exact T42n (y_sq e2 f2 rfl rfl) (y_rs_ps rs2 (y_mo f2 rfl rfl) ps2) rt2
  have T13y : ∀ {G : aH}, y_fr h G [] [] → aOK s_P X (d + 167) a_m223 13 [some (.ref 155), some (.int sI), some (.int kI)] [.int (Int32.ofInt 1)] G C S K0 := by
    intro G e
    have rs := y_rs_fr s e
    refine w_go z_hl [] [225] 40 e.1 ?_
    refine ⟨fun q => absurd q (by decide), fun _ => ⟨b1, by decide, fun l hl len bb => fun H hH => ?_⟩⟩
    obtain rfl := y_ai rs.2.2.2.1 hl
    have f : y_fr G H [] [166] := y_st (y_mo (y_rf e.1) rfl rfl) hH (by repeat (first | exact w_nil | refine w_cons (Or.inl (y_m rfl)) ?_ | refine w_cons (Or.inr (by assumption)) ?_)) (by repeat (first | exact w_nil | refine w_cons (Or.inl (y_m rfl)) ?_ | refine w_cons (Or.inr (by assumption)) ?_))
    have A := hH.2.2.1 166 _ rfl
    rw [ck] at A
    have e2 : y_fr h H [19613, 19615] [166] := y_sq (y_mo e rfl rfl) f rfl rfl
    have rs2 := y_rs_kd rs f A
    refine y_digits rs2.1 (fun H2 q2 r f2 ps2 r0 _ => ⟨fun n e => (by cases e), ?_⟩)
    exact T35 (y_sq e2 f2 rfl rfl) (y_rs_ps rs2 (y_mo f2 rfl rfl) ps2) (y_rt_kd (by omega)) (by rw [y_Nset (by omega), if_pos rfl]; decide) r0
  have T123y : ∀ {G : aH} {q : Nat} {kd' : List Int32} {nu' : List Int64} {be' fi' : List Int32}, y_fr h G [19613, 19615] [166, 167, 168, 169] → y_rs G tp t q o i kd' nu' be' fi' → y_rt (2 * i + sd) kd kd' nu nu' be be' fi fi' → y_tm (y_N tp) t (2 * i + sd) kd' nu' be' fi' → aOK s_P X (d + 167) a_m223 123 [some (.ref 155), some (.int sI), some (.int kI)] [.int (Int32.ofInt 1)] G C S K0 := by
    intro G q kd' nu' be' fi' e rs rt tm
    refine w_go z_hl [] [] 40 e.1 ?_
    refine ⟨by decide, fun H hH => ?_⟩
    have f : y_fr G H [] [] := y_st (y_rf e.1) hH (by repeat (first | exact w_nil | refine w_cons (Or.inl (y_m rfl)) ?_ | refine w_cons (Or.inr (by assumption)) ?_)) (by repeat (first | exact w_nil | refine w_cons (Or.inl (y_m rfl)) ?_ | refine w_cons (Or.inr (by assumption)) ?_))
    exact yes H q _ _ _ _ (y_sq e f rfl rfl) (y_rs_fr rs f) rt tm
  have T123n : ∀ {G : aH} {q : Nat} {o' : Int} {kd' : List Int32} {nu' : List Int64} {be' fi' : List Int32}, y_fr h G [19613, 19615] [166, 167, 168, 169] → y_rs G tp t q o' i kd' nu' be' fi' → y_rt (2 * i + sd) kd kd' nu nu' be be' fi fi' → aOK s_P X (d + 167) a_m223 123 [some (.ref 155), some (.int sI), some (.int kI)] [.int (Int32.ofInt 0)] G C S K0 := by
    intro G q o' kd' nu' be' fi' e rs rt
    refine w_go z_hl [] [] 40 e.1 ?_
    refine ⟨by decide, fun H hH => ?_⟩
    have f : y_fr G H [] [] := y_st (y_rf e.1) hH (by repeat (first | exact w_nil | refine w_cons (Or.inl (y_m rfl)) ?_ | refine w_cons (Or.inr (by assumption)) ?_)) (by repeat (first | exact w_nil | refine w_cons (Or.inl (y_m rfl)) ?_ | refine w_cons (Or.inr (by assumption)) ?_))
    exact no H q o' _ _ _ _ (y_sq e f rfl rfl) (y_rs_fr rs f) rt
  have T107n : ∀ {G : aH} {q : Nat} {kd' : List Int32} {nu' : List Int64} {be' fi' : List Int32}, y_fr h G [19613, 19615] [166, 167, 168, 169] → y_rs G tp t q o i kd' nu' be' fi' → y_rt (2 * i + sd) kd kd' nu nu' be be' fi fi' → y_tm (y_N tp) t (2 * i + sd) kd' nu' be' fi' → aOK s_P X (d + 167) a_m223 107 [some (.ref 155), some (.int sI), some (.int kI)] [.int (Int32.ofInt 0)] G C S K0 := by
    intro G q kd' nu' be' fi' e rs rt tm
    refine w_go z_hl [] [] 40 e.1 ?_
    refine ⟨fun _ => ⟨by decide, fun H hH => ?_⟩, fun q => absurd q (by decide)⟩
    have f : y_fr G H [] [] := y_st (y_rf e.1) hH (by repeat (first | exact w_nil | refine w_cons (Or.inl (y_m rfl)) ?_ | refine w_cons (Or.inr (by assumption)) ?_)) (by repeat (first | exact w_nil | refine w_cons (Or.inl (y_m rfl)) ?_ | refine w_cons (Or.inr (by assumption)) ?_))
    exact yes H q _ _ _ _ (y_sq e f rfl rfl) (y_rs_fr rs f) rt tm
  have T107y : ∀ {G : aH} {q : Nat} {kd' : List Int32} {nu' : List Int64} {be' fi' : List Int32}, y_fr h G [19613, 19615] [166, 167, 168, 169] → y_rs G tp t q o i kd' nu' be' fi' → y_rt (2 * i + sd) kd kd' nu nu' be be' fi fi' → y_ok1 (y_N tp) t (y_N be' (2 * (2 * i + sd))) (y_N fi' (2 * (2 * i + sd))) → aOK s_P X (d + 167) a_m223 107 [some (.ref 155), some (.int sI), some (.int kI)] [.int (Int32.ofInt 1)] G C S K0 := by
    intro G q kd' nu' be' fi' e rs rt ok
    obtain ⟨-, -, -, -, -, -, lk', ln', lb', lf'⟩ := y_rs_hr rs
    refine w_go z_hl [] [228] 40 e.1 ?_
    refine ⟨fun q => absurd q (by decide), fun _ => ⟨b1, by decide, fun l hl len bb => fun H hH => ?_⟩⟩
    obtain rfl := y_ai rs.2.2.2.1 hl
    have f : y_fr G H [] [166] := y_st (y_mo (y_rf e.1) rfl rfl) hH (by repeat (first | exact w_nil | refine w_cons (Or.inl (y_m rfl)) ?_ | refine w_cons (Or.inr (by assumption)) ?_)) (by repeat (first | exact w_nil | refine w_cons (Or.inl (y_m rfl)) ?_ | refine w_cons (Or.inr (by assumption)) ?_))
    have A := hH.2.2.1 166 _ rfl
    rw [ck] at A
    have e2 : y_fr h H [19613, 19615] [166, 167, 168, 169] := y_sq e f rfl rfl
    have rs2 := y_rs_kd rs f A
    have rt2 : y_rt (2 * i + sd) kd (kd'.set (2 * i + sd) (Int32.ofInt 2)) nu nu' be be' fi fi' := y_rt_tr rt (y_rt_kd (by omega))
    refine y_notes (g := 1) rs2 hs hs2 (by decide) (by decide) (fun H2 q2 be2 fi2 f2 rs3 rt3 same ok2 => ⟨fun n e => (by cases e), ?_⟩) (fun H2 q2 o2 be2 fi2 f2 rs3 rt3 => ⟨fun n e => (by cases e), ?_⟩)
    · refine T123y (y_sq e2 f2 rfl rfl) rs3 (y_rt_tr rt2 rt3) ?_
      have kk : y_N (kd'.set (2 * i + sd) (Int32.ofInt 2)) (2 * i + sd) = 2 := by
        rw [y_Nset (by omega), if_pos rfl]
        decide
      refine ⟨fun q4 => ?_, fun _ => ?_, fun _ => ?_⟩
      · rw [kk] at q4
        omega
      · rw [(same (2 * (2 * i + sd)) (by omega)).1, (same (2 * (2 * i + sd)) (by omega)).2]
        exact ok
      · rw [show 2 * (2 * i + sd) + 1 = 4 * i + 2 * sd + 1 by omega]
        exact ok2
    · exact T123n (y_sq e2 f2 rfl rfl) rs3 (y_rt_tr rt2 rt3)
  have T96n : ∀ {G : aH} {q : Nat} {o' : Int} {kd' : List Int32} {nu' : List Int64} {be' fi' : List Int32}, y_fr h G [19613, 19615] [166, 167, 168, 169] → y_rs G tp t q o' i kd' nu' be' fi' → y_rt (2 * i + sd) kd kd' nu nu' be be' fi fi' → aOK s_P X (d + 167) a_m223 96 [some (.ref 155), some (.int sI), some (.int kI)] [.int (Int32.ofInt 0)] G C S K0 := by
    intro G q o' kd' nu' be' fi' e rs rt
    refine w_go z_hl [] [] 40 e.1 ?_
    refine ⟨fun q => absurd q (by decide), fun _ => ⟨by decide, fun H hH => ?_⟩⟩
    have f : y_fr G H [] [] := y_st (y_rf e.1) hH (by repeat (first | exact w_nil | refine w_cons (Or.inl (y_m rfl)) ?_ | refine w_cons (Or.inr (by assumption)) ?_)) (by repeat (first | exact w_nil | refine w_cons (Or.inl (y_m rfl)) ?_ | refine w_cons (Or.inr (by assumption)) ?_))
    exact no H q o' _ _ _ _ (y_sq e f rfl rfl) (y_rs_fr rs f) rt
  have T96y : ∀ {G : aH} {q : Nat} {kd' : List Int32} {nu' : List Int64} {be' fi' : List Int32}, y_fr h G [19613, 19615] [166, 167, 168, 169] → y_rs G tp t q o i kd' nu' be' fi' → y_rt (2 * i + sd) kd kd' nu nu' be be' fi fi' → y_N kd' (2 * i + sd) = 1 → y_ok1 (y_N tp) t (y_N be' (2 * (2 * i + sd))) (y_N fi' (2 * (2 * i + sd))) → aOK s_P X (d + 167) a_m223 96 [some (.ref 155), some (.int sI), some (.int kI)] [.int (Int32.ofInt 1)] G C S K0 := by
    intro G q kd' nu' be' fi' e rs rt hk1 ok
    refine w_go z_hl [] [226] 40 e.1 ?_
    refine ⟨fun _ => fun H hH => ?_, fun q => absurd q (by decide)⟩
    have f : y_fr G H [] [] := y_st (y_rf e.1) hH (by repeat (first | exact w_nil | refine w_cons (Or.inl (y_m rfl)) ?_ | refine w_cons (Or.inr (by assumption)) ?_)) (by repeat (first | exact w_nil | refine w_cons (Or.inl (y_m rfl)) ?_ | refine w_cons (Or.inr (by assumption)) ?_))
    have rs2 := y_rs_fr rs f
    refine y_comes rs2.1 (fun H2 f2 ps2 _ _ => ⟨fun n e => (by cases e), ?_⟩) (fun H2 f2 ps2 _ => ⟨fun n e => (by cases e), ?_⟩)
    · exact T107y (y_sq (y_sq e f rfl rfl) f2 rfl rfl) (y_rs_ps rs2 (y_mo f2 rfl rfl) ps2) rt ok
    · exact T107n (y_sq (y_sq e f rfl rfl) f2 rfl rfl) (y_rs_ps rs2 (y_mo f2 rfl rfl) ps2) rt ⟨fun q => by omega, fun _ => ok, fun q => by omega⟩
  have T13n : ∀ {G : aH}, y_fr h G [] [] → aOK s_P X (d + 167) a_m223 13 [some (.ref 155), some (.int sI), some (.int kI)] [.int (Int32.ofInt 0)] G C S K0 := by
    intro G e
    have rs := y_rs_fr s e
    refine w_go z_hl [] [228] 40 e.1 ?_
    refine ⟨fun _ => ⟨b1, by decide, fun l hl len bb => fun H hH => ?_⟩, fun q => absurd q (by decide)⟩
    obtain rfl := y_ai rs.2.2.2.1 hl
    have f : y_fr G H [] [166] := y_st (y_mo (y_rf e.1) rfl rfl) hH (by repeat (first | exact w_nil | refine w_cons (Or.inl (y_m rfl)) ?_ | refine w_cons (Or.inr (by assumption)) ?_)) (by repeat (first | exact w_nil | refine w_cons (Or.inl (y_m rfl)) ?_ | refine w_cons (Or.inr (by assumption)) ?_))
    have A := hH.2.2.1 166 _ rfl
    rw [ck] at A
    have e2 : y_fr h H [19613, 19615] [166, 167, 168, 169] := y_sq (y_mo e rfl rfl) f rfl rfl
    have rs2 := y_rs_kd rs f A
    have rt2 : y_rt (2 * i + sd) kd (kd.set (2 * i + sd) (Int32.ofInt 1)) nu nu be be fi fi := y_rt_kd (by omega)
    refine y_notes (g := 0) rs2 hs hs2 (by decide) (by decide) (fun H2 q2 be2 fi2 f2 rs3 rt3 same ok2 => ⟨fun n e => (by cases e), ?_⟩) (fun H2 q2 o2 be2 fi2 f2 rs3 rt3 => ⟨fun n e => (by cases e), ?_⟩)
    · refine T96y (y_sq e2 f2 rfl rfl) rs3 (y_rt_tr rt2 rt3) (by rw [y_Nset (by omega), if_pos rfl]; decide) ?_
      rw [show 2 * (2 * i + sd) = 4 * i + 2 * sd + 0 by omega]
      exact ok2
    · exact T96n (y_sq e2 f2 rfl rfl) rs3 (y_rt_tr rt2 rt3)
  refine w_go z_hl [] [224] 40 hr ?_
  intro x hx _ _
  obtain rfl := y_fi s2 hx
  intro H hH
  have f : y_fr h H [] [] := y_st (y_rf hr) hH (by repeat (first | exact w_nil | refine w_cons (Or.inl (y_m rfl)) ?_ | refine w_cons (Or.inr (by assumption)) ?_)) (by repeat (first | exact w_nil | refine w_cons (Or.inl (y_m rfl)) ?_ | refine w_cons (Or.inr (by assumption)) ?_))
  refine y_isDigit (y_ps_fr s1 f rfl rfl) (fun H2 e2 hp c1 c2 => ⟨fun n e => (by cases e), ?_⟩) (fun H2 e2 => ⟨fun n e => (by cases e), ?_⟩)
  · have := T13y (y_sq f e2 rfl rfl)
    rw [← hkI] at this
    exact this
  · have := T13n (y_sq f e2 rfl rfl)
    rw [← hkI] at this
    exact this
end WG
