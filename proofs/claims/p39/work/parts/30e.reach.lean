/-! ===== v3: the reference's reach, leans ===== -/
theorem y_shl6 {sp : Int32} (h1 : 0 ≤ sp.toInt) (h2 : sp.toInt ≤ 10) : (Int32.ofInt 1 <<< (sp &&& 31)).toInt = (y_ways sp : Int) := by
  rcases y_small h1 h2 with rfl | rfl | rfl | rfl | rfl | rfl | rfl | rfl | rfl | rfl | rfl <;> decide
theorem y_spE {h : aH} (hr : w_hr z_D h) : ∃ sp : Int32, w_f h 19619 = some (.int sp) ∧ 0 ≤ sp.toInt ∧ sp.toInt ≤ 6 := by
  obtain ⟨vs, w, z1, z2, z3, z4⟩ := w_get1 hr (o := 153) (ci := 12) rfl (k := 35) rfl
  have e := w_f_at z1 (k := 35) (by decide)
  rcases z4 with ⟨-, x, ex, c1, c2⟩ | ⟨q, -⟩
  · exact ⟨x, by rw [show (19619 : Nat) = 153 * 128 + 35 by decide, e, z3, ex], c1, c2⟩
  · cases q
def y_re (h G : aH) (sp : Int32) : Prop := y_fr h G [19584, 19585, 19587, 19588] [154, 155, 158, 163, 176] ∧ y_J G ∧ w_f G 19619 = some (.int sp)
theorem y_re_fr {h G H : aH} {sp : Int32} {fs as : List Nat} (s : y_re h G sp) (f : y_fr G H fs as) (h1 : fs.all (fun x => [19584, 19585, 19587, 19588].elem x) = true) (h2 : as.all (fun x => [154, 155, 158, 163, 176].elem x) = true) (h3 : fs.elem 19619 = false) (J : y_J H) : y_re h H sp := ⟨y_sq s.1 f h1 h2, J, (y_fe f h3).trans s.2.2⟩
theorem y_re_f0 {h G H : aH} {sp : Int32} (s : y_re h G sp) (f : y_fr G H [] []) : y_re h H sp := y_re_fr s f rfl rfl rfl (y_J_fr f rfl rfl s.2.1)
theorem y_wcJ {h : aH} {wl : List Int64} (hr : w_hr z_D h) (hJ : y_J h) (hw : y_wl h wl) : ∃ nd sa, y_wc h nd sa wl := by
  obtain ⟨nd, sm, so, sa, s1, s2, s3, s4, s5⟩ := id hJ.2.2.2.2.1
  exact ⟨nd, sa, hr, s1, s4, hw⟩
section WG
variable {X : aX} {C S d : Nat} {K0 : Option Value → aH → Nat → Nat → Prop} {h : aH}
theorem y_reach_in {sp node what so bI : Int32} {bu bl : Int64} (s0 : 0 ≤ sp.toInt) (s6 : sp.toInt ≤ 6) : ∀ (m : Nat) (G : aH) (kI : Int32) (k : Nat) (o10 o11 o12 o13 : Option Value), y_re h G sp → kI.toInt = k → (k : Int) + m = sp.toInt → (∀ (H : aH) (k' : Int32) (o10 o11 o12 o13 : Option Value), y_re h H sp → aOK s_P X (d + 5) a_m250 82 [some (.ref 155), some (.int node), some (.int what), some (.int so), some (.long bu), none, some (.long bl), none, some (.int bI), some (.int k'), o10, o11, o12, o13] [] H C S K0) → aOK s_P X (d + 5) a_m250 54 [some (.ref 155), some (.int node), some (.int what), some (.int so), some (.long bu), none, some (.long bl), none, some (.int bI), some (.int kI), o10, o11, o12, o13] [] G C S K0 := by
  intro m
  induction m with
  | zero =>
    intro G kI k o10 o11 o12 o13 re hk hm hK
    refine w_go z_hl [54, 82] [] 30 re.1.1 ?_
    intro x hx _ _
    obtain rfl := y_fi re.2.2 hx
    refine ⟨fun _ => fun H hH => hK H _ _ _ _ _ (y_re_f0 re (y_st (y_rf re.1.1) hH (by repeat (first | exact w_nil | refine w_cons (Or.inl (y_m rfl)) ?_ | refine w_cons (Or.inr (by assumption)) ?_)) (by repeat (first | exact w_nil | refine w_cons (Or.inl (y_m rfl)) ?_ | refine w_cons (Or.inr (by assumption)) ?_)))), fun q => ?_⟩
    have : ¬ (sp.toInt ≤ kI.toInt) := y_cif q
    omega
  | succ m ih =>
    intro G kI k o10 o11 o12 o13 re hk hm hK
    have ink : (kI + Int32.ofInt 1).toInt = ((k + 1 : Nat) : Int) := by rw [y_inc (by omega), hk]; rfl
    have T76 : ∀ {H : aH}, y_re h H sp → aOK s_P X (d + 5) a_m250 76 [some (.ref 155), some (.int node), some (.int what), some (.int so), some (.long bu), none, some (.long bl), none, some (.int bI), some (.int kI), o10, o11, o12, o13] [] H C S K0 := by
      intro H re2
      refine w_go z_hl [54] [] 30 re2.1.1 ?_
      intro H2 h2
      exact ih H2 _ (k + 1) _ _ _ _ (y_re_f0 re2 (y_st (y_rf re2.1.1) h2 (by repeat (first | exact w_nil | refine w_cons (Or.inl (y_m rfl)) ?_ | refine w_cons (Or.inr (by assumption)) ?_)) (by repeat (first | exact w_nil | refine w_cons (Or.inl (y_m rfl)) ?_ | refine w_cons (Or.inr (by assumption)) ?_)))) ink (by omega) hK
    have T73 : ∀ {H : aH} {b : Int32}, y_re h H sp → aOK s_P X (d + 5) a_m250 73 [some (.ref 155), some (.int node), some (.int what), some (.int so), some (.long bu), none, some (.long bl), none, some (.int bI), some (.int kI), o10, o11, o12, o13] [.int b, .int kI, .ref 155] H C S K0 := by
      intro H b re2
      refine w_go z_hl [] [252] 30 re2.1.1 ?_
      intro H2 h2
      have f : y_fr H H2 [] [] := y_st (y_rf re2.1.1) h2 (by repeat (first | exact w_nil | refine w_cons (Or.inl (y_m rfl)) ?_ | refine w_cons (Or.inr (by assumption)) ?_)) (by repeat (first | exact w_nil | refine w_cons (Or.inl (y_m rfl)) ?_ | refine w_cons (Or.inr (by assumption)) ?_))
      have re3 := y_re_f0 re2 f
      refine y_lays re3.1.1 re3.2.1 (by omega) (by omega) (fun H3 f3 J3 => ⟨fun n e => (by cases e), ?_⟩)
      exact T76 (y_re_fr re3 f3 rfl rfl rfl J3)
    refine w_go z_hl [54, 73] [] 30 re.1.1 ?_
    intro x hx _ _
    obtain rfl := y_fi re.2.2 hx
    refine ⟨fun q => ?_, fun _ => ⟨fun _ => ⟨by decide, fun H hH => T73 (y_re_f0 re (y_st (y_rf re.1.1) hH (by repeat (first | exact w_nil | refine w_cons (Or.inl (y_m rfl)) ?_ | refine w_cons (Or.inr (by assumption)) ?_)) (by repeat (first | exact w_nil | refine w_cons (Or.inl (y_m rfl)) ?_ | refine w_cons (Or.inr (by assumption)) ?_))))⟩, fun _ => ⟨by decide, fun H hH => T73 (y_re_f0 re (y_st (y_rf re.1.1) hH (by repeat (first | exact w_nil | refine w_cons (Or.inl (y_m rfl)) ?_ | refine w_cons (Or.inr (by assumption)) ?_)) (by repeat (first | exact w_nil | refine w_cons (Or.inl (y_m rfl)) ?_ | refine w_cons (Or.inr (by assumption)) ?_))))⟩⟩⟩
    have : sp.toInt ≤ kI.toInt := (y_ci .ge _ _).mp q
    omega
theorem y_reach_loop {sp node what : Int32} (s0 : 0 ≤ sp.toInt) (s6 : sp.toInt ≤ 6) (hK : ∀ (r : Int32) (H : aH), y_fr h H [19584, 19585, 19587, 19588] [154, 155, 158, 163, 176] → y_J H → K0 (some (.int r)) H C S) : ∀ (m : Nat) (G : aH) (so bI : Int32) (bu bl : Int64) (k : Nat) (o9 o10 o11 o12 o13 : Option Value), y_re h G sp → bI.toInt = k → k + m = y_ways sp → 0 ≤ bu.toInt → 1 ≤ bl.toInt → aOK s_P X (d + 5) a_m250 40 [some (.ref 155), some (.int node), some (.int what), some (.int so), some (.long bu), none, some (.long bl), none, some (.int bI), o9, o10, o11, o12, o13] [] G C S K0 := by
  obtain ⟨-, y1, y2⟩ := y_all s0 (by omega : sp.toInt ≤ 10)
  have sh := y_shl6 s0 (by omega : sp.toInt ≤ 10)
  intro m
  induction m with
  | zero =>
    intro G so bI bu bl k o9 o10 o11 o12 o13 re hk hm u0 l1
    have T198 : ∀ {H : aH}, y_re h H sp → aOK s_P X (d + 5) a_m250 198 [some (.ref 155), some (.int node), some (.int what), some (.int so), some (.long bu), none, some (.long bl), none, some (.int bI), o9, o10, o11, o12, o13] [] H C S K0 := by
      intro H re2
      refine w_go z_hl [] [] 30 re2.1.1 ?_
      intro H2 h2
      have r3 := y_re_f0 re2 (y_st (y_rf re2.1.1) h2 (by repeat (first | exact w_nil | refine w_cons (Or.inl (y_m rfl)) ?_ | refine w_cons (Or.inr (by assumption)) ?_)) (by repeat (first | exact w_nil | refine w_cons (Or.inl (y_m rfl)) ?_ | refine w_cons (Or.inr (by assumption)) ?_)))
      exact hK _ H2 r3.1 r3.2.1
    have T189 : ∀ {H : aH}, y_re h H sp → aOK s_P X (d + 5) a_m250 189 [some (.ref 155), some (.int node), some (.int what), some (.int so), some (.long bu), none, some (.long bl), none, some (.int bI), o9, o10, o11, o12, o13] [] H C S K0 := by
      intro H re2
      refine w_go z_hl [] [196] 30 re2.1.1 ?_
      refine ⟨rfl, y_zini (by decide) (by decide), fun H2 h2 => ?_⟩
      have f : y_fr H H2 [19585] [] := y_st (y_mo (y_rf re2.1.1) rfl rfl) h2 (by repeat (first | exact w_nil | refine w_cons (Or.inl (y_m rfl)) ?_ | refine w_cons (Or.inr (by assumption)) ?_)) (by repeat (first | exact w_nil | refine w_cons (Or.inl (y_m rfl)) ?_ | refine w_cons (Or.inr (by assumption)) ?_))
      refine y_tells f.1 (h2.2.1 19585 _ rfl) (by decide) (by decide) (fun H3 r2 e3 _ _ => ⟨fun n e => (by cases e), ?_⟩)
      have f2 : y_fr H H3 [19585] [154] := y_sq (y_mo f rfl rfl) e3 rfl rfl
      exact T198 (y_re_fr re2 f2 rfl rfl rfl (y_J_fr f2 rfl rfl re2.2.1))
    have T174 : ∀ {H : aH}, y_re h H sp → aOK s_P X (d + 5) a_m250 174 [some (.ref 155), some (.int node), some (.int what), some (.int so), some (.long bu), none, some (.long bl), none, some (.int bI), o9, o10, o11, o12, o13] [] H C S K0 := by
      intro H re2
      refine w_go z_hl [] [194] 30 re2.1.1 ?_
      refine ⟨fun _ => fun H2 h2 => ?_, fun _ => fun H2 h2 => ?_⟩
      · have f : y_fr H H2 [] [] := y_st (y_rf re2.1.1) h2 (by repeat (first | exact w_nil | refine w_cons (Or.inl (y_m rfl)) ?_ | refine w_cons (Or.inr (by assumption)) ?_)) (by repeat (first | exact w_nil | refine w_cons (Or.inl (y_m rfl)) ?_ | refine w_cons (Or.inr (by assumption)) ?_))
        refine q_lowest (n := bu) (m := bl) f.1 (by omega) l1 (fun u l H3 e3 _ _ _ _ _ _ _ => ⟨fun n e => (by cases e), ?_⟩)
        have f2 : y_fr H H3 [19587, 19588] [] := y_sq (y_mo f rfl rfl) e3 rfl rfl
        exact T189 (y_re_fr re2 f2 rfl rfl rfl (y_J_fr f2 rfl rfl re2.2.1))
      · have r3 := y_re_f0 re2 (y_st (y_rf re2.1.1) h2 (by repeat (first | exact w_nil | refine w_cons (Or.inl (y_m rfl)) ?_ | refine w_cons (Or.inr (by assumption)) ?_)) (by repeat (first | exact w_nil | refine w_cons (Or.inl (y_m rfl)) ?_ | refine w_cons (Or.inr (by assumption)) ?_)))
        exact hK _ H2 r3.1 r3.2.1
    have T170 : ∀ {H : aH}, y_re h H sp → aOK s_P X (d + 5) a_m250 170 [some (.ref 155), some (.int node), some (.int what), some (.int so), some (.long bu), none, some (.long bl), none, some (.int bI), o9, o10, o11, o12, o13] [] H C S K0 := by
      intro H re2
      refine w_go z_hl [] [253] 30 re2.1.1 ?_
      intro H2 h2
      have r3 := y_re_f0 re2 (y_st (y_rf re2.1.1) h2 (by repeat (first | exact w_nil | refine w_cons (Or.inl (y_m rfl)) ?_ | refine w_cons (Or.inr (by assumption)) ?_)) (by repeat (first | exact w_nil | refine w_cons (Or.inl (y_m rfl)) ?_ | refine w_cons (Or.inr (by assumption)) ?_)))
      refine y_restores r3.1.1 r3.2.1 (fun H3 f3 J3 => ⟨fun n e => (by cases e), ?_⟩)
      exact T174 (y_re_fr r3 f3 rfl rfl rfl J3)
    refine w_go z_hl [40, 170] [] 30 re.1.1 ?_
    intro x hx _ _
    obtain rfl := y_fi re.2.2 hx
    refine ⟨fun _ => fun H hH => T170 (y_re_f0 re (y_st (y_rf re.1.1) hH (by repeat (first | exact w_nil | refine w_cons (Or.inl (y_m rfl)) ?_ | refine w_cons (Or.inr (by assumption)) ?_)) (by repeat (first | exact w_nil | refine w_cons (Or.inl (y_m rfl)) ?_ | refine w_cons (Or.inr (by assumption)) ?_)))), fun q => ?_⟩
    have : ¬ ((Int32.ofInt 1 <<< (sp &&& 31)).toInt ≤ bI.toInt) := y_cif q
    omega
  | succ m ih =>
    intro G so bI bu bl k o9 o10 o11 o12 o13 re hk hm u0 l1
    have ink : (bI + Int32.ofInt 1).toInt = ((k + 1 : Nat) : Int) := by rw [y_inc (by omega), hk]; rfl
    have next : ∀ {H : aH} {so' : Int32} {bu' bl' : Int64} {o9 o10 o11 o12 o13 : Option Value}, y_re h H sp → 0 ≤ bu'.toInt → 1 ≤ bl'.toInt → aOK s_P X (d + 5) a_m250 164 [some (.ref 155), some (.int node), some (.int what), some (.int so'), some (.long bu'), none, some (.long bl'), none, some (.int bI), o9, o10, o11, o12, o13] [] H C S K0 := by
      intro H so' bu' bl' o9 o10 o11 o12 o13 re2 x0 x1
      refine w_go z_hl [40] [] 30 re2.1.1 ?_
      intro H2 h2
      exact ih H2 _ _ _ _ (k + 1) _ _ _ _ _ (y_re_f0 re2 (y_st (y_rf re2.1.1) h2 (by repeat (first | exact w_nil | refine w_cons (Or.inl (y_m rfl)) ?_ | refine w_cons (Or.inr (by assumption)) ?_)) (by repeat (first | exact w_nil | refine w_cons (Or.inl (y_m rfl)) ?_ | refine w_cons (Or.inr (by assumption)) ?_)))) ink (by omega) x0 x1
    have T131 : ∀ {H : aH} {wh its : Int64} {c : Int32} {o13 : Option Value}, y_re h H sp → 1 ≤ wh.toInt → 0 ≤ its.toInt → aOK s_P X (d + 5) a_m250 131 [some (.ref 155), some (.int node), some (.int what), some (.int so), some (.long bu), none, some (.long bl), none, some (.int bI), some (.long wh), none, some (.long its), none, o13] [.int c] H C S K0 := by
      intro H wh its c o13 re2 w1 i0
      have f0 : y_fr H H [] [] := y_rf re2.1.1
      refine w_go z_hl [164] [] 40 re2.1.1 ?_
      refine ⟨fun _ => fun H2 h2 => next (y_re_f0 re2 (y_st f0 h2 (by repeat (first | exact w_nil | refine w_cons (Or.inl (y_m rfl)) ?_ | refine w_cons (Or.inr (by assumption)) ?_)) (by repeat (first | exact w_nil | refine w_cons (Or.inl (y_m rfl)) ?_ | refine w_cons (Or.inr (by assumption)) ?_)))) i0 w1, fun _ => ⟨fun _ => ⟨fun _ => fun H2 h2 => next (y_re_f0 re2 (y_st f0 h2 (by repeat (first | exact w_nil | refine w_cons (Or.inl (y_m rfl)) ?_ | refine w_cons (Or.inr (by assumption)) ?_)) (by repeat (first | exact w_nil | refine w_cons (Or.inl (y_m rfl)) ?_ | refine w_cons (Or.inr (by assumption)) ?_)))) u0 l1, fun _ => fun H2 h2 => next (y_re_f0 re2 (y_st f0 h2 (by repeat (first | exact w_nil | refine w_cons (Or.inl (y_m rfl)) ?_ | refine w_cons (Or.inr (by assumption)) ?_)) (by repeat (first | exact w_nil | refine w_cons (Or.inl (y_m rfl)) ?_ | refine w_cons (Or.inr (by assumption)) ?_)))) i0 w1⟩, fun _ => ⟨fun _ => fun H2 h2 => next (y_re_f0 re2 (y_st f0 h2 (by repeat (first | exact w_nil | refine w_cons (Or.inl (y_m rfl)) ?_ | refine w_cons (Or.inr (by assumption)) ?_)) (by repeat (first | exact w_nil | refine w_cons (Or.inl (y_m rfl)) ?_ | refine w_cons (Or.inr (by assumption)) ?_)))) u0 l1, fun _ => fun H2 h2 => next (y_re_f0 re2 (y_st f0 h2 (by repeat (first | exact w_nil | refine w_cons (Or.inl (y_m rfl)) ?_ | refine w_cons (Or.inr (by assumption)) ?_)) (by repeat (first | exact w_nil | refine w_cons (Or.inl (y_m rfl)) ?_ | refine w_cons (Or.inr (by assumption)) ?_)))) i0 w1⟩⟩⟩
    have T127 : ∀ {H : aH} {wh its : Int64} {c : Int32} {o13 : Option Value}, y_re h H sp → 1 ≤ wh.toInt → 0 ≤ its.toInt → aOK s_P X (d + 5) a_m250 127 [some (.ref 155), some (.int node), some (.int what), some (.int so), some (.long bu), none, some (.long bl), none, some (.int bI), some (.long wh), none, some (.long its), none, o13] [.int c] H C S K0 := by
      intro H wh its c o13 re2 w1 i0
      refine w_go z_hl [131] [] 40 re2.1.1 ?_
      exact fun H2 h2 => T131 (y_re_f0 re2 (y_st (y_rf re2.1.1) h2 (by repeat (first | exact w_nil | refine w_cons (Or.inl (y_m rfl)) ?_ | refine w_cons (Or.inr (by assumption)) ?_)) (by repeat (first | exact w_nil | refine w_cons (Or.inl (y_m rfl)) ?_ | refine w_cons (Or.inr (by assumption)) ?_)))) w1 i0
    have T109 : ∀ {H : aH} {wh its : Int64} {o11 o12 o13 : Option Value}, y_re h H sp → 1 ≤ wh.toInt → 0 ≤ its.toInt → aOK s_P X (d + 5) a_m250 109 [some (.ref 155), some (.int node), some (.int what), some (.int so), some (.long bu), none, some (.long bl), none, some (.int bI), some (.long wh), none, o11, o12, o13] [.long its] H C S K0 := by
      intro H wh its o11 o12 o13 re2 w1 i0
      refine w_go z_hl [131] [203] 40 re2.1.1 ?_
      refine ⟨fun _ => fun H2 h2 => T131 (y_re_f0 re2 (y_st (y_rf re2.1.1) h2 (by repeat (first | exact w_nil | refine w_cons (Or.inl (y_m rfl)) ?_ | refine w_cons (Or.inr (by assumption)) ?_)) (by repeat (first | exact w_nil | refine w_cons (Or.inl (y_m rfl)) ?_ | refine w_cons (Or.inr (by assumption)) ?_)))) w1 i0, fun _ => fun H2 h2 => ?_⟩
      have r3 := y_re_f0 re2 (y_st (y_rf re2.1.1) h2 (by repeat (first | exact w_nil | refine w_cons (Or.inl (y_m rfl)) ?_ | refine w_cons (Or.inr (by assumption)) ?_)) (by repeat (first | exact w_nil | refine w_cons (Or.inl (y_m rfl)) ?_ | refine w_cons (Or.inr (by assumption)) ?_)))
      refine aOK_deep (d := d + 1) (by omega) (y_compares (b := wh) (e := bl) r3.1.1 (fun q => by rw [q] at w1; exact absurd w1 (by decide)) (fun q => by rw [q] at l1; exact absurd l1 (by decide)) (fun r H3 hr3 e3 => ⟨fun n e => (by cases e), ?_⟩))
      exact T127 (y_re_fr r3 e3 rfl rfl rfl (y_J_fr e3 rfl rfl r3.2.1)) w1 i0
    have T90 : ∀ {H : aH} {wl : List Int64} {wh : Int64} {x9 : Int32} {o10 o11 o12 o13 : Option Value}, y_re h H sp → y_wl H wl → 0 ≤ wh.toInt → aOK s_P X (d + 5) a_m250 90 [some (.ref 155), some (.int node), some (.int what), some (.int so), some (.long bu), none, some (.long bl), none, some (.int bI), some (.int x9), o10, o11, o12, o13] [.long wh] H C S K0 := by
      intro H wl wh x9 o10 o11 o12 o13 re2 hw w0
      refine w_go z_hl [164] [190] 40 re2.1.1 ?_
      refine ⟨fun q => fun H2 h2 => ?_, fun _ => fun H2 h2 => next (y_re_f0 re2 (y_st (y_rf re2.1.1) h2 (by repeat (first | exact w_nil | refine w_cons (Or.inl (y_m rfl)) ?_ | refine w_cons (Or.inr (by assumption)) ?_)) (by repeat (first | exact w_nil | refine w_cons (Or.inl (y_m rfl)) ?_ | refine w_cons (Or.inr (by assumption)) ?_)))) u0 l1⟩
      have q2 : wh.toInt ≠ (Int64.ofNat 0).toInt := (y_cl .ne _ _).mp q
      rw [show (Int64.ofNat 0).toInt = 0 by decide] at q2
      have f : y_fr H H2 [] [] := y_st (y_rf re2.1.1) h2 (by repeat (first | exact w_nil | refine w_cons (Or.inl (y_m rfl)) ?_ | refine w_cons (Or.inr (by assumption)) ?_)) (by repeat (first | exact w_nil | refine w_cons (Or.inl (y_m rfl)) ?_ | refine w_cons (Or.inr (by assumption)) ?_))
      have r3 := y_re_f0 re2 f
      obtain ⟨nd, sa, wc⟩ := y_wcJ r3.1.1 r3.2.1 (y_wl_fr f (fun q => by cases q) hw)
      refine aOK_deep (d := d + 2) (by omega) (q_nowWith (b := true) wc (fun r H3 e3 r0 _ => ⟨fun n e => (by cases e), ?_⟩))
      exact T109 (y_re_f0 r3 e3) (by omega) r0
    have T86 : ∀ {H : aH} {wl : List Int64} {x9 : Int32} {o10 o11 o12 o13 : Option Value}, y_re h H sp → y_wl H wl → aOK s_P X (d + 5) a_m250 86 [some (.ref 155), some (.int node), some (.int what), some (.int so), some (.long bu), none, some (.long bl), none, some (.int bI), some (.int x9), o10, o11, o12, o13] [] H C S K0 := by
      intro H wl x9 o10 o11 o12 o13 re2 hw
      refine w_go z_hl [] [189] 40 re2.1.1 ?_
      intro H2 h2
      have f : y_fr H H2 [] [] := y_st (y_rf re2.1.1) h2 (by repeat (first | exact w_nil | refine w_cons (Or.inl (y_m rfl)) ?_ | refine w_cons (Or.inr (by assumption)) ?_)) (by repeat (first | exact w_nil | refine w_cons (Or.inl (y_m rfl)) ?_ | refine w_cons (Or.inr (by assumption)) ?_))
      have r3 := y_re_f0 re2 f
      obtain ⟨nd, sa, wc⟩ := y_wcJ r3.1.1 r3.2.1 (y_wl_fr f (fun q => by cases q) hw)
      refine aOK_deep (d := d + 3) (by omega) (q_now wc (fun r H3 e3 r0 _ => ⟨fun n e => (by cases e), ?_⟩))
      exact T90 (y_re_f0 r3 e3) (y_wl_fr (y_sq f e3 rfl rfl : y_fr H H3 [] []) (fun q => by cases q) hw) r0
    have T82 : ∀ {H : aH} {x9 : Int32} {o10 o11 o12 o13 : Option Value}, y_re h H sp → aOK s_P X (d + 5) a_m250 82 [some (.ref 155), some (.int node), some (.int what), some (.int so), some (.long bu), none, some (.long bl), none, some (.int bI), some (.int x9), o10, o11, o12, o13] [] H C S K0 := by
      intro H x9 o10 o11 o12 o13 re2
      refine w_go z_hl [] [188] 40 re2.1.1 ?_
      intro H2 h2
      have r3 := y_re_f0 re2 (y_st (y_rf re2.1.1) h2 (by repeat (first | exact w_nil | refine w_cons (Or.inl (y_m rfl)) ?_ | refine w_cons (Or.inr (by assumption)) ?_)) (by repeat (first | exact w_nil | refine w_cons (Or.inl (y_m rfl)) ?_ | refine w_cons (Or.inr (by assumption)) ?_)))
      refine aOK_deep (d := d + 2) (by omega) (q_weighsUp r3.1.1 r3.2.1 (fun wl H3 e3 J3 hw => ⟨fun n e => (by cases e), ?_⟩))
      exact T86 (y_re_fr r3 e3 rfl rfl rfl J3) hw
    refine w_go z_hl [40, 54] [] 30 re.1.1 ?_
    intro x hx _ _
    obtain rfl := y_fi re.2.2 hx
    refine ⟨fun q => ?_, fun _ => fun H hH => ?_⟩
    · have : (Int32.ofInt 1 <<< (sp &&& 31)).toInt ≤ bI.toInt := (y_ci .ge _ _).mp q
      omega
    · exact y_reach_in s0 s6 sp.toInt.toNat H _ 0 _ _ _ _ (y_re_f0 re (y_st (y_rf re.1.1) hH (by repeat (first | exact w_nil | refine w_cons (Or.inl (y_m rfl)) ?_ | refine w_cons (Or.inr (by assumption)) ?_)) (by repeat (first | exact w_nil | refine w_cons (Or.inl (y_m rfl)) ?_ | refine w_cons (Or.inr (by assumption)) ?_)))) rfl (by omega) (fun H2 k' o10 o11 o12 o13 re2 => T82 re2)
theorem p_reach (hr : w_hr z_D h) (hJ : y_J h) {node what : Int32} (hk : ∀ (r : Int32) (H : aH), y_fr h H [19584, 19585, 19587, 19588] [154, 155, 158, 163, 176] → y_J H → K0 (some (.int r)) H C S) : aOK s_P X (d + 5) a_m250 0 [some (.ref 155), some (.int node), some (.int what), none, none, none, none, none, none, none, none, none, none, none] [] h C S K0 := by
  obtain ⟨nd, sm, so, sa, s1, s2, s3, s4, s5⟩ := id hJ.2.2.2.2.1
  obtain ⟨sp, g, sp0, sp6⟩ := y_spE hr
  have out : ∀ {G : aH} {r : Int32}, y_fr h G [19584] [] → K0 (some (.int r)) G C S := fun g => hk _ _ (y_mo g rfl rfl) (y_J_fr g rfl rfl hJ)
  have T29 : ∀ {G : aH}, y_re h G sp → aOK s_P X (d + 5) a_m250 29 [some (.ref 155), some (.int node), some (.int what), none, none, none, none, none, none, none, none, none, none, none] [] G C S K0 := by
    intro G re
    refine w_go z_hl [40] [] 30 re.1.1 ?_
    intro H hH
    exact y_reach_loop sp0 sp6 hk (y_ways sp) H _ _ _ _ 0 _ _ _ _ _ (y_re_f0 re (y_st (y_rf re.1.1) hH (by repeat (first | exact w_nil | refine w_cons (Or.inl (y_m rfl)) ?_ | refine w_cons (Or.inr (by assumption)) ?_)) (by repeat (first | exact w_nil | refine w_cons (Or.inl (y_m rfl)) ?_ | refine w_cons (Or.inr (by assumption)) ?_)))) rfl (by omega) (by decide) (by decide)
  have T20 : ∀ {G : aH}, y_fr h G [19584] [] → aOK s_P X (d + 5) a_m250 20 [some (.ref 155), some (.int node), some (.int what), none, none, none, none, none, none, none, none, none, none, none] [.int (y_01 true)] G C S K0 := by
    intro G e
    refine w_go z_hl [] [251] 30 e.1 ?_
    refine ⟨fun _ => fun H hH => ?_, fun q => absurd q (by decide)⟩
    have e2 := y_st e hH (by repeat (first | exact w_nil | refine w_cons (Or.inl (y_m rfl)) ?_ | refine w_cons (Or.inr (by assumption)) ?_)) (by repeat (first | exact w_nil | refine w_cons (Or.inl (y_m rfl)) ?_ | refine w_cons (Or.inr (by assumption)) ?_))
    refine aOK_deep (d := d + 1) (by omega) (y_remembers e2.1 (y_J_fr e2 rfl rfl hJ) (fun H3 f3 J3 => ⟨fun n e => (by cases e), ?_⟩))
    have e3 : y_fr h H3 [19584] [176] := y_sq (y_mo e2 rfl rfl) f3 rfl rfl
    exact T29 ⟨y_mo e3 rfl rfl, J3, (y_fe e3 rfl).trans g⟩
  have T20n : ∀ {G : aH}, y_fr h G [19584] [] → aOK s_P X (d + 5) a_m250 20 [some (.ref 155), some (.int node), some (.int what), none, none, none, none, none, none, none, none, none, none, none] [.int (y_01 false)] G C S K0 := by
    intro G e
    refine w_go z_hl [] [] 30 e.1 ?_
    exact ⟨fun q => absurd q (by decide), fun _ => fun H hH => out (y_st e hH (by repeat (first | exact w_nil | refine w_cons (Or.inl (y_m rfl)) ?_ | refine w_cons (Or.inr (by assumption)) ?_)) (by repeat (first | exact w_nil | refine w_cons (Or.inl (y_m rfl)) ?_ | refine w_cons (Or.inr (by assumption)) ?_)))⟩
  have T10 : ∀ {G : aH}, y_fr h G [19584] [] → aOK s_P X (d + 5) a_m250 10 [some (.ref 155), some (.int node), some (.int what), none, none, none, none, none, none, none, none, none, none, none] [.int (y_01 true)] G C S K0 := by
    intro G e
    refine w_go z_hl [] [176] 30 e.1 ?_
    refine ⟨fun q => absurd q (by decide), fun _ => fun H hH => ?_⟩
    have e2 := y_st e hH (by repeat (first | exact w_nil | refine w_cons (Or.inl (y_m rfl)) ?_ | refine w_cons (Or.inr (by assumption)) ?_)) (by repeat (first | exact w_nil | refine w_cons (Or.inl (y_m rfl)) ?_ | refine w_cons (Or.inr (by assumption)) ?_))
    refine q_in e2.1 (fun H3 h3 _ _ => ⟨fun n e => (by cases e), ?_⟩) (fun H3 h3 _ => ⟨fun n e => (by cases e), ?_⟩)
    · exact T20 (y_sq e2 h3 rfl rfl)
    · exact T20n (y_sq e2 h3 rfl rfl)
  have T10n : ∀ {G : aH}, y_fr h G [19584] [] → aOK s_P X (d + 5) a_m250 10 [some (.ref 155), some (.int node), some (.int what), none, none, none, none, none, none, none, none, none, none, none] [.int (y_01 false)] G C S K0 := by
    intro G e
    refine w_go z_hl [] [] 30 e.1 ?_
    exact ⟨fun _ => fun H hH => out (y_st e hH (by repeat (first | exact w_nil | refine w_cons (Or.inl (y_m rfl)) ?_ | refine w_cons (Or.inr (by assumption)) ?_)) (by repeat (first | exact w_nil | refine w_cons (Or.inl (y_m rfl)) ?_ | refine w_cons (Or.inr (by assumption)) ?_))), fun q => absurd q (by decide)⟩
  refine w_go z_hl [] [178] 30 hr ?_
  refine ⟨rfl, y_zini (by decide) (by decide), fun H1 h1 => ?_⟩
  have e1 : y_fr h H1 [19584] [] := y_st (y_mo (y_rf hr) rfl rfl) h1 (by repeat (first | exact w_nil | refine w_cons (Or.inl (y_m rfl)) ?_ | refine w_cons (Or.inr (by assumption)) ?_)) (by repeat (first | exact w_nil | refine w_cons (Or.inl (y_m rfl)) ?_ | refine w_cons (Or.inr (by assumption)) ?_))
  refine q_isNode (v := node) e1.1 ((y_fe e1 rfl).trans s1) (fun H2 v h2 hv hv2 hvc => ⟨fun n e => (by cases e), ?_⟩) (fun H2 h2 => ⟨fun n e => (by cases e), ?_⟩)
  · exact T10 (y_sq e1 h2 rfl rfl)
  · exact T10n (y_sq e1 h2 rfl rfl)
theorem y_leans_loop {sp node : Int32} (s0 : 0 ≤ sp.toInt) (s6 : sp.toInt ≤ 6) (hK : ∀ (r : Int32) (H : aH), y_fr h H [19584, 19585, 19587, 19588] [154, 155, 158, 163, 176] → y_J H → K0 (some (.int r)) H C S) : ∀ (m : Nat) (G : aH) (bi kI : Int32) (k : Nat) (o4 o6 o8 o10 : Option Value), y_re h G sp → kI.toInt = k → (k : Int) + m = sp.toInt → aOK s_P X (d + 5) a_m254 39 [some (.ref 155), some (.int node), some (.int bi), some (.int kI), o4, none, o6, none, o8, none, o10, none] [] G C S K0 := by
  intro m
  induction m with
  | zero =>
    intro G bi kI k o4 o6 o8 o10 re hk hm
    refine w_go z_hl [39] [] 30 re.1.1 ?_
    intro x hx _ _
    obtain rfl := y_fi re.2.2 hx
    refine ⟨fun _ => fun H hH => ?_, fun q => ?_⟩
    · have r3 := y_re_f0 re (y_st (y_rf re.1.1) hH (by repeat (first | exact w_nil | refine w_cons (Or.inl (y_m rfl)) ?_ | refine w_cons (Or.inr (by assumption)) ?_)) (by repeat (first | exact w_nil | refine w_cons (Or.inl (y_m rfl)) ?_ | refine w_cons (Or.inr (by assumption)) ?_)))
      exact hK _ H r3.1 r3.2.1
    · have : ¬ (sp.toInt ≤ kI.toInt) := y_cif q
      omega
  | succ m ih =>
    intro G bi kI k o4 o6 o8 o10 re hk hm
    have ink : (kI + Int32.ofInt 1).toInt = ((k + 1 : Nat) : Int) := by rw [y_inc (by omega), hk]; rfl
    have next : ∀ {H : aH} {x : Int32} {o4 o6 o8 o10 : Option Value}, y_re h H sp → aOK s_P X (d + 5) a_m254 138 [some (.ref 155), some (.int node), some (.int bi), some (.int kI), o4, none, o6, none, o8, none, o10, none] [.int x, .int bi] H C S K0 := by
      intro H x o4 o6 o8 o10 re2
      refine w_go z_hl [39] [] 30 re2.1.1 ?_
      intro H2 h2
      exact ih H2 _ _ (k + 1) _ _ _ _ (y_re_f0 re2 (y_st (y_rf re2.1.1) h2 (by repeat (first | exact w_nil | refine w_cons (Or.inl (y_m rfl)) ?_ | refine w_cons (Or.inr (by assumption)) ?_)) (by repeat (first | exact w_nil | refine w_cons (Or.inl (y_m rfl)) ?_ | refine w_cons (Or.inr (by assumption)) ?_)))) ink (by omega)
    have T128 : ∀ {H : aH} {c : Int32} {o4 o6 o8 o10 : Option Value}, y_re h H sp → aOK s_P X (d + 5) a_m254 128 [some (.ref 155), some (.int node), some (.int bi), some (.int kI), o4, none, o6, none, o8, none, o10, none] [.int c, .int bi] H C S K0 := by
      intro H c o4 o6 o8 o10 re2
      refine w_go z_hl [138] [] 30 re2.1.1 ?_
      exact ⟨fun _ => fun H2 h2 => next (y_re_f0 re2 (y_st (y_rf re2.1.1) h2 (by repeat (first | exact w_nil | refine w_cons (Or.inl (y_m rfl)) ?_ | refine w_cons (Or.inr (by assumption)) ?_)) (by repeat (first | exact w_nil | refine w_cons (Or.inl (y_m rfl)) ?_ | refine w_cons (Or.inr (by assumption)) ?_)))), fun _ => fun H2 h2 => next (y_re_f0 re2 (y_st (y_rf re2.1.1) h2 (by repeat (first | exact w_nil | refine w_cons (Or.inl (y_m rfl)) ?_ | refine w_cons (Or.inr (by assumption)) ?_)) (by repeat (first | exact w_nil | refine w_cons (Or.inl (y_m rfl)) ?_ | refine w_cons (Or.inr (by assumption)) ?_))))⟩
    have T101 : ∀ {H : aH} {a b c e : Int64}, y_re h H sp → aOK s_P X (d + 5) a_m254 101 [some (.ref 155), some (.int node), some (.int bi), some (.int kI), some (.long a), none, some (.long b), none, some (.long c), none, some (.long e), none] [] H C S K0 := by
      intro H a b c e re2
      refine w_go z_hl [138] [203] 40 re2.1.1 ?_
      refine ⟨fun _ => fun H2 h2 => next (y_re_f0 re2 (y_st (y_rf re2.1.1) h2 (by repeat (first | exact w_nil | refine w_cons (Or.inl (y_m rfl)) ?_ | refine w_cons (Or.inr (by assumption)) ?_)) (by repeat (first | exact w_nil | refine w_cons (Or.inl (y_m rfl)) ?_ | refine w_cons (Or.inr (by assumption)) ?_)))), fun q1 => ⟨fun _ => fun H2 h2 => next (y_re_f0 re2 (y_st (y_rf re2.1.1) h2 (by repeat (first | exact w_nil | refine w_cons (Or.inl (y_m rfl)) ?_ | refine w_cons (Or.inr (by assumption)) ?_)) (by repeat (first | exact w_nil | refine w_cons (Or.inl (y_m rfl)) ?_ | refine w_cons (Or.inr (by assumption)) ?_)))), fun q2 => fun H2 h2 => ?_⟩⟩
      have x1 : ¬ (b.toInt ≤ (Int64.ofNat 0).toInt) := y_clf q1
      have x2 : ¬ (e.toInt ≤ (Int64.ofNat 0).toInt) := y_clf q2
      have r3 := y_re_f0 re2 (y_st (y_rf re2.1.1) h2 (by repeat (first | exact w_nil | refine w_cons (Or.inl (y_m rfl)) ?_ | refine w_cons (Or.inr (by assumption)) ?_)) (by repeat (first | exact w_nil | refine w_cons (Or.inl (y_m rfl)) ?_ | refine w_cons (Or.inr (by assumption)) ?_)))
      refine aOK_deep (d := d + 1) (by omega) (y_compares (b := b) (e := e) r3.1.1 (fun q => by rw [q] at x1; exact x1 (by decide)) (fun q => by rw [q] at x2; exact x2 (by decide)) (fun r H3 hr3 e3 => ⟨fun n e => (by cases e), ?_⟩))
      exact T128 (y_re_fr r3 e3 rfl rfl rfl (y_J_fr e3 rfl rfl r3.2.1))
    have T95 : ∀ {H : aH} {a b c e : Int64} {o10 : Option Value}, y_re h H sp → aOK s_P X (d + 5) a_m254 95 [some (.ref 155), some (.int node), some (.int bi), some (.int kI), some (.long a), none, some (.long b), none, some (.long c), none, o10, none] [.long e] H C S K0 := by
      intro H a b c e o10 re2
      refine w_go z_hl [] [253] 30 re2.1.1 ?_
      intro H2 h2
      have r3 := y_re_f0 re2 (y_st (y_rf re2.1.1) h2 (by repeat (first | exact w_nil | refine w_cons (Or.inl (y_m rfl)) ?_ | refine w_cons (Or.inr (by assumption)) ?_)) (by repeat (first | exact w_nil | refine w_cons (Or.inl (y_m rfl)) ?_ | refine w_cons (Or.inr (by assumption)) ?_)))
      refine y_restores r3.1.1 r3.2.1 (fun H3 f3 J3 => ⟨fun n e => (by cases e), ?_⟩)
      exact T101 (y_re_fr r3 f3 rfl rfl rfl J3)
    have T89 : ∀ {H : aH} {wl : List Int64} {a b c : Int64} {o8 o10 : Option Value}, y_re h H sp → y_wl H wl → aOK s_P X (d + 5) a_m254 89 [some (.ref 155), some (.int node), some (.int bi), some (.int kI), some (.long a), none, some (.long b), none, o8, none, o10, none] [.long c] H C S K0 := by
      intro H wl a b c o8 o10 re2 hw
      refine w_go z_hl [] [189] 30 re2.1.1 ?_
      intro H2 h2
      have f : y_fr H H2 [] [] := y_st (y_rf re2.1.1) h2 (by repeat (first | exact w_nil | refine w_cons (Or.inl (y_m rfl)) ?_ | refine w_cons (Or.inr (by assumption)) ?_)) (by repeat (first | exact w_nil | refine w_cons (Or.inl (y_m rfl)) ?_ | refine w_cons (Or.inr (by assumption)) ?_))
      have r3 := y_re_f0 re2 f
      obtain ⟨nd, sa, wc⟩ := y_wcJ r3.1.1 r3.2.1 (y_wl_fr f (fun q => by cases q) hw)
      refine aOK_deep (d := d + 3) (by omega) (q_now wc (fun r H3 e3 r0 _ => ⟨fun n e => (by cases e), ?_⟩))
      exact T95 (y_re_f0 r3 e3)
    have T82 : ∀ {H : aH} {wl : List Int64} {a b : Int64} {o8 o10 : Option Value}, y_re h H sp → y_wl H wl → aOK s_P X (d + 5) a_m254 82 [some (.ref 155), some (.int node), some (.int bi), some (.int kI), some (.long a), none, some (.long b), none, o8, none, o10, none] [] H C S K0 := by
      intro H wl a b o8 o10 re2 hw
      refine w_go z_hl [] [190] 30 re2.1.1 ?_
      intro H2 h2
      have f : y_fr H H2 [] [] := y_st (y_rf re2.1.1) h2 (by repeat (first | exact w_nil | refine w_cons (Or.inl (y_m rfl)) ?_ | refine w_cons (Or.inr (by assumption)) ?_)) (by repeat (first | exact w_nil | refine w_cons (Or.inl (y_m rfl)) ?_ | refine w_cons (Or.inr (by assumption)) ?_))
      have r3 := y_re_f0 re2 f
      obtain ⟨nd, sa, wc⟩ := y_wcJ r3.1.1 r3.2.1 (y_wl_fr f (fun q => by cases q) hw)
      refine aOK_deep (d := d + 2) (by omega) (q_nowWith (b := true) wc (fun r H3 e3 r0 _ => ⟨fun n e => (by cases e), ?_⟩))
      exact T89 (y_re_f0 r3 e3) (y_wl_fr (y_sq f e3 rfl rfl : y_fr H H3 [] []) (fun q => by cases q) hw)
    have T78 : ∀ {H : aH} {a b : Int64} {o8 o10 : Option Value}, y_re h H sp → aOK s_P X (d + 5) a_m254 78 [some (.ref 155), some (.int node), some (.int bi), some (.int kI), some (.long a), none, some (.long b), none, o8, none, o10, none] [] H C S K0 := by
      intro H a b o8 o10 re2
      refine w_go z_hl [] [188] 40 re2.1.1 ?_
      intro H2 h2
      have r3 := y_re_f0 re2 (y_st (y_rf re2.1.1) h2 (by repeat (first | exact w_nil | refine w_cons (Or.inl (y_m rfl)) ?_ | refine w_cons (Or.inr (by assumption)) ?_)) (by repeat (first | exact w_nil | refine w_cons (Or.inl (y_m rfl)) ?_ | refine w_cons (Or.inr (by assumption)) ?_)))
      refine aOK_deep (d := d + 2) (by omega) (q_weighsUp r3.1.1 r3.2.1 (fun wl H3 e3 J3 hw => ⟨fun n e => (by cases e), ?_⟩))
      exact T82 (y_re_fr r3 e3 rfl rfl rfl J3) hw
    have T70 : ∀ {H : aH} {a b : Int64} {o6 o8 o10 : Option Value}, y_re h H sp → aOK s_P X (d + 5) a_m254 70 [some (.ref 155), some (.int node), some (.int bi), some (.int kI), some (.long a), none, o6, none, o8, none, o10, none] [.long b] H C S K0 := by
      intro H a b o6 o8 o10 re2
      refine w_go z_hl [] [252] 30 re2.1.1 ?_
      intro H2 h2
      have r3 := y_re_f0 re2 (y_st (y_rf re2.1.1) h2 (by repeat (first | exact w_nil | refine w_cons (Or.inl (y_m rfl)) ?_ | refine w_cons (Or.inr (by assumption)) ?_)) (by repeat (first | exact w_nil | refine w_cons (Or.inl (y_m rfl)) ?_ | refine w_cons (Or.inr (by assumption)) ?_)))
      refine y_lays r3.1.1 r3.2.1 (by omega) (by omega) (fun H3 f3 J3 => ⟨fun n e => (by cases e), ?_⟩)
      exact T78 (y_re_fr r3 f3 rfl rfl rfl J3)
    have T64 : ∀ {H : aH} {wl : List Int64} {a : Int64} {o4 o6 o8 o10 : Option Value}, y_re h H sp → y_wl H wl → aOK s_P X (d + 5) a_m254 64 [some (.ref 155), some (.int node), some (.int bi), some (.int kI), o4, none, o6, none, o8, none, o10, none] [.long a] H C S K0 := by
      intro H wl a o4 o6 o8 o10 re2 hw
      refine w_go z_hl [] [189] 30 re2.1.1 ?_
      intro H2 h2
      have f : y_fr H H2 [] [] := y_st (y_rf re2.1.1) h2 (by repeat (first | exact w_nil | refine w_cons (Or.inl (y_m rfl)) ?_ | refine w_cons (Or.inr (by assumption)) ?_)) (by repeat (first | exact w_nil | refine w_cons (Or.inl (y_m rfl)) ?_ | refine w_cons (Or.inr (by assumption)) ?_))
      have r3 := y_re_f0 re2 f
      obtain ⟨nd, sa, wc⟩ := y_wcJ r3.1.1 r3.2.1 (y_wl_fr f (fun q => by cases q) hw)
      refine aOK_deep (d := d + 3) (by omega) (q_now wc (fun r H3 e3 r0 _ => ⟨fun n e => (by cases e), ?_⟩))
      exact T70 (y_re_f0 r3 e3)
    have T57 : ∀ {H : aH} {wl : List Int64} {o4 o6 o8 o10 : Option Value}, y_re h H sp → y_wl H wl → aOK s_P X (d + 5) a_m254 57 [some (.ref 155), some (.int node), some (.int bi), some (.int kI), o4, none, o6, none, o8, none, o10, none] [] H C S K0 := by
      intro H wl o4 o6 o8 o10 re2 hw
      refine w_go z_hl [] [190] 30 re2.1.1 ?_
      intro H2 h2
      have f : y_fr H H2 [] [] := y_st (y_rf re2.1.1) h2 (by repeat (first | exact w_nil | refine w_cons (Or.inl (y_m rfl)) ?_ | refine w_cons (Or.inr (by assumption)) ?_)) (by repeat (first | exact w_nil | refine w_cons (Or.inl (y_m rfl)) ?_ | refine w_cons (Or.inr (by assumption)) ?_))
      have r3 := y_re_f0 re2 f
      obtain ⟨nd, sa, wc⟩ := y_wcJ r3.1.1 r3.2.1 (y_wl_fr f (fun q => by cases q) hw)
      refine aOK_deep (d := d + 2) (by omega) (q_nowWith (b := true) wc (fun r H3 e3 r0 _ => ⟨fun n e => (by cases e), ?_⟩))
      exact T64 (y_re_f0 r3 e3) (y_wl_fr (y_sq f e3 rfl rfl : y_fr H H3 [] []) (fun q => by cases q) hw)
    have T53 : ∀ {H : aH} {o4 o6 o8 o10 : Option Value}, y_re h H sp → aOK s_P X (d + 5) a_m254 53 [some (.ref 155), some (.int node), some (.int bi), some (.int kI), o4, none, o6, none, o8, none, o10, none] [] H C S K0 := by
      intro H o4 o6 o8 o10 re2
      refine w_go z_hl [] [188] 40 re2.1.1 ?_
      intro H2 h2
      have r3 := y_re_f0 re2 (y_st (y_rf re2.1.1) h2 (by repeat (first | exact w_nil | refine w_cons (Or.inl (y_m rfl)) ?_ | refine w_cons (Or.inr (by assumption)) ?_)) (by repeat (first | exact w_nil | refine w_cons (Or.inl (y_m rfl)) ?_ | refine w_cons (Or.inr (by assumption)) ?_)))
      refine aOK_deep (d := d + 2) (by omega) (q_weighsUp r3.1.1 r3.2.1 (fun wl H3 e3 J3 hw => ⟨fun n e => (by cases e), ?_⟩))
      exact T57 (y_re_fr r3 e3 rfl rfl rfl J3) hw
    refine w_go z_hl [39] [252] 30 re.1.1 ?_
    intro x hx _ _
    obtain rfl := y_fi re.2.2 hx
    refine ⟨fun q => ?_, fun _ => fun H hH => ?_⟩
    · have : sp.toInt ≤ kI.toInt := (y_ci .ge _ _).mp q
      omega
    · have r3 := y_re_f0 re (y_st (y_rf re.1.1) hH (by repeat (first | exact w_nil | refine w_cons (Or.inl (y_m rfl)) ?_ | refine w_cons (Or.inr (by assumption)) ?_)) (by repeat (first | exact w_nil | refine w_cons (Or.inl (y_m rfl)) ?_ | refine w_cons (Or.inr (by assumption)) ?_)))
      refine y_lays r3.1.1 r3.2.1 (by omega) (by omega) (fun H3 f3 J3 => ⟨fun n e => (by cases e), ?_⟩)
      exact T53 (y_re_fr r3 f3 rfl rfl rfl J3)
theorem p_leans (hr : w_hr z_D h) (hJ : y_J h) {node : Int32} (hk : ∀ (r : Int32) (H : aH), y_fr h H [19584, 19585, 19587, 19588] [154, 155, 158, 163, 176] → y_J H → K0 (some (.int r)) H C S) : aOK s_P X (d + 5) a_m254 0 [some (.ref 155), some (.int node), none, none, none, none, none, none, none, none, none, none] [] h C S K0 := by
  obtain ⟨nd, sm, so, sa, s1, s2, s3, s4, s5⟩ := id hJ.2.2.2.2.1
  obtain ⟨sp, g, sp0, sp6⟩ := y_spE hr
  have out : ∀ {G : aH} {r : Int32}, y_fr h G [19584] [] → K0 (some (.int r)) G C S := fun g => hk _ _ (y_mo g rfl rfl) (y_J_fr g rfl rfl hJ)
  have T35 : ∀ {G : aH}, y_re h G sp → aOK s_P X (d + 5) a_m254 35 [some (.ref 155), some (.int node), none, none, none, none, none, none, none, none, none, none] [] G C S K0 := by
    intro G re
    refine w_go z_hl [39] [] 30 re.1.1 ?_
    intro H hH
    exact y_leans_loop sp0 sp6 hk sp.toInt.toNat H _ _ 0 _ _ _ _ (y_re_f0 re (y_st (y_rf re.1.1) hH (by repeat (first | exact w_nil | refine w_cons (Or.inl (y_m rfl)) ?_ | refine w_cons (Or.inr (by assumption)) ?_)) (by repeat (first | exact w_nil | refine w_cons (Or.inl (y_m rfl)) ?_ | refine w_cons (Or.inr (by assumption)) ?_)))) rfl (by omega)
  have T23 : ∀ {G : aH} {x : Int64}, y_re h G sp → aOK s_P X (d + 5) a_m254 23 [some (.ref 155), some (.int node), none, none, none, none, none, none, none, none, none, none] [.long x] G C S K0 := by
    intro G x re
    refine w_go z_hl [] [251] 30 re.1.1 ?_
    refine ⟨fun _ => fun H hH => ?_, fun _ => fun H hH => ?_⟩
    · have r3 := y_re_f0 re (y_st (y_rf re.1.1) hH (by repeat (first | exact w_nil | refine w_cons (Or.inl (y_m rfl)) ?_ | refine w_cons (Or.inr (by assumption)) ?_)) (by repeat (first | exact w_nil | refine w_cons (Or.inl (y_m rfl)) ?_ | refine w_cons (Or.inr (by assumption)) ?_)))
      refine y_remembers r3.1.1 r3.2.1 (fun H3 f3 J3 => ⟨fun n e => (by cases e), ?_⟩)
      exact T35 (y_re_fr r3 f3 rfl rfl rfl J3)
    · have r3 := y_re_f0 re (y_st (y_rf re.1.1) hH (by repeat (first | exact w_nil | refine w_cons (Or.inl (y_m rfl)) ?_ | refine w_cons (Or.inr (by assumption)) ?_)) (by repeat (first | exact w_nil | refine w_cons (Or.inl (y_m rfl)) ?_ | refine w_cons (Or.inr (by assumption)) ?_)))
      exact hk _ H r3.1 r3.2.1
  have T19 : ∀ {G : aH} {wl : List Int64}, y_re h G sp → y_wl G wl → aOK s_P X (d + 5) a_m254 19 [some (.ref 155), some (.int node), none, none, none, none, none, none, none, none, none, none] [] G C S K0 := by
    intro G wl re hw
    refine w_go z_hl [] [189] 30 re.1.1 ?_
    intro H hH
    have f : y_fr G H [] [] := y_st (y_rf re.1.1) hH (by repeat (first | exact w_nil | refine w_cons (Or.inl (y_m rfl)) ?_ | refine w_cons (Or.inr (by assumption)) ?_)) (by repeat (first | exact w_nil | refine w_cons (Or.inl (y_m rfl)) ?_ | refine w_cons (Or.inr (by assumption)) ?_))
    have r3 := y_re_f0 re f
    obtain ⟨nd, sa, wc⟩ := y_wcJ r3.1.1 r3.2.1 (y_wl_fr f (fun q => by cases q) hw)
    refine aOK_deep (d := d + 3) (by omega) (q_now wc (fun r H3 e3 r0 _ => ⟨fun n e => (by cases e), ?_⟩))
    exact T23 (y_re_f0 r3 e3)
  have T10 : ∀ {G : aH} {b : Bool}, y_fr h G [19584] [] → aOK s_P X (d + 5) a_m254 10 [some (.ref 155), some (.int node), none, none, none, none, none, none, none, none, none, none] [.int (y_01 b)] G C S K0 := by
    intro G b e
    refine w_go z_hl [] [188] 30 e.1 ?_
    refine ⟨fun _ => fun H hH => ?_, fun _ => fun H hH => out (y_st e hH (by repeat (first | exact w_nil | refine w_cons (Or.inl (y_m rfl)) ?_ | refine w_cons (Or.inr (by assumption)) ?_)) (by repeat (first | exact w_nil | refine w_cons (Or.inl (y_m rfl)) ?_ | refine w_cons (Or.inr (by assumption)) ?_)))⟩
    have e2 := y_st e hH (by repeat (first | exact w_nil | refine w_cons (Or.inl (y_m rfl)) ?_ | refine w_cons (Or.inr (by assumption)) ?_)) (by repeat (first | exact w_nil | refine w_cons (Or.inl (y_m rfl)) ?_ | refine w_cons (Or.inr (by assumption)) ?_))
    refine aOK_deep (d := d + 2) (by omega) (q_weighsUp e2.1 (y_J_fr e2 rfl rfl hJ) (fun wl H3 e3 J3 hw => ⟨fun n e => (by cases e), ?_⟩))
    have e4 : y_fr h H3 [19584] [163] := y_sq (y_mo e2 rfl rfl) e3 rfl rfl
    exact T19 ⟨y_mo e4 rfl rfl, J3, (y_fe e4 rfl).trans g⟩ hw
  refine w_go z_hl [] [178] 30 hr ?_
  refine ⟨rfl, y_zini (by decide) (by decide), fun H1 h1 => ?_⟩
  have e1 : y_fr h H1 [19584] [] := y_st (y_mo (y_rf hr) rfl rfl) h1 (by repeat (first | exact w_nil | refine w_cons (Or.inl (y_m rfl)) ?_ | refine w_cons (Or.inr (by assumption)) ?_)) (by repeat (first | exact w_nil | refine w_cons (Or.inl (y_m rfl)) ?_ | refine w_cons (Or.inr (by assumption)) ?_))
  refine q_isNode (v := node) e1.1 ((y_fe e1 rfl).trans s1) (fun H2 v h2 hv hv2 hvc => ⟨fun n e => (by cases e), ?_⟩) (fun H2 h2 => ⟨fun n e => (by cases e), ?_⟩)
  · exact T10 (y_sq e1 h2 rfl rfl)
  · exact T10 (y_sq e1 h2 rfl rfl)
end WG
