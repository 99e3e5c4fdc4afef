/-! ===== v3: the reference's so, term, slip, which ===== -/
section WG
variable {X : aX} {C S d : Nat} {K0 : Option Value → aH → Nat → Nat → Prop}
theorem y_isSaying {h : aH} (hr : w_hr z_D h) {v sy : Int32} (hn : w_f h 19603 = some (.int sy)) (yes : ∀ H (vv : Nat), y_fr h H [] [] → v.toInt = vv → (vv : Int) < sy.toInt → K0 (some (.int (y_01 true))) H C S) (no : ∀ H, y_fr h H [] [] → K0 (some (.int (y_01 false))) H C S) : aOK s_P X (d + 1) a_m234 0 [some (.ref 155), some (.int v)] [] h C S K0 := by
  obtain ⟨b1, b2⟩ := y_syb hr hn
  have T13 : ∀ {G : aH} {b : Bool}, y_fr h G [] [] → (b = true → 0 ≤ v.toInt ∧ v.toInt < sy.toInt) → aOK s_P X (d + 1) a_m234 13 [some (.ref 155), some (.int v)] [.int (y_01 b)] G C S K0 := by
    intro G b e hb
    refine w_go z_hl [] [] 30 e.1 ?_
    refine ⟨y_01b b, fun H hH => ?_⟩
    cases b with
    | true =>
      have := hb rfl
      exact yes H v.toInt.toNat (y_st e hH (by repeat (first | exact w_nil | refine w_cons (Or.inl (y_m rfl)) ?_ | refine w_cons (Or.inr (by assumption)) ?_)) (by repeat (first | exact w_nil | refine w_cons (Or.inl (y_m rfl)) ?_ | refine w_cons (Or.inr (by assumption)) ?_))) (by omega) (by omega)
    | false => exact no H (y_st e hH (by repeat (first | exact w_nil | refine w_cons (Or.inl (y_m rfl)) ?_ | refine w_cons (Or.inr (by assumption)) ?_)) (by repeat (first | exact w_nil | refine w_cons (Or.inl (y_m rfl)) ?_ | refine w_cons (Or.inr (by assumption)) ?_)))
  refine w_go z_hl [] [176] 30 hr ?_
  intro x hx _ _
  obtain rfl := y_fi hn hx
  intro H hH
  have e : y_fr h H [] [] := y_st (y_rf hr) hH (by repeat (first | exact w_nil | refine w_cons (Or.inl (y_m rfl)) ?_ | refine w_cons (Or.inr (by assumption)) ?_)) (by repeat (first | exact w_nil | refine w_cons (Or.inl (y_m rfl)) ?_ | refine w_cons (Or.inr (by assumption)) ?_))
  refine q_in (v := v.toInt64) (lo := Int64.ofNat 0) (hi := (sy - Int32.ofInt 1).toInt64) e.1 (fun H2 e2 l1 l2 => ⟨fun n e => (by cases e), ?_⟩) (fun H2 e2 _ => ⟨fun n e => (by cases e), ?_⟩)
  · rw [y_i2l] at l1
    rw [y_i2l, y_i2l, y_sub1 b1] at l2
    have l1 : 0 ≤ v.toInt := l1
    exact T13 (b := true) (y_sq e e2 rfl rfl) (fun _ => ⟨l1, by omega⟩)
  · exact T13 (b := false) (y_sq e e2 rfl rfl) (fun q => by cases q)
theorem p_so {h : aH} (hr : w_hr z_D h) (hJ : y_J h) (hS : j_say h) {a : Int32} (hk : ∀ (r : Int32) (H : aH), y_fr h H [19584, 19587, 19588, 19589, 19616, 19617, 19618] [155, 163] → y_J H → j_say H → K0 (some (.int r)) H C S) : aOK s_P X (d + 172) a_m233 0 [some (.ref 155), some (.int a)] [] h C S K0 := by
  obtain ⟨sy, acl, kdl, nul, bel, fil, sgl, y1, y2, y3, y4, y5, y6, y7, y8⟩ := id hS
  obtain ⟨nd, sm, so, sa, s1, s2, s3, s4, s5⟩ := id hJ.2.2.2.2.1
  obtain ⟨y0, y12⟩ := y_syb hr y1
  have out : ∀ {G0 G : aH} {r : Int32}, y_fr h G0 [19584] [163] → y_J G0 → y_fr G0 G [19587, 19588, 19589, 19616, 19617, 19618] [155] → K0 (some (.int r)) G C S := by
    intro G0 G r e0 J0 e
    have e2 : y_fr h G [19584, 19587, 19588, 19589, 19616, 19617, 19618] [155, 163] := y_sq (y_mo e0 rfl rfl) e rfl rfl
    exact hk r G e2 (y_J_fr e rfl rfl J0) (j_say_e e2 rfl rfl hS)
  have out0 : ∀ {G : aH} {r : Int32}, y_fr h G [19584] [] → K0 (some (.int r)) G C S := by
    intro G r e
    exact hk r G (y_mo e rfl rfl) (y_J_fr e rfl rfl hJ) (j_say_e e rfl rfl hS)
  have sd : ∀ {G0 G : aH} {wl : List Int64} {s : Nat} {fs : List Nat}, y_fr h G0 [19584] [163] → y_wl G0 wl → y_fr G0 G fs [] → fs.elem 19591 = false → (s : Int) < sy.toInt → y_sd G nd sgl wl s acl kdl nul bel fil := by
    intro G0 G wl s fs e0 hw e hfs hs
    have s0 : y_sd G0 nd sgl wl s acl kdl nul bel fil := ⟨⟨e0.1, (y_fe e0 rfl).trans s1, (y_ae e0 rfl).trans y7, hw⟩, (y_ae e0 rfl).trans y2, (y_ae e0 rfl).trans y3, (y_ae e0 rfl).trans y4, (y_ae e0 rfl).trans y5, (y_ae e0 rfl).trans y6, y8 s hs, by omega⟩
    exact y_sd_fr s0 e hfs
  have T44 : ∀ {G0 G : aH} {x : Int32}, y_fr h G0 [19584] [163] → y_J G0 → y_fr G0 G [19587, 19588, 19589, 19616, 19617, 19618] [155] → aOK s_P X (d + 172) a_m233 44 [some (.ref 155), some (.int a)] [.int x] G C S K0 := by
    intro G0 G x e0 J0 e
    refine w_go z_hl [] [] 30 e.1 ?_
    intro H hH
    exact out e0 J0 (y_st e hH (by repeat (first | exact w_nil | refine w_cons (Or.inl (y_m rfl)) ?_ | refine w_cons (Or.inr (by assumption)) ?_)) (by repeat (first | exact w_nil | refine w_cons (Or.inl (y_m rfl)) ?_ | refine w_cons (Or.inr (by assumption)) ?_)))
  have T35 : ∀ {G0 G : aH} {x : Int32}, y_fr h G0 [19584] [163] → y_J G0 → y_fr G0 G [19587, 19588, 19589, 19616, 19617, 19618] [155] → aOK s_P X (d + 172) a_m233 35 [some (.ref 155), some (.int a)] [.int x] G C S K0 := by
    intro G0 G x e0 J0 e
    refine w_go z_hl [] [] 30 e.1 ?_
    intro H hH
    exact out e0 J0 (y_st e hH (by repeat (first | exact w_nil | refine w_cons (Or.inl (y_m rfl)) ?_ | refine w_cons (Or.inr (by assumption)) ?_)) (by repeat (first | exact w_nil | refine w_cons (Or.inl (y_m rfl)) ?_ | refine w_cons (Or.inr (by assumption)) ?_)))
  have T19 : ∀ {G0 : aH} {wl : List Int64} {s : Nat}, y_fr h G0 [19584] [163] → y_J G0 → y_wl G0 wl → a.toInt = s → (s : Int) < sy.toInt → aOK s_P X (d + 172) a_m233 19 [some (.ref 155), some (.int a)] [] G0 C S K0 := by
    intro G0 wl s e0 J0 hw ha hs
    refine w_go z_hl [] [235, 241] 40 e0.1 ?_
    refine ⟨⟨by omega, by omega⟩, fun l hl len bb => ?_⟩
    obtain rfl := y_ai ((y_ae e0 rfl).trans y2) hl
    refine ⟨fun q => fun H hH => ?_, fun q => fun H hH => ?_⟩
    · have f : y_fr G0 H [] [] := y_st (y_rf e0.1) hH (by repeat (first | exact w_nil | refine w_cons (Or.inl (y_m rfl)) ?_ | refine w_cons (Or.inr (by assumption)) ?_)) (by repeat (first | exact w_nil | refine w_cons (Or.inl (y_m rfl)) ?_ | refine w_cons (Or.inr (by assumption)) ?_))
      refine aOK_deep (d := d + 170) (by omega) (y_soBy (sd e0 hw f rfl hs) ha (fun x H2 f2 => ⟨fun n e => (by cases e), ?_⟩))
      exact T44 e0 J0 (y_sq (y_mo f rfl rfl) f2 rfl rfl)
    · have q2 : ¬ ((acl.getD a.toNatClampNeg 0).toInt ≠ ((Int8.ofInt 126).toInt32).toInt) := y_cif q
      rw [y_cl1 ha, show ((Int8.ofInt 126).toInt32).toInt = 126 by decide] at q2
      have kk := (y8 s hs).2.2 (Decidable.not_not.mp q2)
      have f : y_fr G0 H [] [] := y_st (y_rf e0.1) hH (by repeat (first | exact w_nil | refine w_cons (Or.inl (y_m rfl)) ?_ | refine w_cons (Or.inr (by assumption)) ?_)) (by repeat (first | exact w_nil | refine w_cons (Or.inl (y_m rfl)) ?_ | refine w_cons (Or.inr (by assumption)) ?_))
      refine aOK_deep (d := d + 168) (by omega) (y_tog (sd e0 hw f rfl hs) ha kk.1 kk.2 (fun x H2 f2 => ⟨fun n e => (by cases e), ?_⟩))
      exact T35 e0 J0 (y_sq (y_mo f rfl rfl) f2 rfl rfl)
  have T10 : ∀ {G : aH} {s : Nat}, y_fr h G [19584] [] → a.toInt = s → (s : Int) < sy.toInt → aOK s_P X (d + 172) a_m233 10 [some (.ref 155), some (.int a)] [.int (y_01 true)] G C S K0 := by
    intro G s e ha hs
    refine w_go z_hl [] [188] 30 e.1 ?_
    refine ⟨fun _ => fun H hH => ?_, fun q => absurd q (by decide)⟩
    have e2 := y_st e hH (by repeat (first | exact w_nil | refine w_cons (Or.inl (y_m rfl)) ?_ | refine w_cons (Or.inr (by assumption)) ?_)) (by repeat (first | exact w_nil | refine w_cons (Or.inl (y_m rfl)) ?_ | refine w_cons (Or.inr (by assumption)) ?_))
    refine q_weighsUp e2.1 (y_J_fr e2 rfl rfl hJ) (fun wl H2 e3 J3 hw => ⟨fun n e => (by cases e), ?_⟩)
    exact T19 (y_sq (y_mo e2 rfl rfl) e3 rfl rfl) J3 hw ha hs
  have T10n : ∀ {G : aH}, y_fr h G [19584] [] → aOK s_P X (d + 172) a_m233 10 [some (.ref 155), some (.int a)] [.int (y_01 false)] G C S K0 := by
    intro G e
    refine w_go z_hl [] [] 30 e.1 ?_
    exact ⟨fun q => absurd q (by decide), fun _ => fun H hH => out0 (y_st e hH (by repeat (first | exact w_nil | refine w_cons (Or.inl (y_m rfl)) ?_ | refine w_cons (Or.inr (by assumption)) ?_)) (by repeat (first | exact w_nil | refine w_cons (Or.inl (y_m rfl)) ?_ | refine w_cons (Or.inr (by assumption)) ?_)))⟩
  refine w_go z_hl [] [234] 30 hr ?_
  refine ⟨rfl, y_zini (by decide) (by decide), fun H1 h1 => ?_⟩
  have e1 : y_fr h H1 [19584] [] := y_st (y_mo (y_rf hr) rfl rfl) h1 (by repeat (first | exact w_nil | refine w_cons (Or.inl (y_m rfl)) ?_ | refine w_cons (Or.inr (by assumption)) ?_)) (by repeat (first | exact w_nil | refine w_cons (Or.inl (y_m rfl)) ?_ | refine w_cons (Or.inr (by assumption)) ?_))
  refine y_isSaying e1.1 ((y_fe e1 rfl).trans y1) (fun H2 s h2 ha hs => ⟨fun n e => (by cases e), ?_⟩) (fun H2 h2 => ⟨fun n e => (by cases e), ?_⟩)
  · exact T10 (y_sq e1 h2 rfl rfl) ha hs
  · exact T10n (y_sq e1 h2 rfl rfl)
theorem p_slip {h : aH} (hr : w_hr z_D h) (hJ : y_J h) (hS : j_say h) {a b : Int32} (hk : ∀ (r : Int32) (H : aH), y_fr h H [19584, 19587, 19588, 19589, 19616, 19617, 19618] [155, 163] → y_J H → j_say H → K0 (some (.int r)) H C S) : aOK s_P X (d + 172) a_m247 0 [some (.ref 155), some (.int a), some (.int b)] [] h C S K0 := by
  obtain ⟨sy, acl, kdl, nul, bel, fil, sgl, y1, y2, y3, y4, y5, y6, y7, y8⟩ := id hS
  obtain ⟨nd, sm, so, sa, s1, s2, s3, s4, s5⟩ := id hJ.2.2.2.2.1
  obtain ⟨y0, y12⟩ := y_syb hr y1
  have out : ∀ {G0 G : aH} {r : Int32}, y_fr h G0 [19584] [163] → y_J G0 → y_fr G0 G [19587, 19588, 19589, 19616, 19617, 19618] [155] → K0 (some (.int r)) G C S := by
    intro G0 G r e0 J0 e
    have e2 : y_fr h G [19584, 19587, 19588, 19589, 19616, 19617, 19618] [155, 163] := y_sq (y_mo e0 rfl rfl) e rfl rfl
    exact hk r G e2 (y_J_fr e rfl rfl J0) (j_say_e e2 rfl rfl hS)
  have out0 : ∀ {G : aH} {r : Int32}, y_fr h G [19584] [] → K0 (some (.int r)) G C S := by
    intro G r e
    exact hk r G (y_mo e rfl rfl) (y_J_fr e rfl rfl hJ) (j_say_e e rfl rfl hS)
  have sd : ∀ {G0 G : aH} {wl : List Int64} {s : Nat} {fs : List Nat}, y_fr h G0 [19584] [163] → y_wl G0 wl → y_fr G0 G fs [] → fs.elem 19591 = false → (s : Int) < sy.toInt → y_sd G nd sgl wl s acl kdl nul bel fil := by
    intro G0 G wl s fs e0 hw e hfs hs
    have s0 : y_sd G0 nd sgl wl s acl kdl nul bel fil := ⟨⟨e0.1, (y_fe e0 rfl).trans s1, (y_ae e0 rfl).trans y7, hw⟩, (y_ae e0 rfl).trans y2, (y_ae e0 rfl).trans y3, (y_ae e0 rfl).trans y4, (y_ae e0 rfl).trans y5, (y_ae e0 rfl).trans y6, y8 s hs, by omega⟩
    exact y_sd_fr s0 e hfs
  have T48 : ∀ {G0 G : aH} {x : Int32}, y_fr h G0 [19584] [163] → y_J G0 → y_fr G0 G [19587, 19588, 19589, 19616, 19617, 19618] [155] → aOK s_P X (d + 172) a_m247 48 [some (.ref 155), some (.int a), some (.int b)] [.int x] G C S K0 := by
    intro G0 G x e0 J0 e
    refine w_go z_hl [] [] 30 e.1 ?_
    intro H hH
    exact out e0 J0 (y_st e hH (by repeat (first | exact w_nil | refine w_cons (Or.inl (y_m rfl)) ?_ | refine w_cons (Or.inr (by assumption)) ?_)) (by repeat (first | exact w_nil | refine w_cons (Or.inl (y_m rfl)) ?_ | refine w_cons (Or.inr (by assumption)) ?_)))
  have T42 : ∀ {G0 : aH} {wl : List Int64} {s : Nat}, y_fr h G0 [19584] [163] → y_J G0 → y_wl G0 wl → a.toInt = s → (s : Int) < sy.toInt → aOK s_P X (d + 172) a_m247 42 [some (.ref 155), some (.int a), some (.int b)] [] G0 C S K0 := by
    intro G0 wl s e0 J0 hw ha hs
    refine w_go z_hl [] [241] 40 e0.1 ?_
    intro H hH
    have f : y_fr G0 H [] [] := y_st (y_rf e0.1) hH (by repeat (first | exact w_nil | refine w_cons (Or.inl (y_m rfl)) ?_ | refine w_cons (Or.inr (by assumption)) ?_)) (by repeat (first | exact w_nil | refine w_cons (Or.inl (y_m rfl)) ?_ | refine w_cons (Or.inr (by assumption)) ?_))
    refine aOK_deep (d := d + 170) (by omega) (y_soBy (sd e0 hw f rfl hs) ha (fun x H2 f2 => ⟨fun n e => (by cases e), ?_⟩))
    exact T48 e0 J0 (y_sq (y_mo f rfl rfl) f2 rfl rfl)
  have T22 : ∀ {G : aH} {s : Nat}, y_fr h G [19584] [] → a.toInt = s → (s : Int) < sy.toInt → aOK s_P X (d + 172) a_m247 22 [some (.ref 155), some (.int a), some (.int b)] [.int (y_01 true)] G C S K0 := by
    intro G s e ha hs
    refine w_go z_hl [] [188] 30 e.1 ?_
    refine ⟨fun q => absurd q (by decide), fun _ => ⟨⟨by omega, by omega⟩, fun l hl len bb => ⟨fun _ => fun H hH => ?_, fun _ => fun H hH => out0 (y_st e hH (by repeat (first | exact w_nil | refine w_cons (Or.inl (y_m rfl)) ?_ | refine w_cons (Or.inr (by assumption)) ?_)) (by repeat (first | exact w_nil | refine w_cons (Or.inl (y_m rfl)) ?_ | refine w_cons (Or.inr (by assumption)) ?_)))⟩⟩⟩
    have e2 := y_st e hH (by repeat (first | exact w_nil | refine w_cons (Or.inl (y_m rfl)) ?_ | refine w_cons (Or.inr (by assumption)) ?_)) (by repeat (first | exact w_nil | refine w_cons (Or.inl (y_m rfl)) ?_ | refine w_cons (Or.inr (by assumption)) ?_))
    refine q_weighsUp e2.1 (y_J_fr e2 rfl rfl hJ) (fun wl H2 e3 J3 hw => ⟨fun n e => (by cases e), ?_⟩)
    exact T42 (y_sq (y_mo e2 rfl rfl) e3 rfl rfl) J3 hw ha hs
  have T22n : ∀ {G : aH}, y_fr h G [19584] [] → aOK s_P X (d + 172) a_m247 22 [some (.ref 155), some (.int a), some (.int b)] [.int (y_01 false)] G C S K0 := by
    intro G e
    refine w_go z_hl [] [] 30 e.1 ?_
    exact ⟨fun _ => fun H hH => out0 (y_st e hH (by repeat (first | exact w_nil | refine w_cons (Or.inl (y_m rfl)) ?_ | refine w_cons (Or.inr (by assumption)) ?_)) (by repeat (first | exact w_nil | refine w_cons (Or.inl (y_m rfl)) ?_ | refine w_cons (Or.inr (by assumption)) ?_))), fun q => absurd q (by decide)⟩
  have T10 : ∀ {G : aH} {s : Nat}, y_fr h G [19584] [] → a.toInt = s → (s : Int) < sy.toInt → aOK s_P X (d + 172) a_m247 10 [some (.ref 155), some (.int a), some (.int b)] [.int (y_01 true)] G C S K0 := by
    intro G s e ha hs
    refine w_go z_hl [] [176] 30 e.1 ?_
    refine ⟨fun q => absurd q (by decide), fun _ => fun H hH => ?_⟩
    have e2 := y_st e hH (by repeat (first | exact w_nil | refine w_cons (Or.inl (y_m rfl)) ?_ | refine w_cons (Or.inr (by assumption)) ?_)) (by repeat (first | exact w_nil | refine w_cons (Or.inl (y_m rfl)) ?_ | refine w_cons (Or.inr (by assumption)) ?_))
    refine q_in e2.1 (fun H3 h3 _ _ => ⟨fun n e => (by cases e), ?_⟩) (fun H3 h3 _ => ⟨fun n e => (by cases e), ?_⟩)
    · exact T22 (y_sq e2 h3 rfl rfl) ha hs
    · exact T22n (y_sq e2 h3 rfl rfl)
  have T10n : ∀ {G : aH}, y_fr h G [19584] [] → aOK s_P X (d + 172) a_m247 10 [some (.ref 155), some (.int a), some (.int b)] [.int (y_01 false)] G C S K0 := by
    intro G e
    refine w_go z_hl [] [] 30 e.1 ?_
    exact ⟨fun _ => fun H hH => out0 (y_st e hH (by repeat (first | exact w_nil | refine w_cons (Or.inl (y_m rfl)) ?_ | refine w_cons (Or.inr (by assumption)) ?_)) (by repeat (first | exact w_nil | refine w_cons (Or.inl (y_m rfl)) ?_ | refine w_cons (Or.inr (by assumption)) ?_))), fun q => absurd q (by decide)⟩
  refine w_go z_hl [] [234] 30 hr ?_
  refine ⟨rfl, y_zini (by decide) (by decide), fun H1 h1 => ?_⟩
  have e1 : y_fr h H1 [19584] [] := y_st (y_mo (y_rf hr) rfl rfl) h1 (by repeat (first | exact w_nil | refine w_cons (Or.inl (y_m rfl)) ?_ | refine w_cons (Or.inr (by assumption)) ?_)) (by repeat (first | exact w_nil | refine w_cons (Or.inl (y_m rfl)) ?_ | refine w_cons (Or.inr (by assumption)) ?_))
  refine y_isSaying e1.1 ((y_fe e1 rfl).trans y1) (fun H2 s h2 ha hs => ⟨fun n e => (by cases e), ?_⟩) (fun H2 h2 => ⟨fun n e => (by cases e), ?_⟩)
  · exact T10 (y_sq e1 h2 rfl rfl) ha hs
  · exact T10n (y_sq e1 h2 rfl rfl)
theorem p_term {h : aH} (hr : w_hr z_D h) (hJ : y_J h) (hS : j_say h) {a b : Int32} (hk : ∀ (r : Int32) (H : aH), y_fr h H [19584, 19585, 19587, 19588, 19589, 19616, 19617, 19618] [154, 163] → y_J H → j_say H → K0 (some (.int r)) H C S) : aOK s_P X (d + 172) a_m246 0 [some (.ref 155), some (.int a), some (.int b), none] [] h C S K0 := by
  obtain ⟨sy, acl, kdl, nul, bel, fil, sgl, y1, y2, y3, y4, y5, y6, y7, y8⟩ := id hS
  obtain ⟨nd, sm, so, sa, s1, s2, s3, s4, s5⟩ := id hJ.2.2.2.2.1
  obtain ⟨y0, y12⟩ := y_syb hr y1
  have out : ∀ {G0 G : aH} {r : Int32}, y_fr h G0 [19584] [163] → y_J G0 → y_fr G0 G [19585, 19587, 19588, 19589, 19616, 19617, 19618] [154] → K0 (some (.int r)) G C S := by
    intro G0 G r e0 J0 e
    have e2 : y_fr h G [19584, 19585, 19587, 19588, 19589, 19616, 19617, 19618] [154, 163] := y_sq (y_mo e0 rfl rfl) e rfl rfl
    exact hk r G e2 (y_J_fr e rfl rfl J0) (j_say_e e2 rfl rfl hS)
  have out0 : ∀ {G : aH} {r : Int32}, y_fr h G [19584] [] → K0 (some (.int r)) G C S := by
    intro G r e
    exact hk r G (y_mo e rfl rfl) (y_J_fr e rfl rfl hJ) (j_say_e e rfl rfl hS)
  have sd : ∀ {G0 G : aH} {wl : List Int64} {s : Nat} {fs : List Nat}, y_fr h G0 [19584] [163] → y_wl G0 wl → y_fr G0 G fs [] → fs.elem 19591 = false → (s : Int) < sy.toInt → y_sd G nd sgl wl s acl kdl nul bel fil := by
    intro G0 G wl s fs e0 hw e hfs hs
    have s0 : y_sd G0 nd sgl wl s acl kdl nul bel fil := ⟨⟨e0.1, (y_fe e0 rfl).trans s1, (y_ae e0 rfl).trans y7, hw⟩, (y_ae e0 rfl).trans y2, (y_ae e0 rfl).trans y3, (y_ae e0 rfl).trans y4, (y_ae e0 rfl).trans y5, (y_ae e0 rfl).trans y6, y8 s hs, by omega⟩
    exact y_sd_fr s0 e hfs
  have T63 : ∀ {G0 G : aH} {x : Int32}, y_fr h G0 [19584] [163] → y_J G0 → y_fr G0 G [19585, 19587, 19588, 19589, 19616, 19617, 19618] [154] → aOK s_P X (d + 172) a_m246 63 [some (.ref 155), some (.int a), some (.int b), some (.int x)] [] G C S K0 := by
    intro G0 G x e0 J0 e
    refine w_go z_hl [] [] 30 e.1 ?_
    intro H hH
    exact out e0 J0 (y_st e hH (by repeat (first | exact w_nil | refine w_cons (Or.inl (y_m rfl)) ?_ | refine w_cons (Or.inr (by assumption)) ?_)) (by repeat (first | exact w_nil | refine w_cons (Or.inl (y_m rfl)) ?_ | refine w_cons (Or.inr (by assumption)) ?_)))
  have T47 : ∀ {G0 G : aH} {x : Int32}, y_fr h G0 [19584] [163] → y_J G0 → y_fr G0 G [19585, 19587, 19588, 19589, 19616, 19617, 19618] [154] → aOK s_P X (d + 172) a_m246 47 [some (.ref 155), some (.int a), some (.int b), none] [.int x] G C S K0 := by
    intro G0 G x e0 J0 e
    refine w_go z_hl [] [196] 30 e.1 ?_
    refine ⟨fun _ => ⟨rfl, y_zini (by decide) (by decide), fun H hH => ?_⟩, fun _ => fun H hH => out e0 J0 (y_st e hH (by repeat (first | exact w_nil | refine w_cons (Or.inl (y_m rfl)) ?_ | refine w_cons (Or.inr (by assumption)) ?_)) (by repeat (first | exact w_nil | refine w_cons (Or.inl (y_m rfl)) ?_ | refine w_cons (Or.inr (by assumption)) ?_)))⟩
    have e2 := y_st e hH (by repeat (first | exact w_nil | refine w_cons (Or.inl (y_m rfl)) ?_ | refine w_cons (Or.inr (by assumption)) ?_)) (by repeat (first | exact w_nil | refine w_cons (Or.inl (y_m rfl)) ?_ | refine w_cons (Or.inr (by assumption)) ?_))
    refine y_tells e2.1 (hH.2.1 19585 _ rfl) (by decide) (by decide) (fun H2 r2 e3 _ _ => ⟨fun n e => (by cases e), ?_⟩)
    exact T63 e0 J0 (y_sq e2 e3 rfl rfl)
  have T40 : ∀ {G0 : aH} {wl : List Int64} {s v : Nat}, y_fr h G0 [19584] [163] → y_J G0 → y_wl G0 wl → a.toInt = s → (s : Int) < sy.toInt → b.toInt = v → v < 2 → aOK s_P X (d + 172) a_m246 40 [some (.ref 155), some (.int a), some (.int b), none] [] G0 C S K0 := by
    intro G0 wl s v e0 J0 hw ha hs hb hv
    refine w_go z_hl [] [242] 40 e0.1 ?_
    intro H hH
    have f : y_fr G0 H [] [] := y_st (y_rf e0.1) hH (by repeat (first | exact w_nil | refine w_cons (Or.inl (y_m rfl)) ?_ | refine w_cons (Or.inr (by assumption)) ?_)) (by repeat (first | exact w_nil | refine w_cons (Or.inl (y_m rfl)) ?_ | refine w_cons (Or.inr (by assumption)) ?_))
    refine aOK_deep (d := d + 169) (by omega) (y_termOf (sd e0 hw f rfl hs) ha hb hv (fun x H2 f2 _ => ⟨fun n e => (by cases e), ?_⟩))
    exact T47 e0 J0 (y_sq (y_mo f rfl rfl) f2 rfl rfl)
  have T20 : ∀ {G : aH} {s v : Nat}, y_fr h G [19584] [] → a.toInt = s → (s : Int) < sy.toInt → b.toInt = v → v < 2 → aOK s_P X (d + 172) a_m246 20 [some (.ref 155), some (.int a), some (.int b), none] [.int (y_01 true)] G C S K0 := by
    intro G s v e ha hs hb hv
    refine w_go z_hl [] [188] 30 e.1 ?_
    refine ⟨fun q => absurd q (by decide), fun _ => ⟨⟨by omega, by omega⟩, fun l hl len bb => ⟨fun _ => fun H hH => ?_, fun _ => fun H hH => out0 (y_st e hH (by repeat (first | exact w_nil | refine w_cons (Or.inl (y_m rfl)) ?_ | refine w_cons (Or.inr (by assumption)) ?_)) (by repeat (first | exact w_nil | refine w_cons (Or.inl (y_m rfl)) ?_ | refine w_cons (Or.inr (by assumption)) ?_)))⟩⟩⟩
    have e2 := y_st e hH (by repeat (first | exact w_nil | refine w_cons (Or.inl (y_m rfl)) ?_ | refine w_cons (Or.inr (by assumption)) ?_)) (by repeat (first | exact w_nil | refine w_cons (Or.inl (y_m rfl)) ?_ | refine w_cons (Or.inr (by assumption)) ?_))
    refine q_weighsUp e2.1 (y_J_fr e2 rfl rfl hJ) (fun wl H2 e3 J3 hw => ⟨fun n e => (by cases e), ?_⟩)
    exact T40 (y_sq (y_mo e2 rfl rfl) e3 rfl rfl) J3 hw ha hs hb hv
  have T20n : ∀ {G : aH}, y_fr h G [19584] [] → aOK s_P X (d + 172) a_m246 20 [some (.ref 155), some (.int a), some (.int b), none] [.int (y_01 false)] G C S K0 := by
    intro G e
    refine w_go z_hl [] [] 30 e.1 ?_
    exact ⟨fun _ => fun H hH => out0 (y_st e hH (by repeat (first | exact w_nil | refine w_cons (Or.inl (y_m rfl)) ?_ | refine w_cons (Or.inr (by assumption)) ?_)) (by repeat (first | exact w_nil | refine w_cons (Or.inl (y_m rfl)) ?_ | refine w_cons (Or.inr (by assumption)) ?_))), fun q => absurd q (by decide)⟩
  have T10 : ∀ {G : aH} {s : Nat}, y_fr h G [19584] [] → a.toInt = s → (s : Int) < sy.toInt → aOK s_P X (d + 172) a_m246 10 [some (.ref 155), some (.int a), some (.int b), none] [.int (y_01 true)] G C S K0 := by
    intro G s e ha hs
    refine w_go z_hl [] [176] 30 e.1 ?_
    refine ⟨fun q => absurd q (by decide), fun _ => fun H hH => ?_⟩
    have e2 := y_st e hH (by repeat (first | exact w_nil | refine w_cons (Or.inl (y_m rfl)) ?_ | refine w_cons (Or.inr (by assumption)) ?_)) (by repeat (first | exact w_nil | refine w_cons (Or.inl (y_m rfl)) ?_ | refine w_cons (Or.inr (by assumption)) ?_))
    refine q_in (v := b.toInt64) (lo := Int64.ofNat 0) (hi := Int64.ofNat 1) e2.1 (fun H3 h3 l1 l2 => ⟨fun n e => (by cases e), ?_⟩) (fun H3 h3 _ => ⟨fun n e => (by cases e), ?_⟩)
    · rw [y_i2l] at l1 l2
      have l1 : 0 ≤ b.toInt := l1
      have l2 : b.toInt ≤ 1 := l2
      exact T20 (v := b.toInt.toNat) (y_sq e2 h3 rfl rfl) ha hs (by omega) (by omega)
    · exact T20n (y_sq e2 h3 rfl rfl)
  have T10n : ∀ {G : aH}, y_fr h G [19584] [] → aOK s_P X (d + 172) a_m246 10 [some (.ref 155), some (.int a), some (.int b), none] [.int (y_01 false)] G C S K0 := by
    intro G e
    refine w_go z_hl [] [] 30 e.1 ?_
    exact ⟨fun _ => fun H hH => out0 (y_st e hH (by repeat (first | exact w_nil | refine w_cons (Or.inl (y_m rfl)) ?_ | refine w_cons (Or.inr (by assumption)) ?_)) (by repeat (first | exact w_nil | refine w_cons (Or.inl (y_m rfl)) ?_ | refine w_cons (Or.inr (by assumption)) ?_))), fun q => absurd q (by decide)⟩
  refine w_go z_hl [] [234] 30 hr ?_
  refine ⟨rfl, y_zini (by decide) (by decide), fun H1 h1 => ?_⟩
  have e1 : y_fr h H1 [19584] [] := y_st (y_mo (y_rf hr) rfl rfl) h1 (by repeat (first | exact w_nil | refine w_cons (Or.inl (y_m rfl)) ?_ | refine w_cons (Or.inr (by assumption)) ?_)) (by repeat (first | exact w_nil | refine w_cons (Or.inl (y_m rfl)) ?_ | refine w_cons (Or.inr (by assumption)) ?_))
  refine y_isSaying e1.1 ((y_fe e1 rfl).trans y1) (fun H2 s h2 ha hs => ⟨fun n e => (by cases e), ?_⟩) (fun H2 h2 => ⟨fun n e => (by cases e), ?_⟩)
  · exact T10 (y_sq e1 h2 rfl rfl) ha hs
  · exact T10n (y_sq e1 h2 rfl rfl)
theorem p_which {h : aH} (hr : w_hr z_D h) (hJ : y_J h) (hS : j_say h) {a : Int32} (hk : ∀ (r : Int32) (H : aH), y_fr h H [19584, 19587, 19588, 19589, 19616, 19617, 19618] [155, 163] → y_J H → j_say H → K0 (some (.int r)) H C S) : aOK s_P X (d + 172) a_m248 0 [some (.ref 155), some (.int a), none, none] [] h C S K0 := by
  obtain ⟨sy, acl, kdl, nul, bel, fil, sgl, y1, y2, y3, y4, y5, y6, y7, y8⟩ := id hS
  obtain ⟨nd, sm, so, sa, s1, s2, s3, s4, s5⟩ := id hJ.2.2.2.2.1
  obtain ⟨y0, y12⟩ := y_syb hr y1
  have out : ∀ {G0 G : aH} {r : Int32}, y_fr h G0 [19584] [163] → y_J G0 → y_fr G0 G [19587, 19588, 19589, 19616, 19617, 19618] [155] → K0 (some (.int r)) G C S := by
    intro G0 G r e0 J0 e
    have e2 : y_fr h G [19584, 19587, 19588, 19589, 19616, 19617, 19618] [155, 163] := y_sq (y_mo e0 rfl rfl) e rfl rfl
    exact hk r G e2 (y_J_fr e rfl rfl J0) (j_say_e e2 rfl rfl hS)
  have out0 : ∀ {G : aH} {r : Int32}, y_fr h G [19584] [] → K0 (some (.int r)) G C S := by
    intro G r e
    exact hk r G (y_mo e rfl rfl) (y_J_fr e rfl rfl hJ) (j_say_e e rfl rfl hS)
  have sd : ∀ {G0 G : aH} {wl : List Int64} {s : Nat} {fs : List Nat}, y_fr h G0 [19584] [163] → y_wl G0 wl → y_fr G0 G fs [] → fs.elem 19591 = false → (s : Int) < sy.toInt → y_sd G nd sgl wl s acl kdl nul bel fil := by
    intro G0 G wl s fs e0 hw e hfs hs
    have s0 : y_sd G0 nd sgl wl s acl kdl nul bel fil := ⟨⟨e0.1, (y_fe e0 rfl).trans s1, (y_ae e0 rfl).trans y7, hw⟩, (y_ae e0 rfl).trans y2, (y_ae e0 rfl).trans y3, (y_ae e0 rfl).trans y4, (y_ae e0 rfl).trans y5, (y_ae e0 rfl).trans y6, y8 s hs, by omega⟩
    exact y_sd_fr s0 e hfs
  have loop : ∀ (m : Nat) {G0 G : aH} {wl : List Int64} {s : Nat} {x k : Int32}, y_fr h G0 [19584] [163] → y_J G0 → y_wl G0 wl → a.toInt = s → (s : Int) < sy.toInt → y_fr G0 G [19587, 19588, 19589, 19616, 19617, 19618] [155] → 0 ≤ k.toInt → 5 ≤ k.toInt + m → k.toInt ≤ 5 → aOK s_P X (d + 172) a_m248 60 [some (.ref 155), some (.int a), some (.int x), some (.int k)] [] G C S K0 := by
    intro m
    induction m with
    | zero =>
      intro G0 G wl s x k e0 J0 hw ha hs e k0 km k5
      refine w_go z_hl [60] [] 40 e.1 ?_
      refine ⟨fun _ => fun H hH => out e0 J0 (y_st e hH (by repeat (first | exact w_nil | refine w_cons (Or.inl (y_m rfl)) ?_ | refine w_cons (Or.inr (by assumption)) ?_)) (by repeat (first | exact w_nil | refine w_cons (Or.inl (y_m rfl)) ?_ | refine w_cons (Or.inr (by assumption)) ?_))), fun q => ?_⟩
      have q2 : ¬ ((Int32.ofInt 4).toInt < k.toInt) := y_cif q
      rw [show (Int32.ofInt 4).toInt = 4 by decide] at q2
      omega
    | succ m ih =>
      intro G0 G wl s x k e0 J0 hw ha hs e k0 km k5
      have T82 : ∀ {H : aH} {y : Int32}, y_fr G0 H [19587, 19588, 19589, 19616, 19617, 19618] [155] → k.toInt ≤ 4 → aOK s_P X (d + 172) a_m248 82 [some (.ref 155), some (.int a), some (.int x), some (.int k)] [.int y] H C S K0 := by
        intro H y f k4
        have ink : (k + Int32.ofInt 1).toInt = k.toInt + 1 := y_inc (by omega)
        refine w_go z_hl [60] [] 40 f.1 ?_
        refine ⟨fun _ => fun H2 h2 => ih e0 J0 hw ha hs (y_st f h2 (by repeat (first | exact w_nil | refine w_cons (Or.inl (y_m rfl)) ?_ | refine w_cons (Or.inr (by assumption)) ?_)) (by repeat (first | exact w_nil | refine w_cons (Or.inl (y_m rfl)) ?_ | refine w_cons (Or.inr (by assumption)) ?_))) (by show 0 ≤ (k + Int32.ofInt 1).toInt; omega) (by show 5 ≤ (k + Int32.ofInt 1).toInt + _; omega) (by show (k + Int32.ofInt 1).toInt ≤ 5; omega), fun _ => fun H2 h2 => out e0 J0 (y_st f h2 (by repeat (first | exact w_nil | refine w_cons (Or.inl (y_m rfl)) ?_ | refine w_cons (Or.inr (by assumption)) ?_)) (by repeat (first | exact w_nil | refine w_cons (Or.inl (y_m rfl)) ?_ | refine w_cons (Or.inr (by assumption)) ?_)))⟩
      refine w_go z_hl [60] [241] 40 e.1 ?_
      refine ⟨fun _ => fun H hH => out e0 J0 (y_st e hH (by repeat (first | exact w_nil | refine w_cons (Or.inl (y_m rfl)) ?_ | refine w_cons (Or.inr (by assumption)) ?_)) (by repeat (first | exact w_nil | refine w_cons (Or.inl (y_m rfl)) ?_ | refine w_cons (Or.inr (by assumption)) ?_))), fun q => ⟨⟨by omega, by omega⟩, fun l hl len bb => ⟨fun _ => fun H hH => out e0 J0 (y_st e hH (by repeat (first | exact w_nil | refine w_cons (Or.inl (y_m rfl)) ?_ | refine w_cons (Or.inr (by assumption)) ?_)) (by repeat (first | exact w_nil | refine w_cons (Or.inl (y_m rfl)) ?_ | refine w_cons (Or.inr (by assumption)) ?_))), fun _ => fun H hH => ?_⟩⟩⟩
      have q2 : ¬ ((Int32.ofInt 4).toInt < k.toInt) := y_cif q
      rw [show (Int32.ofInt 4).toInt = 4 by decide] at q2
      have f := y_st e hH (by repeat (first | exact w_nil | refine w_cons (Or.inl (y_m rfl)) ?_ | refine w_cons (Or.inr (by assumption)) ?_)) (by repeat (first | exact w_nil | refine w_cons (Or.inl (y_m rfl)) ?_ | refine w_cons (Or.inr (by assumption)) ?_))
      have s0 : y_sd G0 nd sgl wl s acl kdl nul bel fil := sd e0 hw (y_rf e0.1) rfl hs
      have s1' : y_sd H nd sgl wl s acl kdl nul bel fil := ⟨y_sc_fr s0.1 f rfl rfl rfl, (y_ae f rfl).trans s0.2.1, (y_ae f rfl).trans s0.2.2.1, (y_ae f rfl).trans s0.2.2.2.1, (y_ae f rfl).trans s0.2.2.2.2.1, (y_ae f rfl).trans s0.2.2.2.2.2.1, s0.2.2.2.2.2.2⟩
      refine aOK_deep (d := d + 170) (by omega) (y_soBy s1' ha (fun x H2 f2 => ⟨fun n e => (by cases e), ?_⟩))
      exact T82 (y_sq f f2 rfl rfl) (by omega)
  have T44 : ∀ {G0 G : aH} {wl : List Int64} {s : Nat} {x : Int32}, y_fr h G0 [19584] [163] → y_J G0 → y_wl G0 wl → a.toInt = s → (s : Int) < sy.toInt → y_fr G0 G [19587, 19588, 19589, 19616, 19617, 19618] [155] → aOK s_P X (d + 172) a_m248 44 [some (.ref 155), some (.int a), none, none] [.int x] G C S K0 := by
    intro G0 G wl s x e0 J0 hw ha hs e
    refine w_go z_hl [60] [] 30 e.1 ?_
    refine ⟨fun _ => ⟨fun _ => fun H hH => loop 5 e0 J0 hw ha hs (y_st e hH (by repeat (first | exact w_nil | refine w_cons (Or.inl (y_m rfl)) ?_ | refine w_cons (Or.inr (by assumption)) ?_)) (by repeat (first | exact w_nil | refine w_cons (Or.inl (y_m rfl)) ?_ | refine w_cons (Or.inr (by assumption)) ?_))) (by decide) (by decide) (by decide), fun _ => fun H hH => out e0 J0 (y_st e hH (by repeat (first | exact w_nil | refine w_cons (Or.inl (y_m rfl)) ?_ | refine w_cons (Or.inr (by assumption)) ?_)) (by repeat (first | exact w_nil | refine w_cons (Or.inl (y_m rfl)) ?_ | refine w_cons (Or.inr (by assumption)) ?_)))⟩, fun _ => fun H hH => out e0 J0 (y_st e hH (by repeat (first | exact w_nil | refine w_cons (Or.inl (y_m rfl)) ?_ | refine w_cons (Or.inr (by assumption)) ?_)) (by repeat (first | exact w_nil | refine w_cons (Or.inl (y_m rfl)) ?_ | refine w_cons (Or.inr (by assumption)) ?_)))⟩
  have T35 : ∀ {G0 G : aH} {wl : List Int64} {s : Nat} {x : Int32}, y_fr h G0 [19584] [163] → y_J G0 → y_wl G0 wl → a.toInt = s → (s : Int) < sy.toInt → y_fr G0 G [19587, 19588, 19589, 19616, 19617, 19618] [155] → aOK s_P X (d + 172) a_m248 35 [some (.ref 155), some (.int a), none, none] [.int x] G C S K0 := by
    intro G0 G wl s x e0 J0 hw ha hs e
    refine w_go z_hl [44] [] 30 e.1 ?_
    intro H hH
    exact T44 e0 J0 hw ha hs (y_st e hH (by repeat (first | exact w_nil | refine w_cons (Or.inl (y_m rfl)) ?_ | refine w_cons (Or.inr (by assumption)) ?_)) (by repeat (first | exact w_nil | refine w_cons (Or.inl (y_m rfl)) ?_ | refine w_cons (Or.inr (by assumption)) ?_)))
  have T19 : ∀ {G0 : aH} {wl : List Int64} {s : Nat}, y_fr h G0 [19584] [163] → y_J G0 → y_wl G0 wl → a.toInt = s → (s : Int) < sy.toInt → aOK s_P X (d + 172) a_m248 19 [some (.ref 155), some (.int a), none, none] [] G0 C S K0 := by
    intro G0 wl s e0 J0 hw ha hs
    refine w_go z_hl [] [235, 241] 40 e0.1 ?_
    refine ⟨⟨by omega, by omega⟩, fun l hl len bb => ?_⟩
    obtain rfl := y_ai ((y_ae e0 rfl).trans y2) hl
    refine ⟨fun q => fun H hH => ?_, fun q => fun H hH => ?_⟩
    · have f : y_fr G0 H [] [] := y_st (y_rf e0.1) hH (by repeat (first | exact w_nil | refine w_cons (Or.inl (y_m rfl)) ?_ | refine w_cons (Or.inr (by assumption)) ?_)) (by repeat (first | exact w_nil | refine w_cons (Or.inl (y_m rfl)) ?_ | refine w_cons (Or.inr (by assumption)) ?_))
      refine aOK_deep (d := d + 170) (by omega) (y_soBy (sd e0 hw f rfl hs) ha (fun x H2 f2 => ⟨fun n e => (by cases e), ?_⟩))
      exact T44 e0 J0 hw ha hs (y_sq (y_mo f rfl rfl) f2 rfl rfl)
    · have q2 : ¬ ((acl.getD a.toNatClampNeg 0).toInt ≠ ((Int8.ofInt 126).toInt32).toInt) := y_cif q
      rw [y_cl1 ha, show ((Int8.ofInt 126).toInt32).toInt = 126 by decide] at q2
      have kk := (y8 s hs).2.2 (Decidable.not_not.mp q2)
      have f : y_fr G0 H [] [] := y_st (y_rf e0.1) hH (by repeat (first | exact w_nil | refine w_cons (Or.inl (y_m rfl)) ?_ | refine w_cons (Or.inr (by assumption)) ?_)) (by repeat (first | exact w_nil | refine w_cons (Or.inl (y_m rfl)) ?_ | refine w_cons (Or.inr (by assumption)) ?_))
      refine aOK_deep (d := d + 168) (by omega) (y_tog (sd e0 hw f rfl hs) ha kk.1 kk.2 (fun x H2 f2 => ⟨fun n e => (by cases e), ?_⟩))
      exact T35 e0 J0 hw ha hs (y_sq (y_mo f rfl rfl) f2 rfl rfl)
  have T10 : ∀ {G : aH} {s : Nat}, y_fr h G [19584] [] → a.toInt = s → (s : Int) < sy.toInt → aOK s_P X (d + 172) a_m248 10 [some (.ref 155), some (.int a), none, none] [.int (y_01 true)] G C S K0 := by
    intro G s e ha hs
    refine w_go z_hl [] [188] 30 e.1 ?_
    refine ⟨fun _ => fun H hH => ?_, fun q => absurd q (by decide)⟩
    have e2 := y_st e hH (by repeat (first | exact w_nil | refine w_cons (Or.inl (y_m rfl)) ?_ | refine w_cons (Or.inr (by assumption)) ?_)) (by repeat (first | exact w_nil | refine w_cons (Or.inl (y_m rfl)) ?_ | refine w_cons (Or.inr (by assumption)) ?_))
    refine q_weighsUp e2.1 (y_J_fr e2 rfl rfl hJ) (fun wl H2 e3 J3 hw => ⟨fun n e => (by cases e), ?_⟩)
    exact T19 (y_sq (y_mo e2 rfl rfl) e3 rfl rfl) J3 hw ha hs
  have T10n : ∀ {G : aH}, y_fr h G [19584] [] → aOK s_P X (d + 172) a_m248 10 [some (.ref 155), some (.int a), none, none] [.int (y_01 false)] G C S K0 := by
    intro G e
    refine w_go z_hl [] [] 30 e.1 ?_
    exact ⟨fun q => absurd q (by decide), fun _ => fun H hH => out0 (y_st e hH (by repeat (first | exact w_nil | refine w_cons (Or.inl (y_m rfl)) ?_ | refine w_cons (Or.inr (by assumption)) ?_)) (by repeat (first | exact w_nil | refine w_cons (Or.inl (y_m rfl)) ?_ | refine w_cons (Or.inr (by assumption)) ?_)))⟩
  refine w_go z_hl [] [234] 30 hr ?_
  refine ⟨rfl, y_zini (by decide) (by decide), fun H1 h1 => ?_⟩
  have e1 : y_fr h H1 [19584] [] := y_st (y_mo (y_rf hr) rfl rfl) h1 (by repeat (first | exact w_nil | refine w_cons (Or.inl (y_m rfl)) ?_ | refine w_cons (Or.inr (by assumption)) ?_)) (by repeat (first | exact w_nil | refine w_cons (Or.inl (y_m rfl)) ?_ | refine w_cons (Or.inr (by assumption)) ?_))
  refine y_isSaying e1.1 ((y_fe e1 rfl).trans y1) (fun H2 s h2 ha hs => ⟨fun n e => (by cases e), ?_⟩) (fun H2 h2 => ⟨fun n e => (by cases e), ?_⟩)
  · exact T10 (y_sq e1 h2 rfl rfl) ha hs
  · exact T10n (y_sq e1 h2 rfl rfl)
end WG
