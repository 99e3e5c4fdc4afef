/-! ===== v3: the reference's orders, order ===== -/
def y_bf (H : aH) : Prop := ∃ (f : Int32) (bl : Int64), w_f H 19636 = some (.int f) ∧ w_f H 19639 = some (.long bl) ∧ (f ≠ 0 → 1 ≤ bl.toInt)
theorem y_bf_fr {h H : aH} {fs as : List Nat} (q : y_bf h) (e : y_fr h H fs as) (h1 : fs.elem 19636 = false) (h2 : fs.elem 19639 = false) : y_bf H := by
  obtain ⟨u, l, q1, q2, q3⟩ := q
  exact ⟨u, l, (y_fe e h1).trans q1, (y_fe e h2).trans q2, q3⟩
section WG
variable {X : aX} {C S d : Nat} {h : aH} {nd : Int32} {sa : List Int32} {wl : List Int64} {K0 : Option Value → aH → Nat → Nat → Prop}
theorem y_ord_cp {hd cl nI mI us x8 : Int32} {o6 o7 : Option Value} (m0 : 0 ≤ mI.toInt) (m5 : mI.toInt ≤ 5) : ∀ (m : Nat) (h : aH) (kI : Int32) (k : Nat), w_hr z_D h → kI.toInt = k → (k : Int) + m = mI.toInt → (∀ (H : aH), y_fr h H [] [181] → K0 none H C S) → aOK s_P X d a_m264 125 [some (.ref 155), some (.int hd), some (.int cl), some (.int nI), some (.int mI), some (.int us), o6, o7, some (.int x8), some (.int kI)] [] h C S K0 := by
  intro m
  induction m with
  | zero =>
    intro h kI k hr hk hm hK
    refine w_go z_hl [125] [] 30 hr ?_
    refine ⟨fun _ => fun H hH => hK H (y_st (y_mo (y_rf hr) rfl rfl) hH (by repeat (first | exact w_nil | refine w_cons (Or.inl (y_m rfl)) ?_ | refine w_cons (Or.inr (by assumption)) ?_)) (by repeat (first | exact w_nil | refine w_cons (Or.inl (y_m rfl)) ?_ | refine w_cons (Or.inr (by assumption)) ?_))), fun q => ?_⟩
    have : ¬ (mI.toInt ≤ kI.toInt) := y_cif q
    omega
  | succ m ih =>
    intro h kI k hr hk hm hK
    have ink : (kI + Int32.ofInt 1).toInt = ((k + 1 : Nat) : Int) := by rw [y_inc (by omega), hk]; rfl
    refine w_go z_hl [125] [] 30 hr ?_
    refine ⟨fun q => ?_, fun _ => ⟨⟨by omega, by omega⟩, fun l hl len bb => ⟨⟨by omega, by omega⟩, bb _ (z_gd (0 : Int32) (show kI.toNatClampNeg < l.length by have := y_cl1 hk; omega)), fun l2 hl2 len2 bb2 => fun H hH => ?_⟩⟩⟩
    · have : mI.toInt ≤ kI.toInt := (y_ci .ge _ _).mp q
      omega
    · have e : y_fr h H [] [181] := y_st (y_mo (y_rf hr) rfl rfl) hH (by repeat (first | exact w_nil | refine w_cons (Or.inl (y_m rfl)) ?_ | refine w_cons (Or.inr (by assumption)) ?_)) (by repeat (first | exact w_nil | refine w_cons (Or.inl (y_m rfl)) ?_ | refine w_cons (Or.inr (by assumption)) ?_))
      exact ih H _ (k + 1) e.1 ink (by omega) (fun H' f => hK H' (y_sq e f rfl rfl))
def y_OR (X : aX) (C S d : Nat) (nd : Int32) (sa : List Int32) (wl : List Int64) (N : Nat) : Prop := ∀ (h : aH) (hd cl nI mI us : Int32) (K0 : Option Value → aH → Nat → Nat → Prop), y_wc h nd sa wl → y_bf h → 0 ≤ hd.toInt → hd.toInt ≤ 5 → 0 ≤ nI.toInt → nI.toInt + N = mI.toInt → mI.toInt ≤ 5 → (∀ (H : aH), y_fr h H [19587, 19588, 19589, 19629, 19630, 19631, 19632, 19633, 19636, 19637, 19638, 19639] [155, 179, 181] → y_bf H → K0 none H C S) → aOK s_P X (N + d + 6) a_m264 0 [some (.ref 155), some (.int hd), some (.int cl), some (.int nI), some (.int mI), some (.int us), none, none, none, none] [] h C S K0
theorem y_or_leaf (s : y_wc h nd sa wl) (bf : y_bf h) {hd cl nI mI us : Int32} (h0 : 0 ≤ hd.toInt) (h5 : hd.toInt ≤ 5) (m0 : 0 ≤ mI.toInt) (m5 : mI.toInt ≤ 5) (nm : nI.toInt = mI.toInt) (hK : ∀ (H : aH), y_fr h H [19587, 19588, 19589, 19629, 19630, 19631, 19632, 19633, 19636, 19637, 19638, 19639] [155, 179, 181] → y_bf H → K0 none H C S) : aOK s_P X (d + 6) a_m264 0 [some (.ref 155), some (.int hd), some (.int cl), some (.int nI), some (.int mI), some (.int us), none, none, none, none] [] h C S K0 := by
  have T95 : ∀ {G : aH} {x : Int32} {b c : Bool}, y_fr h G [19587, 19588, 19589, 19629, 19630, 19631, 19632, 19633, 19636, 19637, 19638, 19639] [155, 179, 181] → y_od G → aOK s_P X (d + 6) a_m264 95 [some (.ref 155), some (.int hd), some (.int cl), some (.int nI), some (.int mI), some (.int us), some (.int x), some (.int (y_01 b)), some (.int (y_01 c)), none] [] G C S K0 := by
    intro G x b c e od
    obtain ⟨u, l, o1, o2, o3, o4⟩ := od
    refine w_go z_hl [125] [] 40 e.1 ?_
    refine ⟨rfl, y_zini (by decide) (by decide), ⟨by cases b <;> rfl, y_zini (y_01b b).1 (y_01b b).2, ?_⟩⟩
    intro y hy _ _
    obtain rfl := y_fl o1 hy
    refine ⟨rfl, y_zin o3 (y_l64 u).2, ?_⟩
    intro z hz _ _
    obtain rfl := y_fl o2 hz
    refine ⟨rfl, y_zin (by show 0 ≤ l.toInt; omega) (y_l64 l).2, fun H hH => ?_⟩
    have e2 := y_st e hH (by repeat (first | exact w_nil | refine w_cons (Or.inl (y_m rfl)) ?_ | refine w_cons (Or.inr (by assumption)) ?_)) (by repeat (first | exact w_nil | refine w_cons (Or.inl (y_m rfl)) ?_ | refine w_cons (Or.inr (by assumption)) ?_))
    have b2 : y_bf H := ⟨_, l, hH.2.1 19636 _ rfl, hH.2.1 19639 _ rfl, fun _ => o4⟩
    exact y_ord_cp m0 m5 mI.toInt.toNat H _ 0 e2.1 rfl (by omega) (fun H' f => hK H' (y_sq e2 f rfl rfl) (y_bf_fr b2 f rfl rfl))
  have T88 : ∀ {G : aH} {x : Int32} {b c : Bool}, y_fr h G [19587, 19588, 19589, 19629, 19630, 19631, 19632, 19633, 19636, 19637, 19638, 19639] [155, 179, 181] → y_od G → y_bf G → aOK s_P X (d + 6) a_m264 88 [some (.ref 155), some (.int hd), some (.int cl), some (.int nI), some (.int mI), some (.int us), some (.int x), some (.int (y_01 b)), none, none] [.int (y_01 c)] G C S K0 := by
    intro G x b c e od bf2
    have f0 : y_fr G G [] [] := y_rf e.1
    refine w_go z_hl [95] [] 40 e.1 ?_
    exact ⟨fun _ => fun H hH => hK H (y_sq e (y_st f0 hH (by repeat (first | exact w_nil | refine w_cons (Or.inl (y_m rfl)) ?_ | refine w_cons (Or.inr (by assumption)) ?_)) (by repeat (first | exact w_nil | refine w_cons (Or.inl (y_m rfl)) ?_ | refine w_cons (Or.inr (by assumption)) ?_))) rfl rfl) (y_bf_fr bf2 (y_st f0 hH (by repeat (first | exact w_nil | refine w_cons (Or.inl (y_m rfl)) ?_ | refine w_cons (Or.inr (by assumption)) ?_)) (by repeat (first | exact w_nil | refine w_cons (Or.inl (y_m rfl)) ?_ | refine w_cons (Or.inr (by assumption)) ?_))) rfl rfl), fun _ => fun H hH => T95 (y_sq e (y_st f0 hH (by repeat (first | exact w_nil | refine w_cons (Or.inl (y_m rfl)) ?_ | refine w_cons (Or.inr (by assumption)) ?_)) (by repeat (first | exact w_nil | refine w_cons (Or.inl (y_m rfl)) ?_ | refine w_cons (Or.inr (by assumption)) ?_))) rfl rfl) (y_od_fr od (y_st f0 hH (by repeat (first | exact w_nil | refine w_cons (Or.inl (y_m rfl)) ?_ | refine w_cons (Or.inr (by assumption)) ?_)) (by repeat (first | exact w_nil | refine w_cons (Or.inl (y_m rfl)) ?_ | refine w_cons (Or.inr (by assumption)) ?_))) rfl rfl)⟩
  have T80 : ∀ {G : aH} {x c : Int32} {b : Bool}, y_fr h G [19587, 19588, 19589, 19629, 19630, 19631, 19632, 19633, 19636, 19637, 19638, 19639] [155, 179, 181] → y_od G → y_bf G → aOK s_P X (d + 6) a_m264 80 [some (.ref 155), some (.int hd), some (.int cl), some (.int nI), some (.int mI), some (.int us), some (.int x), some (.int (y_01 b)), none, none] [.int c] G C S K0 := by
    intro G x c b e od bf2
    have f0 : y_fr G G [] [] := y_rf e.1
    refine w_go z_hl [88] [] 40 e.1 ?_
    exact ⟨fun _ => fun H hH => T88 (c := false) (y_sq e (y_st f0 hH (by repeat (first | exact w_nil | refine w_cons (Or.inl (y_m rfl)) ?_ | refine w_cons (Or.inr (by assumption)) ?_)) (by repeat (first | exact w_nil | refine w_cons (Or.inl (y_m rfl)) ?_ | refine w_cons (Or.inr (by assumption)) ?_))) rfl rfl) (y_od_fr od (y_st f0 hH (by repeat (first | exact w_nil | refine w_cons (Or.inl (y_m rfl)) ?_ | refine w_cons (Or.inr (by assumption)) ?_)) (by repeat (first | exact w_nil | refine w_cons (Or.inl (y_m rfl)) ?_ | refine w_cons (Or.inr (by assumption)) ?_))) rfl rfl) (y_bf_fr bf2 (y_st f0 hH (by repeat (first | exact w_nil | refine w_cons (Or.inl (y_m rfl)) ?_ | refine w_cons (Or.inr (by assumption)) ?_)) (by repeat (first | exact w_nil | refine w_cons (Or.inl (y_m rfl)) ?_ | refine w_cons (Or.inr (by assumption)) ?_))) rfl rfl), fun _ => fun H hH => T88 (c := true) (y_sq e (y_st f0 hH (by repeat (first | exact w_nil | refine w_cons (Or.inl (y_m rfl)) ?_ | refine w_cons (Or.inr (by assumption)) ?_)) (by repeat (first | exact w_nil | refine w_cons (Or.inl (y_m rfl)) ?_ | refine w_cons (Or.inr (by assumption)) ?_))) rfl rfl) (y_od_fr od (y_st f0 hH (by repeat (first | exact w_nil | refine w_cons (Or.inl (y_m rfl)) ?_ | refine w_cons (Or.inr (by assumption)) ?_)) (by repeat (first | exact w_nil | refine w_cons (Or.inl (y_m rfl)) ?_ | refine w_cons (Or.inr (by assumption)) ?_))) rfl rfl) (y_bf_fr bf2 (y_st f0 hH (by repeat (first | exact w_nil | refine w_cons (Or.inl (y_m rfl)) ?_ | refine w_cons (Or.inr (by assumption)) ?_)) (by repeat (first | exact w_nil | refine w_cons (Or.inl (y_m rfl)) ?_ | refine w_cons (Or.inr (by assumption)) ?_))) rfl rfl)⟩
  have T39 : ∀ {G : aH} {x : Int32} {b : Bool}, y_fr h G [19587, 19588, 19589, 19629, 19630, 19631, 19632, 19633, 19636, 19637, 19638, 19639] [155, 179, 181] → y_od G → y_bf G → aOK s_P X (d + 6) a_m264 39 [some (.ref 155), some (.int hd), some (.int cl), some (.int nI), some (.int mI), some (.int us), some (.int x), none, none, none] [.int (y_01 b)] G C S K0 := by
    intro G x b e od bf2
    obtain ⟨u, l, o1, o2, o3, o4⟩ := id od
    obtain ⟨ff, bl, p1, p2, p3⟩ := id bf2
    have f0 : y_fr G G [] [] := y_rf e.1
    refine w_go z_hl [88] [203] 60 e.1 ?_
    intro y hy _ _
    obtain rfl := y_fi p1 hy
    refine ⟨fun _ => fun H hH => T88 (c := true) (y_sq e (y_st f0 hH (by repeat (first | exact w_nil | refine w_cons (Or.inl (y_m rfl)) ?_ | refine w_cons (Or.inr (by assumption)) ?_)) (by repeat (first | exact w_nil | refine w_cons (Or.inl (y_m rfl)) ?_ | refine w_cons (Or.inr (by assumption)) ?_))) rfl rfl) (y_od_fr od (y_st f0 hH (by repeat (first | exact w_nil | refine w_cons (Or.inl (y_m rfl)) ?_ | refine w_cons (Or.inr (by assumption)) ?_)) (by repeat (first | exact w_nil | refine w_cons (Or.inl (y_m rfl)) ?_ | refine w_cons (Or.inr (by assumption)) ?_))) rfl rfl) (y_bf_fr bf2 (y_st f0 hH (by repeat (first | exact w_nil | refine w_cons (Or.inl (y_m rfl)) ?_ | refine w_cons (Or.inr (by assumption)) ?_)) (by repeat (first | exact w_nil | refine w_cons (Or.inl (y_m rfl)) ?_ | refine w_cons (Or.inr (by assumption)) ?_))) rfl rfl), fun q => ?_⟩
    intro z hz _ _
    refine ⟨fun _ => fun H hH => T88 (c := false) (y_sq e (y_st f0 hH (by repeat (first | exact w_nil | refine w_cons (Or.inl (y_m rfl)) ?_ | refine w_cons (Or.inr (by assumption)) ?_)) (by repeat (first | exact w_nil | refine w_cons (Or.inl (y_m rfl)) ?_ | refine w_cons (Or.inr (by assumption)) ?_))) rfl rfl) (y_od_fr od (y_st f0 hH (by repeat (first | exact w_nil | refine w_cons (Or.inl (y_m rfl)) ?_ | refine w_cons (Or.inr (by assumption)) ?_)) (by repeat (first | exact w_nil | refine w_cons (Or.inl (y_m rfl)) ?_ | refine w_cons (Or.inr (by assumption)) ?_))) rfl rfl) (y_bf_fr bf2 (y_st f0 hH (by repeat (first | exact w_nil | refine w_cons (Or.inl (y_m rfl)) ?_ | refine w_cons (Or.inr (by assumption)) ?_)) (by repeat (first | exact w_nil | refine w_cons (Or.inl (y_m rfl)) ?_ | refine w_cons (Or.inr (by assumption)) ?_))) rfl rfl), fun _ => ⟨fun _ => fun H hH => T88 (c := true) (y_sq e (y_st f0 hH (by repeat (first | exact w_nil | refine w_cons (Or.inl (y_m rfl)) ?_ | refine w_cons (Or.inr (by assumption)) ?_)) (by repeat (first | exact w_nil | refine w_cons (Or.inl (y_m rfl)) ?_ | refine w_cons (Or.inr (by assumption)) ?_))) rfl rfl) (y_od_fr od (y_st f0 hH (by repeat (first | exact w_nil | refine w_cons (Or.inl (y_m rfl)) ?_ | refine w_cons (Or.inr (by assumption)) ?_)) (by repeat (first | exact w_nil | refine w_cons (Or.inl (y_m rfl)) ?_ | refine w_cons (Or.inr (by assumption)) ?_))) rfl rfl) (y_bf_fr bf2 (y_st f0 hH (by repeat (first | exact w_nil | refine w_cons (Or.inl (y_m rfl)) ?_ | refine w_cons (Or.inr (by assumption)) ?_)) (by repeat (first | exact w_nil | refine w_cons (Or.inl (y_m rfl)) ?_ | refine w_cons (Or.inr (by assumption)) ?_))) rfl rfl), fun _ => ?_⟩⟩
    have q2 : ¬ (ff.toInt = (0 : Int32).toInt) := y_cif q
    have bl1 := p3 (fun e => q2 (by rw [e]))
    intro a ha _ _
    obtain rfl := y_fl o1 ha
    intro b' hb' _ _
    obtain rfl := y_fl o2 hb'
    intro c hc _ _
    intro e' he' _ _
    obtain rfl := y_fl p2 he'
    intro H hH
    have f : y_fr G H [] [] := y_st f0 hH (by repeat (first | exact w_nil | refine w_cons (Or.inl (y_m rfl)) ?_ | refine w_cons (Or.inr (by assumption)) ?_)) (by repeat (first | exact w_nil | refine w_cons (Or.inl (y_m rfl)) ?_ | refine w_cons (Or.inr (by assumption)) ?_))
    refine aOK_deep (d := d + 1) (by omega) (y_compares (b := l) (e := bl) f.1 (fun q => by rw [q] at o4; exact absurd o4 (by decide)) (fun q => by rw [q] at bl1; exact absurd bl1 (by decide)) (fun r H3 hr3 e3 => ⟨fun n e => (by cases e), ?_⟩))
    exact T80 (y_sq (y_sq e f rfl rfl) e3 rfl rfl) (y_od_fr (y_od_fr od f rfl rfl) e3 rfl rfl) (y_bf_fr (y_bf_fr bf2 f rfl rfl) e3 rfl rfl)
  have T18 : ∀ {G : aH} {x : Int32}, y_fr h G [19587, 19588, 19589, 19629, 19630, 19631, 19632, 19633, 19636, 19637, 19638, 19639] [155, 179, 181] → y_od G → y_bf G → aOK s_P X (d + 6) a_m264 18 [some (.ref 155), some (.int hd), some (.int cl), some (.int nI), some (.int mI), some (.int us), none, none, none, none] [.int x] G C S K0 := by
    intro G x e od bf2
    have f0 : y_fr G G [] [] := y_rf e.1
    refine w_go z_hl [39] [] 40 e.1 ?_
    refine ⟨fun _ => ⟨fun _ => fun H hH => T39 (b := false) (y_sq e (y_st f0 hH (by repeat (first | exact w_nil | refine w_cons (Or.inl (y_m rfl)) ?_ | refine w_cons (Or.inr (by assumption)) ?_)) (by repeat (first | exact w_nil | refine w_cons (Or.inl (y_m rfl)) ?_ | refine w_cons (Or.inr (by assumption)) ?_))) rfl rfl) (y_od_fr od (y_st f0 hH (by repeat (first | exact w_nil | refine w_cons (Or.inl (y_m rfl)) ?_ | refine w_cons (Or.inr (by assumption)) ?_)) (by repeat (first | exact w_nil | refine w_cons (Or.inl (y_m rfl)) ?_ | refine w_cons (Or.inr (by assumption)) ?_))) rfl rfl) (y_bf_fr bf2 (y_st f0 hH (by repeat (first | exact w_nil | refine w_cons (Or.inl (y_m rfl)) ?_ | refine w_cons (Or.inr (by assumption)) ?_)) (by repeat (first | exact w_nil | refine w_cons (Or.inl (y_m rfl)) ?_ | refine w_cons (Or.inr (by assumption)) ?_))) rfl rfl), fun _ => fun H hH => T39 (b := true) (y_sq e (y_st f0 hH (by repeat (first | exact w_nil | refine w_cons (Or.inl (y_m rfl)) ?_ | refine w_cons (Or.inr (by assumption)) ?_)) (by repeat (first | exact w_nil | refine w_cons (Or.inl (y_m rfl)) ?_ | refine w_cons (Or.inr (by assumption)) ?_))) rfl rfl) (y_od_fr od (y_st f0 hH (by repeat (first | exact w_nil | refine w_cons (Or.inl (y_m rfl)) ?_ | refine w_cons (Or.inr (by assumption)) ?_)) (by repeat (first | exact w_nil | refine w_cons (Or.inl (y_m rfl)) ?_ | refine w_cons (Or.inr (by assumption)) ?_))) rfl rfl) (y_bf_fr bf2 (y_st f0 hH (by repeat (first | exact w_nil | refine w_cons (Or.inl (y_m rfl)) ?_ | refine w_cons (Or.inr (by assumption)) ?_)) (by repeat (first | exact w_nil | refine w_cons (Or.inl (y_m rfl)) ?_ | refine w_cons (Or.inr (by assumption)) ?_))) rfl rfl)⟩, fun _ => fun H hH => hK H (y_sq e (y_st f0 hH (by repeat (first | exact w_nil | refine w_cons (Or.inl (y_m rfl)) ?_ | refine w_cons (Or.inr (by assumption)) ?_)) (by repeat (first | exact w_nil | refine w_cons (Or.inl (y_m rfl)) ?_ | refine w_cons (Or.inr (by assumption)) ?_))) rfl rfl) (y_bf_fr bf2 (y_st f0 hH (by repeat (first | exact w_nil | refine w_cons (Or.inl (y_m rfl)) ?_ | refine w_cons (Or.inr (by assumption)) ?_)) (by repeat (first | exact w_nil | refine w_cons (Or.inl (y_m rfl)) ?_ | refine w_cons (Or.inr (by assumption)) ?_))) rfl rfl)⟩
  refine w_go z_hl [] [259] 40 s.1 ?_
  refine ⟨fun q => ?_, fun _ => ⟨rfl, y_zini (by show 0 ≤ mI.toInt; omega) (by show mI.toInt ≤ 10; omega), fun H hH => ?_⟩⟩
  · have q2 : nI.toInt ≠ mI.toInt := (y_ci .ne _ _).mp q
    omega
  · have f : y_fr h H [19629] [] := y_st (y_mo (y_rf s.1) rfl rfl) hH (by repeat (first | exact w_nil | refine w_cons (Or.inl (y_m rfl)) ?_ | refine w_cons (Or.inr (by assumption)) ?_)) (by repeat (first | exact w_nil | refine w_cons (Or.inl (y_m rfl)) ?_ | refine w_cons (Or.inr (by assumption)) ?_))
    refine aOK_deep (d := d + 4) (by omega) (y_hears (y_wc_fr s f rfl rfl rfl) h0 h5 (hH.2.1 19629 _ rfl) m0 (by omega) (fun x H2 f2 od2 => ⟨fun n e => (by cases e), ?_⟩))
    exact T18 (y_sq (y_mo f rfl rfl) f2 rfl rfl) od2 (y_bf_fr (y_bf_fr bf f rfl rfl) f2 rfl rfl)
theorem y_orr_loop {N : Nat} (ih : y_OR X C S d nd sa wl N) {hd cl nI mI us : Int32} (h0 : 0 ≤ hd.toInt) (h5 : hd.toInt ≤ 5) (n0 : 0 ≤ nI.toInt) (nm : nI.toInt + (N + 1) = mI.toInt) (m5 : mI.toInt ≤ 5) : ∀ (m : Nat) (h : aH) (kI : Int32) (k : Nat), y_wc h nd sa wl → y_bf h → kI.toInt = k → (k : Int) + m = mI.toInt → (∀ (H : aH), y_fr h H [19587, 19588, 19589, 19629, 19630, 19631, 19632, 19633, 19636, 19637, 19638, 19639] [155, 179, 181] → y_bf H → K0 none H C S) → aOK s_P X (N + 1 + d + 6) a_m264 156 [some (.ref 155), some (.int hd), some (.int cl), some (.int nI), some (.int mI), some (.int us), some (.int kI), none, none, none] [] h C S K0 := by
  intro m
  induction m with
  | zero =>
    intro h kI k s bf hk hm hK
    refine w_go z_hl [156] [] 30 s.1 ?_
    refine ⟨fun _ => fun H hH => ?_, fun q => ?_⟩
    · have f : y_fr h H [] [] := y_st (y_rf s.1) hH (by repeat (first | exact w_nil | refine w_cons (Or.inl (y_m rfl)) ?_ | refine w_cons (Or.inr (by assumption)) ?_)) (by repeat (first | exact w_nil | refine w_cons (Or.inl (y_m rfl)) ?_ | refine w_cons (Or.inr (by assumption)) ?_))
      exact hK H (y_mo f rfl rfl) (y_bf_fr bf f rfl rfl)
    · have : ¬ (mI.toInt ≤ kI.toInt) := y_cif q
      omega
  | succ m ihm =>
    intro h kI k s bf hk hm hK
    have ink : (kI + Int32.ofInt 1).toInt = ((k + 1 : Nat) : Int) := by rw [y_inc (by omega), hk]; rfl
    have inn : (nI + Int32.ofInt 1).toInt = nI.toInt + 1 := y_inc (by omega)
    have T204 : ∀ {G : aH}, y_fr h G [19587, 19588, 19589, 19629, 19630, 19631, 19632, 19633, 19636, 19637, 19638, 19639] [155, 179, 181] → y_bf G → aOK s_P X (N + 1 + d + 6) a_m264 204 [some (.ref 155), some (.int hd), some (.int cl), some (.int nI), some (.int mI), some (.int us), some (.int kI), none, none, none] [] G C S K0 := by
      intro G e bf2
      refine w_go z_hl [156] [] 30 e.1 ?_
      intro H hH
      have f : y_fr G H [] [] := y_st (y_rf e.1) hH (by repeat (first | exact w_nil | refine w_cons (Or.inl (y_m rfl)) ?_ | refine w_cons (Or.inr (by assumption)) ?_)) (by repeat (first | exact w_nil | refine w_cons (Or.inl (y_m rfl)) ?_ | refine w_cons (Or.inr (by assumption)) ?_))
      have e2 := y_sq e f rfl rfl
      exact ihm H _ (k + 1) (y_wc_fr s e2 rfl rfl rfl) (y_bf_fr bf2 f rfl rfl) ink (by omega) (fun H' f' b' => hK H' (y_sq e2 f' rfl rfl) b')
    have T173 : ∀ {G : aH}, y_fr h G [] [] → aOK s_P X (N + 1 + d + 6) a_m264 173 [some (.ref 155), some (.int hd), some (.int cl), some (.int nI), some (.int mI), some (.int us), some (.int kI), none, none, none] [] G C S K0 := by
      intro G e
      refine w_go z_hl [] [264] 40 e.1 ?_
      refine ⟨⟨by omega, by omega⟩, fun l hl len bb => ⟨⟨by omega, by omega⟩, bb _ (z_gd (0 : Int32) (show kI.toNatClampNeg < l.length by have := y_cl1 hk; omega)), fun l2 hl2 len2 bb2 => fun H hH => ?_⟩⟩
      have e2 : y_fr h H [19587, 19588, 19589, 19629, 19630, 19631, 19632, 19633, 19636, 19637, 19638, 19639] [155, 179, 181] := y_st (y_mo e rfl rfl) hH (by repeat (first | exact w_nil | refine w_cons (Or.inl (y_m rfl)) ?_ | refine w_cons (Or.inr (by assumption)) ?_)) (by repeat (first | exact w_nil | refine w_cons (Or.inl (y_m rfl)) ?_ | refine w_cons (Or.inr (by assumption)) ?_))
      have e3 : y_fr h H [] [179] := y_st (y_mo e rfl rfl) hH (by repeat (first | exact w_nil | refine w_cons (Or.inl (y_m rfl)) ?_ | refine w_cons (Or.inr (by assumption)) ?_)) (by repeat (first | exact w_nil | refine w_cons (Or.inl (y_m rfl)) ?_ | refine w_cons (Or.inr (by assumption)) ?_))
      refine aOK_deep (d := N + d + 6) (by omega) (ih H _ _ (nI + Int32.ofInt 1) mI _ _ (y_wc_fr s e3 rfl rfl rfl) (y_bf_fr bf e3 rfl rfl) h0 h5 (by omega) (by omega) m5 (fun H2 f2 b2 => ⟨fun n e => (by cases e), ?_⟩))
      exact T204 (y_sq e2 f2 rfl rfl) b2
    have f0 : y_fr h h [] [] := y_rf s.1
    refine w_go z_hl [156, 173, 204] [] 30 s.1 ?_
    refine ⟨fun q => ?_, fun _ => ⟨fun _ => ⟨by decide, ⟨fun q => absurd q (by decide), fun _ => fun H hH => T173 (y_st f0 hH (by repeat (first | exact w_nil | refine w_cons (Or.inl (y_m rfl)) ?_ | refine w_cons (Or.inr (by assumption)) ?_)) (by repeat (first | exact w_nil | refine w_cons (Or.inl (y_m rfl)) ?_ | refine w_cons (Or.inr (by assumption)) ?_)))⟩⟩, fun _ => ⟨by decide, ⟨fun _ => fun H hH => T204 (y_mo (y_st f0 hH (by repeat (first | exact w_nil | refine w_cons (Or.inl (y_m rfl)) ?_ | refine w_cons (Or.inr (by assumption)) ?_)) (by repeat (first | exact w_nil | refine w_cons (Or.inl (y_m rfl)) ?_ | refine w_cons (Or.inr (by assumption)) ?_)) : y_fr h H [] []) rfl rfl) (y_bf_fr bf (y_st f0 hH (by repeat (first | exact w_nil | refine w_cons (Or.inl (y_m rfl)) ?_ | refine w_cons (Or.inr (by assumption)) ?_)) (by repeat (first | exact w_nil | refine w_cons (Or.inl (y_m rfl)) ?_ | refine w_cons (Or.inr (by assumption)) ?_))) rfl rfl), fun q => absurd q (by decide)⟩⟩⟩⟩
    have : mI.toInt ≤ kI.toInt := (y_ci .ge _ _).mp q
    omega
theorem y_orders : ∀ (N : Nat), y_OR X C S d nd sa wl N
  | 0 => fun h hd cl nI mI us K0 s bf h0 h5 n0 nm m5 hK => aOK_deep (d := d + 6) (by omega) (y_or_leaf s bf h0 h5 (by omega) m5 (by omega) hK)
  | N + 1 => fun h hd cl nI mI us K0 s bf h0 h5 n0 nm m5 hK => by
    have ih := y_orders N
    refine w_go z_hl [156] [] 40 s.1 ?_
    refine ⟨fun _ => fun H hH => ?_, fun q => ?_⟩
    · have f : y_fr h H [] [] := y_st (y_rf s.1) hH (by repeat (first | exact w_nil | refine w_cons (Or.inl (y_m rfl)) ?_ | refine w_cons (Or.inr (by assumption)) ?_)) (by repeat (first | exact w_nil | refine w_cons (Or.inl (y_m rfl)) ?_ | refine w_cons (Or.inr (by assumption)) ?_))
      exact y_orr_loop ih h0 h5 n0 (by omega) m5 mI.toInt.toNat H _ 0 (y_wc_fr s f rfl rfl rfl) (y_bf_fr bf f rfl rfl) rfl (by omega) (fun H' f' b' => hK H' (y_sq (y_mo f rfl rfl) f' rfl rfl) b')
    · have q2 : ¬ (nI.toInt ≠ mI.toInt) := y_cif q
      omega
theorem y_order_end {hd cl mI : Int32} (m0 : 0 ≤ mI.toInt) (m5 : mI.toInt ≤ 5) : ∀ (m : Nat) (h : aH) (vI rw' : Int32) (k : Nat), w_hr z_D h → w_f h 19585 = some (.int rw') → rw'.toInt = k → vI.toInt = k → (k : Int) + m = mI.toInt → (∀ (r : Int32) (H : aH), y_fr h H [19585] [154] → K0 (some (.int r)) H C S) → aOK s_P X (d + 1) a_m263 113 [some (.ref 155), some (.int hd), some (.int cl), some (.int mI), some (.int vI)] [] h C S K0 := by
  intro m
  induction m with
  | zero =>
    intro h vI rw' k hr g hrw hk hm hK
    refine w_go z_hl [113] [] 30 hr ?_
    refine ⟨fun _ => fun H hH => hK _ H (y_st (y_mo (y_rf hr) rfl rfl) hH (by repeat (first | exact w_nil | refine w_cons (Or.inl (y_m rfl)) ?_ | refine w_cons (Or.inr (by assumption)) ?_)) (by repeat (first | exact w_nil | refine w_cons (Or.inl (y_m rfl)) ?_ | refine w_cons (Or.inr (by assumption)) ?_))), fun q => ?_⟩
    have : ¬ (mI.toInt ≤ vI.toInt) := y_cif q
    omega
  | succ m ih =>
    intro h vI rw' k hr g hrw hk hm hK
    have ink : (vI + Int32.ofInt 1).toInt = ((k + 1 : Nat) : Int) := by rw [y_inc (by omega), hk]; rfl
    have T131 : ∀ {G : aH} {r2 : Int32}, y_fr h G [19585] [154] → w_f G 19585 = some (.int r2) → r2.toInt = ((k + 1 : Nat) : Int) → aOK s_P X (d + 1) a_m263 131 [some (.ref 155), some (.int hd), some (.int cl), some (.int mI), some (.int vI)] [] G C S K0 := by
      intro G r2 e g2 h2
      refine w_go z_hl [113] [] 30 e.1 ?_
      intro H hH
      have f : y_fr G H [] [] := y_st (y_rf e.1) hH (by repeat (first | exact w_nil | refine w_cons (Or.inl (y_m rfl)) ?_ | refine w_cons (Or.inr (by assumption)) ?_)) (by repeat (first | exact w_nil | refine w_cons (Or.inl (y_m rfl)) ?_ | refine w_cons (Or.inr (by assumption)) ?_))
      exact ih H _ _ (k + 1) f.1 ((y_fe f rfl).trans g2) h2 ink (by omega) (fun r H' f' => hK r H' (y_sq (y_sq e f rfl rfl) f' rfl rfl))
    refine w_go z_hl [113] [197] 30 hr ?_
    refine ⟨fun q => ?_, fun _ => ⟨⟨by omega, by omega⟩, fun l hl len bb => fun H hH => ?_⟩⟩
    · have : mI.toInt ≤ vI.toInt := (y_ci .ge _ _).mp q
      omega
    · have f : y_fr h H [] [] := y_st (y_rf hr) hH (by repeat (first | exact w_nil | refine w_cons (Or.inl (y_m rfl)) ?_ | refine w_cons (Or.inr (by assumption)) ?_)) (by repeat (first | exact w_nil | refine w_cons (Or.inl (y_m rfl)) ?_ | refine w_cons (Or.inr (by assumption)) ?_))
      refine y_enters f.1 ((y_fe f rfl).trans g) (by omega) (by omega) (fun H2 r2 e3 g3 hr3 => ⟨fun n e => (by cases e), ?_⟩)
      exact T131 (y_sq (y_mo f rfl rfl) e3 rfl rfl) g3 (by omega)
theorem y_order_find {hd cl nd : Int32} {sa : List Int32} (n0 : 0 ≤ nd.toInt) (n10 : nd.toInt ≤ 10) : ∀ (m : Nat) (h : aH) (vI mI : Int32) (k t : Nat), w_hr z_D h → w_f h 19591 = some (.int nd) → vI.toInt = k → mI.toInt = t → t ≤ k → (k : Int) + m = nd.toInt → (∀ (H : aH) (vI mI : Int32), y_fr h H [] [180] → 0 ≤ mI.toInt → mI.toInt ≤ 10 → aOK s_P X d a_m263 70 [some (.ref 155), some (.int hd), some (.int cl), some (.int mI), some (.int vI)] [] H C S K0) → aOK s_P X d a_m263 28 [some (.ref 155), some (.int hd), some (.int cl), some (.int mI), some (.int vI)] [] h C S K0 := by
  intro m
  induction m with
  | zero =>
    intro h vI mI k t hr g hk ht tk hm hK
    refine w_go z_hl [28, 70] [] 30 hr ?_
    intro x hx _ _
    obtain rfl := y_fi g hx
    refine ⟨fun _ => fun H hH => hK H _ _ (y_st (y_mo (y_rf hr) rfl rfl) hH (by repeat (first | exact w_nil | refine w_cons (Or.inl (y_m rfl)) ?_ | refine w_cons (Or.inr (by assumption)) ?_)) (by repeat (first | exact w_nil | refine w_cons (Or.inl (y_m rfl)) ?_ | refine w_cons (Or.inr (by assumption)) ?_))) (by omega) (by omega), fun q => ?_⟩
    have : ¬ (nd.toInt ≤ vI.toInt) := y_cif q
    omega
  | succ m ih =>
    intro h vI mI k t hr g hk ht tk hm hK
    have ink : (vI + Int32.ofInt 1).toInt = ((k + 1 : Nat) : Int) := by rw [y_inc (by omega), hk]; rfl
    have int : (mI + Int32.ofInt 1).toInt = ((t + 1 : Nat) : Int) := by rw [y_inc (by omega), ht]; rfl
    have skip : ∀ {H : aH}, y_fr h H [] [] → aOK s_P X d a_m263 28 [some (.ref 155), some (.int hd), some (.int cl), some (.int mI), some (.int (vI + Int32.ofInt 1))] [] H C S K0 := fun f => ih _ _ _ (k + 1) t f.1 ((y_fe f rfl).trans g) ink ht (by omega) (by omega) (fun H' v' m' f' x0 x1 => hK H' v' m' (y_sq (y_mo f rfl rfl) f' rfl rfl) x0 x1)
    have f0 : y_fr h h [] [] := y_rf hr
    refine w_go z_hl [28, 70] [] 40 hr ?_
    intro x hx _ _
    obtain rfl := y_fi g hx
    refine ⟨fun q => ?_, fun _ => ⟨fun _ => fun H hH => skip (y_st f0 hH (by repeat (first | exact w_nil | refine w_cons (Or.inl (y_m rfl)) ?_ | refine w_cons (Or.inr (by assumption)) ?_)) (by repeat (first | exact w_nil | refine w_cons (Or.inl (y_m rfl)) ?_ | refine w_cons (Or.inr (by assumption)) ?_))), fun _ => ⟨⟨by omega, by omega⟩, fun l hl len bb => ⟨fun _ => fun H hH => skip (y_st f0 hH (by repeat (first | exact w_nil | refine w_cons (Or.inl (y_m rfl)) ?_ | refine w_cons (Or.inr (by assumption)) ?_)) (by repeat (first | exact w_nil | refine w_cons (Or.inl (y_m rfl)) ?_ | refine w_cons (Or.inr (by assumption)) ?_))), fun _ => ⟨⟨by omega, by omega⟩, ⟨by omega, by omega⟩, fun l2 hl2 len2 bb2 => fun H hH => ?_⟩⟩⟩⟩⟩
    · have : nd.toInt ≤ vI.toInt := (y_ci .ge _ _).mp q
      omega
    · have f : y_fr h H [] [180] := y_st (y_mo (y_rf hr) rfl rfl) hH (by repeat (first | exact w_nil | refine w_cons (Or.inl (y_m rfl)) ?_ | refine w_cons (Or.inr (by assumption)) ?_)) (by repeat (first | exact w_nil | refine w_cons (Or.inl (y_m rfl)) ?_ | refine w_cons (Or.inr (by assumption)) ?_))
      exact ih H _ _ (k + 1) (t + 1) f.1 ((y_fe f rfl).trans g) ink int (by omega) (by omega) (fun H' v' m' f' x0 x1 => hK H' v' m' (y_sq f f' rfl rfl) x0 x1)
theorem p_order (hr : w_hr z_D h) (hJ : y_J h) {hd cl : Int32} (hk : ∀ (r : Int32) (H : aH), y_fr h H [19584, 19585, 19587, 19588, 19589, 19629, 19630, 19631, 19632, 19633, 19636, 19637, 19638, 19639] [154, 155, 163, 179, 180, 181] → y_J H → K0 (some (.int r)) H C S) : aOK s_P X (d + 12) a_m263 0 [some (.ref 155), some (.int hd), some (.int cl), none, none] [] h C S K0 := by
  obtain ⟨nd, sm, so, sa, s1, s2, s3, s4, s5⟩ := id hJ.2.2.2.2.1
  obtain ⟨b1, b2⟩ := y_ndb hr s1
  have out : ∀ {G : aH} {r : Int32}, y_fr h G [19584] [180] → K0 (some (.int r)) G C S := fun g => hk _ _ (y_mo g rfl rfl) (y_J_fr g rfl rfl hJ)
  have T95 : ∀ {G0 G : aH} {mI vI : Int32}, y_fr h G0 [19584] [163, 180] → y_J G0 → y_fr G0 G [19587, 19588, 19589, 19629, 19630, 19631, 19632, 19633, 19636, 19637, 19638, 19639] [155, 179, 181] → 0 ≤ mI.toInt → mI.toInt ≤ 5 → aOK s_P X (d + 12) a_m263 95 [some (.ref 155), some (.int hd), some (.int cl), some (.int mI), some (.int vI)] [] G C S K0 := by
    intro G0 G mI vI e0 J0 e m0 m5
    have fin : ∀ {H : aH} {r : Int32}, y_fr G0 H [19585, 19587, 19588, 19589, 19629, 19630, 19631, 19632, 19633, 19636, 19637, 19638, 19639] [154, 155, 179, 181] → K0 (some (.int r)) H C S := fun f => hk _ _ (y_sq (y_mo e0 rfl rfl) f rfl rfl) (y_J_fr f rfl rfl J0)
    have e' : y_fr G0 G [19585, 19587, 19588, 19589, 19629, 19630, 19631, 19632, 19633, 19636, 19637, 19638, 19639] [154, 155, 179, 181] := y_mo e rfl rfl
    refine w_go z_hl [113] [] 40 e.1 ?_
    intro x hx _ _
    refine ⟨fun _ => ⟨rfl, y_zini (by decide) (by decide), fun H hH => ?_⟩, fun _ => fun H hH => fin (y_st e' hH (by repeat (first | exact w_nil | refine w_cons (Or.inl (y_m rfl)) ?_ | refine w_cons (Or.inr (by assumption)) ?_)) (by repeat (first | exact w_nil | refine w_cons (Or.inl (y_m rfl)) ?_ | refine w_cons (Or.inr (by assumption)) ?_)))⟩
    have e2 := y_st e' hH (by repeat (first | exact w_nil | refine w_cons (Or.inl (y_m rfl)) ?_ | refine w_cons (Or.inr (by assumption)) ?_)) (by repeat (first | exact w_nil | refine w_cons (Or.inl (y_m rfl)) ?_ | refine w_cons (Or.inr (by assumption)) ?_))
    exact aOK_deep (d := d + 1) (by omega) (y_order_end m0 m5 mI.toInt.toNat H _ _ 0 e2.1 (hH.2.1 19585 _ rfl) rfl rfl (by omega) (fun r H' f => fin (y_sq e2 f rfl rfl)))
  have T81 : ∀ {G0 : aH} {wl : List Int64} {mI vI : Int32}, y_fr h G0 [19584] [163, 180] → y_J G0 → y_wl G0 wl → 0 ≤ hd.toInt → hd.toInt ≤ 5 → 0 ≤ mI.toInt → mI.toInt ≤ 5 → aOK s_P X (d + 12) a_m263 81 [some (.ref 155), some (.int hd), some (.int cl), some (.int mI), some (.int vI)] [] G0 C S K0 := by
    intro G0 wl mI vI e0 J0 hw h0 h5 m0 m5
    refine w_go z_hl [] [264] 40 e0.1 ?_
    refine ⟨rfl, y_zini (by decide) (by decide), fun H hH => ?_⟩
    have f : y_fr G0 H [19636] [] := y_st (y_mo (y_rf e0.1) rfl rfl) hH (by repeat (first | exact w_nil | refine w_cons (Or.inl (y_m rfl)) ?_ | refine w_cons (Or.inr (by assumption)) ?_)) (by repeat (first | exact w_nil | refine w_cons (Or.inl (y_m rfl)) ?_ | refine w_cons (Or.inr (by assumption)) ?_))
    obtain ⟨bl, gbl⟩ : ∃ bl : Int64, w_f H 19639 = some (.long bl) := by
      obtain ⟨vs, w, z1, z2, z3, z4⟩ := w_get1 f.1 (o := 153) (ci := 12) rfl (k := 55) rfl
      have e := w_f_at z1 (k := 55) (by decide)
      rcases z4 with ⟨q, -⟩ | ⟨-, x, ex, -, -⟩
      · cases q
      · exact ⟨x, by rw [show (19639 : Nat) = 153 * 128 + 55 by decide, e, z3, ex]⟩
    have s0 : y_wc G0 nd sa wl := ⟨e0.1, (y_fe e0 rfl).trans s1, (y_ae e0 rfl).trans s4, hw⟩
    refine aOK_deep (d := mI.toInt.toNat + d + 6) (by omega) (y_orders mI.toInt.toNat H hd cl _ mI _ _ (y_wc_fr s0 f rfl rfl rfl) ⟨_, bl, hH.2.1 19636 _ rfl, gbl, fun q => absurd rfl q⟩ h0 h5 (by decide) (by rw [show (Int32.ofInt 0).toInt = 0 by decide]; omega) m5 (fun H2 f2 b2 => ⟨fun n e => (by cases e), ?_⟩))
    exact T95 e0 J0 (y_sq (y_mo f rfl rfl) f2 rfl rfl) m0 m5
  have T70 : ∀ {G : aH} {mI vI : Int32}, y_fr h G [19584] [180] → 0 ≤ hd.toInt → hd.toInt ≤ 5 → 0 ≤ mI.toInt → aOK s_P X (d + 12) a_m263 70 [some (.ref 155), some (.int hd), some (.int cl), some (.int mI), some (.int vI)] [] G C S K0 := by
    intro G mI vI e h0 h5 m0
    refine w_go z_hl [] [188] 40 e.1 ?_
    refine ⟨fun q => fun H hH => ?_, fun _ => fun H hH => out (y_st e hH (by repeat (first | exact w_nil | refine w_cons (Or.inl (y_m rfl)) ?_ | refine w_cons (Or.inr (by assumption)) ?_)) (by repeat (first | exact w_nil | refine w_cons (Or.inl (y_m rfl)) ?_ | refine w_cons (Or.inr (by assumption)) ?_)))⟩
    have q2 : mI.toInt ≤ (Int32.ofInt 5).toInt := (y_ci .le _ _).mp q
    rw [show (Int32.ofInt 5).toInt = 5 by decide] at q2
    have e2 := y_st e hH (by repeat (first | exact w_nil | refine w_cons (Or.inl (y_m rfl)) ?_ | refine w_cons (Or.inr (by assumption)) ?_)) (by repeat (first | exact w_nil | refine w_cons (Or.inl (y_m rfl)) ?_ | refine w_cons (Or.inr (by assumption)) ?_))
    refine aOK_deep (d := d + 2) (by omega) (q_weighsUp e2.1 (y_J_fr e2 rfl rfl hJ) (fun wl H2 e3 J3 hw => ⟨fun n e => (by cases e), ?_⟩))
    exact T81 (y_sq (y_mo e2 rfl rfl) e3 rfl rfl) J3 hw h0 h5 m0 q2
  have T18 : ∀ {G : aH}, y_fr h G [19584] [] → 0 ≤ hd.toInt → hd.toInt ≤ 5 → aOK s_P X (d + 12) a_m263 18 [some (.ref 155), some (.int hd), some (.int cl), none, none] [.int (y_01 true)] G C S K0 := by
    intro G e h0 h5
    refine w_go z_hl [28] [] 40 e.1 ?_
    refine ⟨fun _ => fun H hH => ?_, fun q => absurd q (by decide)⟩
    have e2 := y_st e hH (by repeat (first | exact w_nil | refine w_cons (Or.inl (y_m rfl)) ?_ | refine w_cons (Or.inr (by assumption)) ?_)) (by repeat (first | exact w_nil | refine w_cons (Or.inl (y_m rfl)) ?_ | refine w_cons (Or.inr (by assumption)) ?_))
    exact y_order_find (sa := sa) b1 b2 nd.toInt.toNat H _ _ 0 0 e2.1 ((y_fe e2 rfl).trans s1) rfl rfl (by omega) (by omega) (fun H' v' m' f' x0 x1 => T70 (y_sq (y_mo e2 rfl rfl) f' rfl rfl) h0 h5 x0)
  have T18n : ∀ {G : aH}, y_fr h G [19584] [] → aOK s_P X (d + 12) a_m263 18 [some (.ref 155), some (.int hd), some (.int cl), none, none] [.int (y_01 false)] G C S K0 := by
    intro G e
    refine w_go z_hl [] [] 30 e.1 ?_
    exact ⟨fun q => absurd q (by decide), fun _ => fun H hH => out (y_st (y_mo e rfl rfl) hH (by repeat (first | exact w_nil | refine w_cons (Or.inl (y_m rfl)) ?_ | refine w_cons (Or.inr (by assumption)) ?_)) (by repeat (first | exact w_nil | refine w_cons (Or.inl (y_m rfl)) ?_ | refine w_cons (Or.inr (by assumption)) ?_)))⟩
  have T10 : ∀ {G : aH}, y_fr h G [19584] [] → 0 ≤ hd.toInt → hd.toInt ≤ 5 → aOK s_P X (d + 12) a_m263 10 [some (.ref 155), some (.int hd), some (.int cl), none, none] [.int (y_01 true)] G C S K0 := by
    intro G e x0 x5
    refine w_go z_hl [] [178] 30 e.1 ?_
    refine ⟨fun q => absurd q (by decide), fun _ => fun H hH => ?_⟩
    have e2 := y_st e hH (by repeat (first | exact w_nil | refine w_cons (Or.inl (y_m rfl)) ?_ | refine w_cons (Or.inr (by assumption)) ?_)) (by repeat (first | exact w_nil | refine w_cons (Or.inl (y_m rfl)) ?_ | refine w_cons (Or.inr (by assumption)) ?_))
    refine q_isNode (v := cl) e2.1 ((y_fe e2 rfl).trans s1) (fun H2 v h2 hv hv2 hvc => ⟨fun n e => (by cases e), ?_⟩) (fun H2 h2 => ⟨fun n e => (by cases e), ?_⟩)
    · exact T18 (y_sq e2 h2 rfl rfl) x0 x5
    · exact T18n (y_sq e2 h2 rfl rfl)
  have T10n : ∀ {G : aH}, y_fr h G [19584] [] → aOK s_P X (d + 12) a_m263 10 [some (.ref 155), some (.int hd), some (.int cl), none, none] [.int (y_01 false)] G C S K0 := by
    intro G e
    refine w_go z_hl [] [] 30 e.1 ?_
    exact ⟨fun _ => fun H hH => out (y_st (y_mo e rfl rfl) hH (by repeat (first | exact w_nil | refine w_cons (Or.inl (y_m rfl)) ?_ | refine w_cons (Or.inr (by assumption)) ?_)) (by repeat (first | exact w_nil | refine w_cons (Or.inl (y_m rfl)) ?_ | refine w_cons (Or.inr (by assumption)) ?_))), fun q => absurd q (by decide)⟩
  refine w_go z_hl [] [257] 30 hr ?_
  refine ⟨rfl, y_zini (by decide) (by decide), fun H1 h1 => ?_⟩
  have e1 : y_fr h H1 [19584] [] := y_st (y_mo (y_rf hr) rfl rfl) h1 (by repeat (first | exact w_nil | refine w_cons (Or.inl (y_m rfl)) ?_ | refine w_cons (Or.inr (by assumption)) ?_)) (by repeat (first | exact w_nil | refine w_cons (Or.inl (y_m rfl)) ?_ | refine w_cons (Or.inr (by assumption)) ?_))
  refine y_isHead e1.1 (fun H2 h2 x0 x5 => ⟨fun n e => (by cases e), ?_⟩) (fun H2 h2 => ⟨fun n e => (by cases e), ?_⟩)
  · exact T10 (y_sq e1 h2 rfl rfl) x0 x5
  · exact T10n (y_sq e1 h2 rfl rfl)
end WG
