/-! ===== v3: the reference's hears, hear, errs ===== -/
section WG
variable {X : aX} {C S d : Nat} {K0 : Option Value → aH → Nat → Nat → Prop} {h : aH} {nd : Int32} {sa : List Int32} {wl : List Int64}
theorem y_hears_loop {hd cl tm : Int32} (h0 : 0 ≤ hd.toInt) (h5 : hd.toInt ≤ 5) (m0 : 0 ≤ tm.toInt) (m10 : tm.toInt ≤ 10) : ∀ (m : Nat) (h : aH) (kI : Int32) (k : Nat) (o4 o5 o6 : Option Value), y_wc h nd sa wl → y_od h → w_f h 19629 = some (.int tm) → kI.toInt = k → (k : Int) + m = tm.toInt → (∀ (x : Int32) (H : aH), y_fr h H [19587, 19588, 19589, 19630, 19631, 19632, 19633] [] → y_od H → K0 (some (.int x)) H C S) → aOK s_P X (d + 4) a_m259 87 [some (.ref 155), some (.int hd), some (.int cl), some (.int kI), o4, o5, o6] [] h C S K0 := by
  intro m
  induction m with
  | zero =>
    intro h kI k o4 o5 o6 s od g hk hm hK
    refine w_go z_hl [87] [] 30 s.1 ?_
    intro x hx _ _
    obtain rfl := y_fi g hx
    refine ⟨fun _ => fun H hH => ?_, fun q => ?_⟩
    · have f : y_fr h H [] [] := y_st (y_rf s.1) hH (by repeat (first | exact w_nil | refine w_cons (Or.inl (y_m rfl)) ?_ | refine w_cons (Or.inr (by assumption)) ?_)) (by repeat (first | exact w_nil | refine w_cons (Or.inl (y_m rfl)) ?_ | refine w_cons (Or.inr (by assumption)) ?_))
      exact hK _ H (y_mo f rfl rfl) (y_od_fr od f rfl rfl)
    · have : ¬ (tm.toInt ≤ kI.toInt) := y_cif q
      omega
  | succ m ih =>
    intro h kI k o4 o5 o6 s od g hk hm hK
    have ink : (kI + Int32.ofInt 1).toInt = ((k + 1 : Nat) : Int) := by rw [y_inc (by omega), hk]; rfl
    have T129 : ∀ {G : aH} {x : Int32}, y_fr h G [19587, 19588, 19589, 19630, 19631, 19632, 19633] [] → y_od G → aOK s_P X (d + 4) a_m259 129 [some (.ref 155), some (.int hd), some (.int cl), some (.int kI), o4, o5, o6] [.int x] G C S K0 := by
      intro G x e od2
      have f0 : y_fr G G [] [] := y_rf e.1
      refine w_go z_hl [87] [] 30 e.1 ?_
      refine ⟨fun _ => fun H hH => ?_, fun _ => fun H hH => hK _ H (y_sq e (y_st f0 hH (by repeat (first | exact w_nil | refine w_cons (Or.inl (y_m rfl)) ?_ | refine w_cons (Or.inr (by assumption)) ?_)) (by repeat (first | exact w_nil | refine w_cons (Or.inl (y_m rfl)) ?_ | refine w_cons (Or.inr (by assumption)) ?_))) rfl rfl) (y_od_fr od2 (y_st f0 hH (by repeat (first | exact w_nil | refine w_cons (Or.inl (y_m rfl)) ?_ | refine w_cons (Or.inr (by assumption)) ?_)) (by repeat (first | exact w_nil | refine w_cons (Or.inl (y_m rfl)) ?_ | refine w_cons (Or.inr (by assumption)) ?_))) rfl rfl)⟩
      have f : y_fr G H [] [] := y_st f0 hH (by repeat (first | exact w_nil | refine w_cons (Or.inl (y_m rfl)) ?_ | refine w_cons (Or.inr (by assumption)) ?_)) (by repeat (first | exact w_nil | refine w_cons (Or.inl (y_m rfl)) ?_ | refine w_cons (Or.inr (by assumption)) ?_))
      have e2 := y_sq e f rfl rfl
      exact ih H _ (k + 1) _ _ _ (y_wc_fr s e2 rfl rfl rfl) (y_od_fr od2 f rfl rfl) ((y_fe e2 rfl).trans g) ink (by omega) (fun x H' f' o => hK x H' (y_sq e2 f' rfl rfl) o)
    have T117 : ∀ {G : aH}, y_fr h G [] [] → aOK s_P X (d + 4) a_m259 117 [some (.ref 155), some (.int hd), some (.int cl), some (.int kI), o4, o5, o6] [] G C S K0 := by
      intro G e
      refine w_go z_hl [] [261] 30 e.1 ?_
      refine ⟨⟨by omega, by omega⟩, fun l hl len bb => fun H hH => ?_⟩
      have hm := bb _ (z_gd (0 : Int32) (show kI.toNatClampNeg < l.length by have := y_cl1 hk; omega))
      have e2 := y_st e hH (by repeat (first | exact w_nil | refine w_cons (Or.inl (y_m rfl)) ?_ | refine w_cons (Or.inr (by assumption)) ?_)) (by repeat (first | exact w_nil | refine w_cons (Or.inl (y_m rfl)) ?_ | refine w_cons (Or.inr (by assumption)) ?_))
      refine y_hearsOne (y_wc_fr s e2 rfl rfl rfl) (y_od_fr od e2 rfl rfl) h0 h5 hm.1 hm.2 (fun x H2 f2 o2 => ⟨fun n e => (by cases e), ?_⟩)
      exact T129 (y_sq (y_mo e2 rfl rfl) f2 rfl rfl) o2
    have T102 : ∀ {G : aH} {c : Bool}, y_fr h G [] [] → aOK s_P X (d + 4) a_m259 102 [some (.ref 155), some (.int hd), some (.int cl), some (.int kI), o4, o5, o6] [.int (y_01 c)] G C S K0 := by
      intro G c e
      refine w_go z_hl [117] [] 30 e.1 ?_
      refine ⟨fun _ => fun H hH => T117 (y_st e hH (by repeat (first | exact w_nil | refine w_cons (Or.inl (y_m rfl)) ?_ | refine w_cons (Or.inr (by assumption)) ?_)) (by repeat (first | exact w_nil | refine w_cons (Or.inl (y_m rfl)) ?_ | refine w_cons (Or.inr (by assumption)) ?_))), fun _ => ⟨⟨by omega, by omega⟩, fun l hl len bb => ⟨fun _ => fun H hH => T117 (y_st e hH (by repeat (first | exact w_nil | refine w_cons (Or.inl (y_m rfl)) ?_ | refine w_cons (Or.inr (by assumption)) ?_)) (by repeat (first | exact w_nil | refine w_cons (Or.inl (y_m rfl)) ?_ | refine w_cons (Or.inr (by assumption)) ?_))), fun _ => fun H hH => hK _ H (y_mo (y_st e hH (by repeat (first | exact w_nil | refine w_cons (Or.inl (y_m rfl)) ?_ | refine w_cons (Or.inr (by assumption)) ?_)) (by repeat (first | exact w_nil | refine w_cons (Or.inl (y_m rfl)) ?_ | refine w_cons (Or.inr (by assumption)) ?_)) : y_fr h H [] []) rfl rfl) (y_od_fr od (y_st e hH (by repeat (first | exact w_nil | refine w_cons (Or.inl (y_m rfl)) ?_ | refine w_cons (Or.inr (by assumption)) ?_)) (by repeat (first | exact w_nil | refine w_cons (Or.inl (y_m rfl)) ?_ | refine w_cons (Or.inr (by assumption)) ?_)) : y_fr h H [] []) rfl rfl)⟩⟩⟩
    refine w_go z_hl [87] [260] 30 s.1 ?_
    intro x hx _ _
    obtain rfl := y_fi g hx
    refine ⟨fun q => ?_, fun _ => fun H hH => ?_⟩
    · have : tm.toInt ≤ kI.toInt := (y_ci .ge _ _).mp q
      omega
    · have e : y_fr h H [] [] := y_st (y_rf s.1) hH (by repeat (first | exact w_nil | refine w_cons (Or.inl (y_m rfl)) ?_ | refine w_cons (Or.inr (by assumption)) ?_)) (by repeat (first | exact w_nil | refine w_cons (Or.inl (y_m rfl)) ?_ | refine w_cons (Or.inr (by assumption)) ?_))
      refine y_habit e.1 h0 h5 (fun c H2 e3 => ⟨fun n e => (by cases e), ?_⟩)
      exact T102 (y_sq e e3 rfl rfl)
theorem y_hears (s : y_wc h nd sa wl) {hd cl tm : Int32} (h0 : 0 ≤ hd.toInt) (h5 : hd.toInt ≤ 5) (g : w_f h 19629 = some (.int tm)) (m0 : 0 ≤ tm.toInt) (m10 : tm.toInt ≤ 10) (hK : ∀ (x : Int32) (H : aH), y_fr h H [19587, 19588, 19589, 19630, 19631, 19632, 19633] [] → y_od H → K0 (some (.int x)) H C S) : aOK s_P X (d + 4) a_m259 0 [some (.ref 155), some (.int hd), some (.int cl), none, none, none, none] [] h C S K0 := by
  have T85 : ∀ {G : aH} {o3 o4 o5 o6 : Option Value}, y_fr h G [19587, 19588, 19589, 19630, 19631, 19632, 19633] [] → y_od G → aOK s_P X (d + 4) a_m259 85 [some (.ref 155), some (.int hd), some (.int cl), o3, o4, o5, o6] [] G C S K0 := by
    intro G o3 o4 o5 o6 e od2
    refine w_go z_hl [87] [] 30 e.1 ?_
    intro H hH
    have f : y_fr G H [] [] := y_st (y_rf e.1) hH (by repeat (first | exact w_nil | refine w_cons (Or.inl (y_m rfl)) ?_ | refine w_cons (Or.inr (by assumption)) ?_)) (by repeat (first | exact w_nil | refine w_cons (Or.inl (y_m rfl)) ?_ | refine w_cons (Or.inr (by assumption)) ?_))
    have e2 := y_sq e f rfl rfl
    exact y_hears_loop h0 h5 m0 m10 tm.toInt.toNat H _ 0 _ _ _ (y_wc_fr s e2 rfl rfl rfl) (y_od_fr od2 f rfl rfl) ((y_fe e2 rfl).trans g) rfl (by omega) (fun x H' f' o => hK x H' (y_sq e2 f' rfl rfl) o)
  have T69 : ∀ {G : aH} {a b u l : Int64}, y_fr h G [19587, 19588, 19589, 19630, 19631, 19632, 19633] [] → w_f G 19587 = some (.long u) → w_f G 19588 = some (.long l) → 0 ≤ u.toInt → 1 ≤ l.toInt → aOK s_P X (d + 4) a_m259 69 [some (.ref 155), some (.int hd), some (.int cl), some (.long a), none, some (.long b), none] [] G C S K0 := by
    intro G a b u l e f1 f2 u0 l1
    refine w_go z_hl [85] [] 30 e.1 ?_
    intro x hx _ _
    obtain rfl := y_fl f1 hx
    refine ⟨rfl, y_zin u0 (y_l64 u).2, ?_⟩
    intro y hy _ _
    obtain rfl := y_fl f2 hy
    refine ⟨rfl, y_zin (by show 0 ≤ l.toInt; omega) (y_l64 l).2, fun H hH => ?_⟩
    exact T85 (y_st e hH (by repeat (first | exact w_nil | refine w_cons (Or.inl (y_m rfl)) ?_ | refine w_cons (Or.inr (by assumption)) ?_)) (by repeat (first | exact w_nil | refine w_cons (Or.inl (y_m rfl)) ?_ | refine w_cons (Or.inr (by assumption)) ?_))) ⟨u, l, hH.2.1 19630 _ rfl, hH.2.1 19631 _ rfl, u0, l1⟩
  have T51 : ∀ {G : aH} {a b : Int64}, y_fr h G [19587, 19588, 19589, 19630, 19631, 19632, 19633] [] → y_od G → 0 ≤ a.toInt → 0 ≤ b.toInt → aOK s_P X (d + 4) a_m259 51 [some (.ref 155), some (.int hd), some (.int cl), some (.long a), none, none, none] [.long b] G C S K0 := by
    intro G a b e od2 a0 b0
    have f0 : y_fr G G [] [] := y_rf e.1
    refine w_go z_hl [] [194] 30 e.1 ?_
    refine ⟨fun q => fun H hH => ?_, fun _ => fun H hH => hK _ H (y_sq e (y_st f0 hH (by repeat (first | exact w_nil | refine w_cons (Or.inl (y_m rfl)) ?_ | refine w_cons (Or.inr (by assumption)) ?_)) (by repeat (first | exact w_nil | refine w_cons (Or.inl (y_m rfl)) ?_ | refine w_cons (Or.inr (by assumption)) ?_))) rfl rfl) (y_od_fr od2 (y_st f0 hH (by repeat (first | exact w_nil | refine w_cons (Or.inl (y_m rfl)) ?_ | refine w_cons (Or.inr (by assumption)) ?_)) (by repeat (first | exact w_nil | refine w_cons (Or.inl (y_m rfl)) ?_ | refine w_cons (Or.inr (by assumption)) ?_))) rfl rfl)⟩
    have q2 : b.toInt ≠ (Int64.ofNat 0).toInt := (y_cl .ne _ _).mp q
    rw [show (Int64.ofNat 0).toInt = 0 by decide] at q2
    have e2 := y_st e hH (by repeat (first | exact w_nil | refine w_cons (Or.inl (y_m rfl)) ?_ | refine w_cons (Or.inr (by assumption)) ?_)) (by repeat (first | exact w_nil | refine w_cons (Or.inl (y_m rfl)) ?_ | refine w_cons (Or.inr (by assumption)) ?_))
    refine q_lowest (n := a) (m := b) e2.1 (by omega) (by omega) (fun u' l' H2 e3 g1 g2 g3 g4 g5 g6 g7 => ⟨fun n e => (by cases e), ?_⟩)
    exact T69 (y_sq e2 e3 rfl rfl) g1 g2 (g7 a0) g3
  have T42 : ∀ {G : aH} {a : Int64}, y_fr h G [19587, 19588, 19589, 19630, 19631, 19632, 19633] [] → y_od G → 0 ≤ a.toInt → aOK s_P X (d + 4) a_m259 42 [some (.ref 155), some (.int hd), some (.int cl), none, none, none, none] [.long a] G C S K0 := by
    intro G a e od2 a0
    refine w_go z_hl [] [193] 30 e.1 ?_
    intro H hH
    have f : y_fr G H [] [] := y_st (y_rf e.1) hH (by repeat (first | exact w_nil | refine w_cons (Or.inl (y_m rfl)) ?_ | refine w_cons (Or.inr (by assumption)) ?_)) (by repeat (first | exact w_nil | refine w_cons (Or.inl (y_m rfl)) ?_ | refine w_cons (Or.inr (by assumption)) ?_))
    have e2 := y_sq e f rfl rfl
    refine aOK_deep (d := d + 1) (by omega) (q_weighs (y_wc_fr s e2 rfl rfl rfl) (fun r H2 e3 r0 r8 => ⟨fun n e => (by cases e), ?_⟩))
    exact T51 (y_sq e2 e3 rfl rfl) (y_od_fr (y_od_fr od2 f rfl rfl) e3 rfl rfl) a0 r0
  have T31 : ∀ {G : aH} {c : Bool}, y_fr h G [19587, 19588, 19589, 19630, 19631, 19632, 19633] [] → y_od G → aOK s_P X (d + 4) a_m259 31 [some (.ref 155), some (.int hd), some (.int cl), none, none, none, none] [.int (y_01 c)] G C S K0 := by
    intro G c e od2
    have f0 : y_fr G G [] [] := y_rf e.1
    refine w_go z_hl [85] [193] 30 e.1 ?_
    refine ⟨fun _ => fun H hH => T85 (y_sq e (y_st f0 hH (by repeat (first | exact w_nil | refine w_cons (Or.inl (y_m rfl)) ?_ | refine w_cons (Or.inr (by assumption)) ?_)) (by repeat (first | exact w_nil | refine w_cons (Or.inl (y_m rfl)) ?_ | refine w_cons (Or.inr (by assumption)) ?_))) rfl rfl) (y_od_fr od2 (y_st f0 hH (by repeat (first | exact w_nil | refine w_cons (Or.inl (y_m rfl)) ?_ | refine w_cons (Or.inr (by assumption)) ?_)) (by repeat (first | exact w_nil | refine w_cons (Or.inl (y_m rfl)) ?_ | refine w_cons (Or.inr (by assumption)) ?_))) rfl rfl), fun _ => fun H hH => ?_⟩
    have f : y_fr G H [] [] := y_st f0 hH (by repeat (first | exact w_nil | refine w_cons (Or.inl (y_m rfl)) ?_ | refine w_cons (Or.inr (by assumption)) ?_)) (by repeat (first | exact w_nil | refine w_cons (Or.inl (y_m rfl)) ?_ | refine w_cons (Or.inr (by assumption)) ?_))
    have e2 := y_sq e f rfl rfl
    refine aOK_deep (d := d + 1) (by omega) (q_weighs (y_wc_fr s e2 rfl rfl rfl) (fun r H2 e3 r0 r8 => ⟨fun n e => (by cases e), ?_⟩))
    exact T42 (y_sq e2 e3 rfl rfl) (y_od_fr (y_od_fr od2 f rfl rfl) e3 rfl rfl) r0
  refine w_go z_hl [] [260] 30 s.1 ?_
  refine ⟨rfl, y_zini (by decide) (by decide), rfl, y_zin (by decide) (by decide), rfl, y_zin (by decide) (by decide), rfl, y_zini (by decide) (by decide), rfl, y_zini (by decide) (by decide), fun H hH => ?_⟩
  have e : y_fr h H [19587, 19588, 19589, 19630, 19631, 19632, 19633] [] := y_st (y_mo (y_rf s.1) rfl rfl) hH (by repeat (first | exact w_nil | refine w_cons (Or.inl (y_m rfl)) ?_ | refine w_cons (Or.inr (by assumption)) ?_)) (by repeat (first | exact w_nil | refine w_cons (Or.inl (y_m rfl)) ?_ | refine w_cons (Or.inr (by assumption)) ?_))
  have od1 : y_od H := ⟨_, _, hH.2.1 19630 _ rfl, hH.2.1 19631 _ rfl, by decide, by decide⟩
  refine y_habit e.1 h0 h5 (fun c H2 e3 => ⟨fun n e => (by cases e), ?_⟩)
  exact T31 (y_sq e e3 rfl rfl) (y_od_fr od1 e3 rfl rfl)
theorem y_tells_loop {cl sm : Int32} (m0 : 0 ≤ sm.toInt) (m10 : sm.toInt ≤ 10) : ∀ (m : Nat) (h : aH) (kI tI : Int32) (k t : Nat), w_hr z_D h → w_f h 19598 = some (.int sm) → w_f h 19629 = some (.int tI) → kI.toInt = k → tI.toInt = t → t ≤ k → (k : Int) + m = sm.toInt → (∀ (H : aH) (t' : Int32), y_fr h H [19629] [179] → w_f H 19629 = some (.int t') → 0 ≤ t'.toInt → t'.toInt ≤ 10 → K0 none H C S) → aOK s_P X d a_m258 7 [some (.ref 155), some (.int cl), some (.int kI)] [] h C S K0 := by
  intro m
  induction m with
  | zero =>
    intro h kI tI k t hr g1 g2 hk ht tk hm hK
    refine w_go z_hl [7] [] 30 hr ?_
    intro x hx _ _
    obtain rfl := y_fi g1 hx
    refine ⟨fun _ => fun H hH => ?_, fun q => ?_⟩
    · have f : y_fr h H [] [] := y_st (y_rf hr) hH (by repeat (first | exact w_nil | refine w_cons (Or.inl (y_m rfl)) ?_ | refine w_cons (Or.inr (by assumption)) ?_)) (by repeat (first | exact w_nil | refine w_cons (Or.inl (y_m rfl)) ?_ | refine w_cons (Or.inr (by assumption)) ?_))
      exact hK H tI (y_mo f rfl rfl) ((y_fe f rfl).trans g2) (by omega) (by omega)
    · have : ¬ (sm.toInt ≤ kI.toInt) := y_cif q
      omega
  | succ m ih =>
    intro h kI tI k t hr g1 g2 hk ht tk hm hK
    have ink : (kI + Int32.ofInt 1).toInt = ((k + 1 : Nat) : Int) := by rw [y_inc (by omega), hk]; rfl
    have int : (tI + Int32.ofInt 1).toInt = ((t + 1 : Nat) : Int) := by rw [y_inc (by omega), ht]; rfl
    refine w_go z_hl [7] [] 40 hr ?_
    intro x hx _ _
    obtain rfl := y_fi g1 hx
    refine ⟨fun q => ?_, fun _ => ⟨⟨by omega, by omega⟩, fun l hl len bb => ⟨fun _ => fun H hH => ?_, fun _ => ?_⟩⟩⟩
    · have : sm.toInt ≤ kI.toInt := (y_ci .ge _ _).mp q
      omega
    · have f : y_fr h H [] [] := y_st (y_rf hr) hH (by repeat (first | exact w_nil | refine w_cons (Or.inl (y_m rfl)) ?_ | refine w_cons (Or.inr (by assumption)) ?_)) (by repeat (first | exact w_nil | refine w_cons (Or.inl (y_m rfl)) ?_ | refine w_cons (Or.inr (by assumption)) ?_))
      exact ih H _ tI (k + 1) t f.1 ((y_fe f rfl).trans g1) ((y_fe f rfl).trans g2) ink ht (by omega) (by omega) (fun H' t' f' x1 x2 x3 => hK H' t' (y_sq (y_mo f rfl rfl) f' rfl rfl) x1 x2 x3)
    · intro y hy _ _
      obtain rfl := y_fi g2 hy
      have hmm := bb _ (z_gd (0 : Int32) (show kI.toNatClampNeg < l.length by have := y_cl1 hk; omega))
      refine ⟨⟨by omega, by omega⟩, ⟨by omega, by omega⟩, hmm, fun l2 hl2 len2 bb2 => ⟨rfl, y_zini (by show 0 ≤ (tI + Int32.ofInt 1).toInt; omega) (by show (tI + Int32.ofInt 1).toInt ≤ 10; omega), fun H hH => ?_⟩⟩
      have f : y_fr h H [19629] [179] := y_st (y_mo (y_rf hr) rfl rfl) hH (by repeat (first | exact w_nil | refine w_cons (Or.inl (y_m rfl)) ?_ | refine w_cons (Or.inr (by assumption)) ?_)) (by repeat (first | exact w_nil | refine w_cons (Or.inl (y_m rfl)) ?_ | refine w_cons (Or.inr (by assumption)) ?_))
      exact ih H _ _ (k + 1) (t + 1) f.1 ((y_fe f rfl).trans g1) (hH.2.1 19629 _ rfl) ink int (by omega) (by omega) (fun H' t' f' x1 x2 x3 => hK H' t' (y_sq f f' rfl rfl) x1 x2 x3)
theorem y_tellsAll (hr : w_hr z_D h) {cl sm : Int32} (g1 : w_f h 19598 = some (.int sm)) (hK : ∀ (H : aH) (t' : Int32), y_fr h H [19629] [179] → w_f H 19629 = some (.int t') → 0 ≤ t'.toInt → t'.toInt ≤ 10 → K0 none H C S) : aOK s_P X d a_m258 0 [some (.ref 155), some (.int cl), none] [] h C S K0 := by
  obtain ⟨m0, m10⟩ := y_smb hr g1
  refine w_go z_hl [7] [] 30 hr ?_
  refine ⟨rfl, y_zini (by decide) (by decide), fun H hH => ?_⟩
  have f : y_fr h H [19629] [179] := y_st (y_mo (y_rf hr) rfl rfl) hH (by repeat (first | exact w_nil | refine w_cons (Or.inl (y_m rfl)) ?_ | refine w_cons (Or.inr (by assumption)) ?_)) (by repeat (first | exact w_nil | refine w_cons (Or.inl (y_m rfl)) ?_ | refine w_cons (Or.inr (by assumption)) ?_))
  exact y_tells_loop m0 m10 sm.toInt.toNat H _ _ 0 0 f.1 ((y_fe f rfl).trans g1) (hH.2.1 19629 _ rfl) rfl rfl (by omega) (by omega) (fun H' t' f' x1 x2 x3 => hK H' t' (y_sq f f' rfl rfl) x1 x2 x3)
theorem y_isHead (hr : w_hr z_D h) {v : Int32} (yes : ∀ H, y_fr h H [] [] → 0 ≤ v.toInt → v.toInt ≤ 5 → K0 (some (.int (y_01 true))) H C S) (no : ∀ H, y_fr h H [] [] → K0 (some (.int (y_01 false))) H C S) : aOK s_P X (d + 1) a_m257 0 [some (.ref 155), some (.int v)] [] h C S K0 := by
  have T13 : ∀ {G : aH} {b : Bool}, y_fr h G [] [] → (b = true → 0 ≤ v.toInt ∧ v.toInt ≤ 5) → aOK s_P X (d + 1) a_m257 13 [some (.ref 155), some (.int v)] [.int (y_01 b)] G C S K0 := by
    intro G b e hb
    refine w_go z_hl [] [] 30 e.1 ?_
    refine ⟨y_01b b, fun H hH => ?_⟩
    cases b with
    | true => exact yes H (y_st e hH (by repeat (first | exact w_nil | refine w_cons (Or.inl (y_m rfl)) ?_ | refine w_cons (Or.inr (by assumption)) ?_)) (by repeat (first | exact w_nil | refine w_cons (Or.inl (y_m rfl)) ?_ | refine w_cons (Or.inr (by assumption)) ?_))) (hb rfl).1 (hb rfl).2
    | false => exact no H (y_st e hH (by repeat (first | exact w_nil | refine w_cons (Or.inl (y_m rfl)) ?_ | refine w_cons (Or.inr (by assumption)) ?_)) (by repeat (first | exact w_nil | refine w_cons (Or.inl (y_m rfl)) ?_ | refine w_cons (Or.inr (by assumption)) ?_)))
  refine w_go z_hl [] [176] 30 hr ?_
  intro x hx x0 x6
  have x0' : 0 ≤ x.toInt := x0
  have x6' : x.toInt ≤ 6 := x6
  intro H hH
  have e : y_fr h H [] [] := y_st (y_rf hr) hH (by repeat (first | exact w_nil | refine w_cons (Or.inl (y_m rfl)) ?_ | refine w_cons (Or.inr (by assumption)) ?_)) (by repeat (first | exact w_nil | refine w_cons (Or.inl (y_m rfl)) ?_ | refine w_cons (Or.inr (by assumption)) ?_))
  refine q_in (v := v.toInt64) (lo := Int64.ofNat 0) (hi := (x - Int32.ofInt 1).toInt64) e.1 (fun H2 e2 l1 l2 => ⟨fun n e => (by cases e), ?_⟩) (fun H2 e2 _ => ⟨fun n e => (by cases e), ?_⟩)
  · rw [y_i2l] at l1
    rw [y_i2l, y_i2l, y_sub1 x0'] at l2
    have l1 : 0 ≤ v.toInt := l1
    exact T13 (b := true) (y_sq e e2 rfl rfl) (fun _ => ⟨l1, by omega⟩)
  · exact T13 (b := false) (y_sq e e2 rfl rfl) (fun q => by cases q)
theorem y_hear_tail (s : y_wc h nd sa wl) {hd cl sm : Int32} (g : w_f h 19598 = some (.int sm)) (h0 : 0 ≤ hd.toInt) (h5 : hd.toInt ≤ 5) (hk : ∀ (r : Int32) (H : aH), y_fr h H [19585, 19587, 19588, 19589, 19629, 19630, 19631, 19632, 19633] [154, 179] → K0 (some (.int r)) H C S) : aOK s_P X (d + 5) a_m256 27 [some (.ref 155), some (.int hd), some (.int cl), none] [] h C S K0 := by
  have T64 : ∀ {G : aH} {x : Int32}, y_fr h G [19585, 19587, 19588, 19589, 19629, 19630, 19631, 19632, 19633] [154, 179] → aOK s_P X (d + 5) a_m256 64 [some (.ref 155), some (.int hd), some (.int cl), some (.int x)] [] G C S K0 := by
    intro G x e
    refine w_go z_hl [] [] 30 e.1 ?_
    exact fun H hH => hk _ H (y_st e hH (by repeat (first | exact w_nil | refine w_cons (Or.inl (y_m rfl)) ?_ | refine w_cons (Or.inr (by assumption)) ?_)) (by repeat (first | exact w_nil | refine w_cons (Or.inl (y_m rfl)) ?_ | refine w_cons (Or.inr (by assumption)) ?_)))
  have T56 : ∀ {G : aH} {x r1 : Int32}, y_fr h G [19585, 19587, 19588, 19589, 19629, 19630, 19631, 19632, 19633] [154, 179] → w_f G 19585 = some (.int r1) → r1.toInt = 1 → aOK s_P X (d + 5) a_m256 56 [some (.ref 155), some (.int hd), some (.int cl), some (.int x)] [] G C S K0 := by
    intro G x r1 e g1 hr1
    refine w_go z_hl [] [197] 30 e.1 ?_
    intro y hy _ _
    intro H hH
    have f : y_fr G H [] [] := y_st (y_rf e.1) hH (by repeat (first | exact w_nil | refine w_cons (Or.inl (y_m rfl)) ?_ | refine w_cons (Or.inr (by assumption)) ?_)) (by repeat (first | exact w_nil | refine w_cons (Or.inl (y_m rfl)) ?_ | refine w_cons (Or.inr (by assumption)) ?_))
    refine y_enters f.1 ((y_fe f rfl).trans g1) (by omega) (by omega) (fun H2 r2 e3 _ _ => ⟨fun n e => (by cases e), ?_⟩)
    exact T64 (y_sq (y_sq e f rfl rfl) e3 rfl rfl)
  have T38 : ∀ {G : aH} {x : Int32}, y_fr h G [19585, 19587, 19588, 19589, 19629, 19630, 19631, 19632, 19633] [154, 179] → aOK s_P X (d + 5) a_m256 38 [some (.ref 155), some (.int hd), some (.int cl), none] [.int x] G C S K0 := by
    intro G x e
    refine w_go z_hl [64] [197] 30 e.1 ?_
    refine ⟨fun _ => fun H hH => T64 (y_st e hH (by repeat (first | exact w_nil | refine w_cons (Or.inl (y_m rfl)) ?_ | refine w_cons (Or.inr (by assumption)) ?_)) (by repeat (first | exact w_nil | refine w_cons (Or.inl (y_m rfl)) ?_ | refine w_cons (Or.inr (by assumption)) ?_))), fun _ => ⟨rfl, y_zini (by decide) (by decide), ?_⟩⟩
    intro y hy _ _
    intro H hH
    have e2 := y_st e hH (by repeat (first | exact w_nil | refine w_cons (Or.inl (y_m rfl)) ?_ | refine w_cons (Or.inr (by assumption)) ?_)) (by repeat (first | exact w_nil | refine w_cons (Or.inl (y_m rfl)) ?_ | refine w_cons (Or.inr (by assumption)) ?_))
    refine y_enters e2.1 (hH.2.1 19585 _ rfl) (by decide) (by decide) (fun H2 r2 e3 g3 hr3 => ⟨fun n e => (by cases e), ?_⟩)
    exact T56 (y_sq e2 e3 rfl rfl) g3 (by rw [hr3]; decide)
  have T32 : ∀ {G : aH} {t : Int32}, y_fr h G [19585, 19587, 19588, 19589, 19629, 19630, 19631, 19632, 19633] [154, 179] → w_f G 19629 = some (.int t) → 0 ≤ t.toInt → t.toInt ≤ 10 → aOK s_P X (d + 5) a_m256 32 [some (.ref 155), some (.int hd), some (.int cl), none] [] G C S K0 := by
    intro G t e g1 t0 t10
    refine w_go z_hl [] [259] 30 e.1 ?_
    intro H hH
    have f : y_fr G H [] [] := y_st (y_rf e.1) hH (by repeat (first | exact w_nil | refine w_cons (Or.inl (y_m rfl)) ?_ | refine w_cons (Or.inr (by assumption)) ?_)) (by repeat (first | exact w_nil | refine w_cons (Or.inl (y_m rfl)) ?_ | refine w_cons (Or.inr (by assumption)) ?_))
    have e2 := y_sq e f rfl rfl
    refine y_hears (y_wc_fr s e2 rfl rfl rfl) h0 h5 ((y_fe f rfl).trans g1) t0 t10 (fun x H2 f2 _ => ⟨fun n e => (by cases e), ?_⟩)
    exact T38 (y_sq e2 f2 rfl rfl)
  have e0 : y_fr h h [19585, 19587, 19588, 19589, 19629, 19630, 19631, 19632, 19633] [154, 179] := y_mo (y_rf s.1) rfl rfl
  refine w_go z_hl [] [258] 30 s.1 ?_
  intro H hH
  have f : y_fr h H [] [] := y_st (y_rf s.1) hH (by repeat (first | exact w_nil | refine w_cons (Or.inl (y_m rfl)) ?_ | refine w_cons (Or.inr (by assumption)) ?_)) (by repeat (first | exact w_nil | refine w_cons (Or.inl (y_m rfl)) ?_ | refine w_cons (Or.inr (by assumption)) ?_))
  refine y_tellsAll f.1 ((y_fe f rfl).trans g) (fun H2 t' f2 g2 x0 x1 => ⟨fun n e => (by cases e), ?_⟩)
  exact T32 (y_sq (y_mo f rfl rfl) f2 rfl rfl) g2 x0 x1
theorem p_hear (hr : w_hr z_D h) (hJ : y_J h) {hd cl : Int32} (hk : ∀ (r : Int32) (H : aH), y_fr h H [19584, 19585, 19587, 19588, 19589, 19629, 19630, 19631, 19632, 19633] [154, 163, 179] → y_J H → K0 (some (.int r)) H C S) : aOK s_P X (d + 5) a_m256 0 [some (.ref 155), some (.int hd), some (.int cl), none] [] h C S K0 := by
  obtain ⟨nd, sm, so, sa, s1, s2, s3, s4, s5⟩ := id hJ.2.2.2.2.1
  obtain ⟨b1, b2⟩ := y_ndb hr s1
  have out : ∀ {G : aH} {r : Int32}, y_fr h G [19584] [] → K0 (some (.int r)) G C S := fun g => hk _ _ (y_mo g rfl rfl) (y_J_fr g rfl rfl hJ)
  have T18 : ∀ {G : aH} {v : Nat}, y_fr h G [19584] [] → 0 ≤ hd.toInt → hd.toInt ≤ 5 → cl.toInt = v → v < 10 → aOK s_P X (d + 5) a_m256 18 [some (.ref 155), some (.int hd), some (.int cl), none] [.int (y_01 true)] G C S K0 := by
    intro G v e x0 x5 hv v10
    refine w_go z_hl [] [188] 30 e.1 ?_
    refine ⟨fun _ => fun H hH => ?_, fun q => absurd q (by decide)⟩
    have e2 := y_st e hH (by repeat (first | exact w_nil | refine w_cons (Or.inl (y_m rfl)) ?_ | refine w_cons (Or.inr (by assumption)) ?_)) (by repeat (first | exact w_nil | refine w_cons (Or.inl (y_m rfl)) ?_ | refine w_cons (Or.inr (by assumption)) ?_))
    refine aOK_deep (d := d + 2) (by omega) (q_weighsUp e2.1 (y_J_fr e2 rfl rfl hJ) (fun wl H2 e3 J3 hw => ⟨fun n e => (by cases e), ?_⟩))
    have e4 : y_fr h H2 [19584] [163] := y_sq (y_mo e2 rfl rfl) e3 rfl rfl
    refine y_hear_tail ⟨e4.1, (y_fe e4 rfl).trans s1, (y_ae e4 rfl).trans s4, hw⟩ ((y_fe e4 rfl).trans s2) x0 x5 (fun r H5 e5 => ?_)
    exact hk r H5 (y_sq (y_mo e4 rfl rfl) e5 rfl rfl) (y_J_fr e5 rfl rfl J3)
  have T18n : ∀ {G : aH}, y_fr h G [19584] [] → aOK s_P X (d + 5) a_m256 18 [some (.ref 155), some (.int hd), some (.int cl), none] [.int (y_01 false)] G C S K0 := by
    intro G e
    refine w_go z_hl [] [] 30 e.1 ?_
    exact ⟨fun q => absurd q (by decide), fun _ => fun H hH => out (y_st e hH (by repeat (first | exact w_nil | refine w_cons (Or.inl (y_m rfl)) ?_ | refine w_cons (Or.inr (by assumption)) ?_)) (by repeat (first | exact w_nil | refine w_cons (Or.inl (y_m rfl)) ?_ | refine w_cons (Or.inr (by assumption)) ?_)))⟩
  have T10 : ∀ {G : aH}, y_fr h G [19584] [] → 0 ≤ hd.toInt → hd.toInt ≤ 5 → aOK s_P X (d + 5) a_m256 10 [some (.ref 155), some (.int hd), some (.int cl), none] [.int (y_01 true)] G C S K0 := by
    intro G e x0 x5
    refine w_go z_hl [] [178] 30 e.1 ?_
    refine ⟨fun q => absurd q (by decide), fun _ => fun H hH => ?_⟩
    have e2 := y_st e hH (by repeat (first | exact w_nil | refine w_cons (Or.inl (y_m rfl)) ?_ | refine w_cons (Or.inr (by assumption)) ?_)) (by repeat (first | exact w_nil | refine w_cons (Or.inl (y_m rfl)) ?_ | refine w_cons (Or.inr (by assumption)) ?_))
    refine q_isNode (v := cl) e2.1 ((y_fe e2 rfl).trans s1) (fun H2 v h2 hv hv2 hvc => ⟨fun n e => (by cases e), ?_⟩) (fun H2 h2 => ⟨fun n e => (by cases e), ?_⟩)
    · exact T18 (y_sq e2 h2 rfl rfl) x0 x5 hv (by omega)
    · exact T18n (y_sq e2 h2 rfl rfl)
  have T10n : ∀ {G : aH}, y_fr h G [19584] [] → aOK s_P X (d + 5) a_m256 10 [some (.ref 155), some (.int hd), some (.int cl), none] [.int (y_01 false)] G C S K0 := by
    intro G e
    refine w_go z_hl [] [] 30 e.1 ?_
    exact ⟨fun _ => fun H hH => out (y_st e hH (by repeat (first | exact w_nil | refine w_cons (Or.inl (y_m rfl)) ?_ | refine w_cons (Or.inr (by assumption)) ?_)) (by repeat (first | exact w_nil | refine w_cons (Or.inl (y_m rfl)) ?_ | refine w_cons (Or.inr (by assumption)) ?_))), fun q => absurd q (by decide)⟩
  refine w_go z_hl [] [257] 30 hr ?_
  refine ⟨rfl, y_zini (by decide) (by decide), fun H1 h1 => ?_⟩
  have e1 : y_fr h H1 [19584] [] := y_st (y_mo (y_rf hr) rfl rfl) h1 (by repeat (first | exact w_nil | refine w_cons (Or.inl (y_m rfl)) ?_ | refine w_cons (Or.inr (by assumption)) ?_)) (by repeat (first | exact w_nil | refine w_cons (Or.inl (y_m rfl)) ?_ | refine w_cons (Or.inr (by assumption)) ?_))
  refine y_isHead e1.1 (fun H2 h2 x0 x5 => ⟨fun n e => (by cases e), ?_⟩) (fun H2 h2 => ⟨fun n e => (by cases e), ?_⟩)
  · exact T10 (y_sq e1 h2 rfl rfl) x0 x5
  · exact T10n (y_sq e1 h2 rfl rfl)
theorem y_errs_tail (s : y_wc h nd sa wl) {hd cl sm : Int32} (g : w_f h 19598 = some (.int sm)) (h0 : 0 ≤ hd.toInt) (h5 : hd.toInt ≤ 5) (hk : ∀ (r : Int32) (H : aH), y_fr h H [19587, 19588, 19589, 19629, 19630, 19631, 19632, 19633] [155, 179] → K0 (some (.int r)) H C S) : aOK s_P X (d + 5) a_m262 27 [some (.ref 155), some (.int hd), some (.int cl), none, none, none, none, none, none, none, none] [] h C S K0 := by
  have T163 : ∀ {G : aH} {w wo x c : Int32} {a b : Int64}, y_fr h G [19587, 19588, 19589, 19629, 19630, 19631, 19632, 19633] [155, 179] → aOK s_P X (d + 5) a_m262 163 [some (.ref 155), some (.int hd), some (.int cl), some (.int w), some (.int wo), some (.int x), some (.long a), none, some (.long b), none, none] [.int c] G C S K0 := by
    intro G w wo x c a b e
    refine w_go z_hl [] [] 30 e.1 ?_
    exact ⟨fun _ => ⟨fun _ => fun H hH => hk _ H (y_st e hH (by repeat (first | exact w_nil | refine w_cons (Or.inl (y_m rfl)) ?_ | refine w_cons (Or.inr (by assumption)) ?_)) (by repeat (first | exact w_nil | refine w_cons (Or.inl (y_m rfl)) ?_ | refine w_cons (Or.inr (by assumption)) ?_))), fun _ => fun H hH => hk _ H (y_st e hH (by repeat (first | exact w_nil | refine w_cons (Or.inl (y_m rfl)) ?_ | refine w_cons (Or.inr (by assumption)) ?_)) (by repeat (first | exact w_nil | refine w_cons (Or.inl (y_m rfl)) ?_ | refine w_cons (Or.inr (by assumption)) ?_)))⟩, fun _ => fun H hH => hk _ H (y_st e hH (by repeat (first | exact w_nil | refine w_cons (Or.inl (y_m rfl)) ?_ | refine w_cons (Or.inr (by assumption)) ?_)) (by repeat (first | exact w_nil | refine w_cons (Or.inl (y_m rfl)) ?_ | refine w_cons (Or.inr (by assumption)) ?_)))⟩
  have T147 : ∀ {G : aH} {w wo x : Int32} {a b : Int64}, y_fr h G [19587, 19588, 19589, 19629, 19630, 19631, 19632, 19633] [155, 179] → y_od G → 1 ≤ b.toInt → aOK s_P X (d + 5) a_m262 147 [some (.ref 155), some (.int hd), some (.int cl), some (.int w), some (.int wo), some (.int x), some (.long a), none, some (.long b), none, none] [] G C S K0 := by
    intro G w wo x a b e od b1
    obtain ⟨u, l, o1, o2, o3, o4⟩ := od
    refine w_go z_hl [] [203] 30 e.1 ?_
    intro y hy _ _
    obtain rfl := y_fl o1 hy
    intro z hz _ _
    obtain rfl := y_fl o2 hz
    intro H hH
    have e2 := y_st e hH (by repeat (first | exact w_nil | refine w_cons (Or.inl (y_m rfl)) ?_ | refine w_cons (Or.inr (by assumption)) ?_)) (by repeat (first | exact w_nil | refine w_cons (Or.inl (y_m rfl)) ?_ | refine w_cons (Or.inr (by assumption)) ?_))
    refine aOK_deep (d := d + 1) (by omega) (y_compares (b := l) (e := b) e2.1 (fun q => by rw [q] at o4; exact absurd o4 (by decide)) (fun q => by rw [q] at b1; exact absurd b1 (by decide)) (fun r H3 hr3 e3 => ⟨fun n e => (by cases e), ?_⟩))
    exact T163 (y_sq e2 e3 rfl rfl)
  have T102 : ∀ {G : aH} {w wo x : Int32} {a b : Int64}, y_fr h G [19587, 19588, 19589, 19629, 19630, 19631, 19632, 19633] [155, 179] → y_od G → 0 ≤ b.toInt → aOK s_P X (d + 5) a_m262 102 [some (.ref 155), some (.int hd), some (.int cl), some (.int w), some (.int wo), some (.int x), some (.long a), none, none, none, none] [.long b] G C S K0 := by
    intro G w wo x a b e od b0
    have f0 : y_fr G G [] [] := y_rf e.1
    have T117 : ∀ {H : aH}, y_fr h H [19587, 19588, 19589, 19629, 19630, 19631, 19632, 19633] [155, 179] → aOK s_P X (d + 5) a_m262 117 [some (.ref 155), some (.int hd), some (.int cl), some (.int w), some (.int wo), some (.int x), some (.long a), none, some (.long b), none, none] [] H C S K0 := by
      intro H f
      refine w_go z_hl [] [] 30 f.1 ?_
      exact ⟨fun _ => ⟨fun _ => fun H hH => hk _ H (y_st f hH (by repeat (first | exact w_nil | refine w_cons (Or.inl (y_m rfl)) ?_ | refine w_cons (Or.inr (by assumption)) ?_)) (by repeat (first | exact w_nil | refine w_cons (Or.inl (y_m rfl)) ?_ | refine w_cons (Or.inr (by assumption)) ?_))), fun _ => fun H hH => hk _ H (y_st f hH (by repeat (first | exact w_nil | refine w_cons (Or.inl (y_m rfl)) ?_ | refine w_cons (Or.inr (by assumption)) ?_)) (by repeat (first | exact w_nil | refine w_cons (Or.inl (y_m rfl)) ?_ | refine w_cons (Or.inr (by assumption)) ?_)))⟩, fun _ => ⟨fun _ => ⟨fun _ => fun H hH => hk _ H (y_st f hH (by repeat (first | exact w_nil | refine w_cons (Or.inl (y_m rfl)) ?_ | refine w_cons (Or.inr (by assumption)) ?_)) (by repeat (first | exact w_nil | refine w_cons (Or.inl (y_m rfl)) ?_ | refine w_cons (Or.inr (by assumption)) ?_))), fun _ => fun H hH => hk _ H (y_st f hH (by repeat (first | exact w_nil | refine w_cons (Or.inl (y_m rfl)) ?_ | refine w_cons (Or.inr (by assumption)) ?_)) (by repeat (first | exact w_nil | refine w_cons (Or.inl (y_m rfl)) ?_ | refine w_cons (Or.inr (by assumption)) ?_)))⟩, fun _ => fun H hH => hk _ H (y_st f hH (by repeat (first | exact w_nil | refine w_cons (Or.inl (y_m rfl)) ?_ | refine w_cons (Or.inr (by assumption)) ?_)) (by repeat (first | exact w_nil | refine w_cons (Or.inl (y_m rfl)) ?_ | refine w_cons (Or.inr (by assumption)) ?_)))⟩⟩
    refine w_go z_hl [117, 147] [] 40 e.1 ?_
    refine ⟨fun _ => fun H hH => T117 (y_st e hH (by repeat (first | exact w_nil | refine w_cons (Or.inl (y_m rfl)) ?_ | refine w_cons (Or.inr (by assumption)) ?_)) (by repeat (first | exact w_nil | refine w_cons (Or.inl (y_m rfl)) ?_ | refine w_cons (Or.inr (by assumption)) ?_))), fun _ => ⟨fun q => fun H hH => ?_, fun _ => fun H hH => T117 (y_st e hH (by repeat (first | exact w_nil | refine w_cons (Or.inl (y_m rfl)) ?_ | refine w_cons (Or.inr (by assumption)) ?_)) (by repeat (first | exact w_nil | refine w_cons (Or.inl (y_m rfl)) ?_ | refine w_cons (Or.inr (by assumption)) ?_)))⟩⟩
    have q2 : b.toInt ≠ (Int64.ofNat 0).toInt := (y_cl .ne _ _).mp q
    rw [show (Int64.ofNat 0).toInt = 0 by decide] at q2
    exact T147 (y_st e hH (by repeat (first | exact w_nil | refine w_cons (Or.inl (y_m rfl)) ?_ | refine w_cons (Or.inr (by assumption)) ?_)) (by repeat (first | exact w_nil | refine w_cons (Or.inl (y_m rfl)) ?_ | refine w_cons (Or.inr (by assumption)) ?_))) (y_od_fr od (y_st f0 hH (by repeat (first | exact w_nil | refine w_cons (Or.inl (y_m rfl)) ?_ | refine w_cons (Or.inr (by assumption)) ?_)) (by repeat (first | exact w_nil | refine w_cons (Or.inl (y_m rfl)) ?_ | refine w_cons (Or.inr (by assumption)) ?_))) rfl rfl) (by omega)
  have T89 : ∀ {G : aH} {w wo x : Int32} {a : Int64}, y_fr h G [19587, 19588, 19589, 19629, 19630, 19631, 19632, 19633] [155, 179] → y_od G → aOK s_P X (d + 5) a_m262 89 [some (.ref 155), some (.int hd), some (.int cl), some (.int w), some (.int wo), some (.int x), none, none, none, none, none] [.long a] G C S K0 := by
    intro G w wo x a e od
    refine w_go z_hl [] [193] 30 e.1 ?_
    intro H hH
    have f : y_fr G H [] [] := y_st (y_rf e.1) hH (by repeat (first | exact w_nil | refine w_cons (Or.inl (y_m rfl)) ?_ | refine w_cons (Or.inr (by assumption)) ?_)) (by repeat (first | exact w_nil | refine w_cons (Or.inl (y_m rfl)) ?_ | refine w_cons (Or.inr (by assumption)) ?_))
    have e2 := y_sq e f rfl rfl
    refine aOK_deep (d := d + 1) (by omega) (q_weighs (y_wc_fr s e2 rfl rfl rfl) (fun r H2 e3 r0 r8 => ⟨fun n e => (by cases e), ?_⟩))
    exact T102 (y_sq e2 e3 rfl rfl) (y_od_fr (y_od_fr od f rfl rfl) e3 rfl rfl) r0
  have T66 : ∀ {G : aH} {w wo x : Int32}, y_fr h G [19587, 19588, 19589, 19629, 19630, 19631, 19632, 19633] [155, 179] → y_od G → aOK s_P X (d + 5) a_m262 66 [some (.ref 155), some (.int hd), some (.int cl), some (.int w), some (.int wo), none, none, none, none, none, none] [.int x] G C S K0 := by
    intro G w wo x e od
    refine w_go z_hl [] [193] 30 e.1 ?_
    refine ⟨fun _ => fun H hH => ?_, fun _ => fun H hH => hk _ H (y_st e hH (by repeat (first | exact w_nil | refine w_cons (Or.inl (y_m rfl)) ?_ | refine w_cons (Or.inr (by assumption)) ?_)) (by repeat (first | exact w_nil | refine w_cons (Or.inl (y_m rfl)) ?_ | refine w_cons (Or.inr (by assumption)) ?_)))⟩
    have f : y_fr G H [] [] := y_st (y_rf e.1) hH (by repeat (first | exact w_nil | refine w_cons (Or.inl (y_m rfl)) ?_ | refine w_cons (Or.inr (by assumption)) ?_)) (by repeat (first | exact w_nil | refine w_cons (Or.inl (y_m rfl)) ?_ | refine w_cons (Or.inr (by assumption)) ?_))
    have e2 := y_sq e f rfl rfl
    refine aOK_deep (d := d + 1) (by omega) (q_weighs (y_wc_fr s e2 rfl rfl rfl) (fun r H2 e3 r0 r8 => ⟨fun n e => (by cases e), ?_⟩))
    exact T89 (y_sq e2 e3 rfl rfl) (y_od_fr (y_od_fr od f rfl rfl) e3 rfl rfl)
  have T60 : ∀ {G : aH} {w wo t : Int32}, y_fr h G [19587, 19588, 19589, 19629, 19630, 19631, 19632, 19633] [155, 179] → w_f G 19629 = some (.int t) → 0 ≤ t.toInt → t.toInt ≤ 10 → aOK s_P X (d + 5) a_m262 60 [some (.ref 155), some (.int hd), some (.int cl), some (.int w), some (.int wo), none, none, none, none, none, none] [] G C S K0 := by
    intro G w wo t e g1 t0 t10
    refine w_go z_hl [] [259] 30 e.1 ?_
    intro H hH
    have f : y_fr G H [] [] := y_st (y_rf e.1) hH (by repeat (first | exact w_nil | refine w_cons (Or.inl (y_m rfl)) ?_ | refine w_cons (Or.inr (by assumption)) ?_)) (by repeat (first | exact w_nil | refine w_cons (Or.inl (y_m rfl)) ?_ | refine w_cons (Or.inr (by assumption)) ?_))
    have e2 := y_sq e f rfl rfl
    refine y_hears (y_wc_fr s e2 rfl rfl rfl) h0 h5 ((y_fe f rfl).trans g1) t0 t10 (fun x H2 f2 od2 => ⟨fun n e => (by cases e), ?_⟩)
    exact T66 (y_sq e2 f2 rfl rfl) od2
  have T47 : ∀ {G : aH} {w wo : Int32} {a : Int64}, y_fr h G [] [] → aOK s_P X (d + 5) a_m262 47 [some (.ref 155), some (.int hd), some (.int cl), some (.int w), some (.int wo), none, none, none, none, none, none] [.long a] G C S K0 := by
    intro G w wo a e
    refine w_go z_hl [] [258] 30 e.1 ?_
    refine ⟨fun _ => fun H hH => ?_, fun _ => fun H hH => hk _ H (y_st (y_mo e rfl rfl) hH (by repeat (first | exact w_nil | refine w_cons (Or.inl (y_m rfl)) ?_ | refine w_cons (Or.inr (by assumption)) ?_)) (by repeat (first | exact w_nil | refine w_cons (Or.inl (y_m rfl)) ?_ | refine w_cons (Or.inr (by assumption)) ?_)))⟩
    have e2 := y_st e hH (by repeat (first | exact w_nil | refine w_cons (Or.inl (y_m rfl)) ?_ | refine w_cons (Or.inr (by assumption)) ?_)) (by repeat (first | exact w_nil | refine w_cons (Or.inl (y_m rfl)) ?_ | refine w_cons (Or.inr (by assumption)) ?_))
    refine y_tellsAll e2.1 ((y_fe e2 rfl).trans g) (fun H2 t' f2 g2 x0 x1 => ⟨fun n e => (by cases e), ?_⟩)
    exact T60 (y_sq (y_mo e2 rfl rfl) f2 rfl rfl) g2 x0 x1
  have T38 : ∀ {G : aH} {w wo : Int32}, y_fr h G [] [] → aOK s_P X (d + 5) a_m262 38 [some (.ref 155), some (.int hd), some (.int cl), some (.int w), none, none, none, none, none, none, none] [.int wo] G C S K0 := by
    intro G w wo e
    refine w_go z_hl [] [193] 30 e.1 ?_
    intro H hH
    have e2 := y_st e hH (by repeat (first | exact w_nil | refine w_cons (Or.inl (y_m rfl)) ?_ | refine w_cons (Or.inr (by assumption)) ?_)) (by repeat (first | exact w_nil | refine w_cons (Or.inl (y_m rfl)) ?_ | refine w_cons (Or.inr (by assumption)) ?_))
    refine aOK_deep (d := d + 1) (by omega) (q_weighs (y_wc_fr s e2 rfl rfl rfl) (fun r H2 e3 r0 r8 => ⟨fun n e => (by cases e), ?_⟩))
    exact T47 (y_sq e2 e3 rfl rfl)
  have T32 : ∀ {G : aH} {w : Int32}, y_fr h G [] [] → aOK s_P X (d + 5) a_m262 32 [some (.ref 155), some (.int hd), some (.int cl), none, none, none, none, none, none, none, none] [.int w] G C S K0 := by
    intro G w e
    refine w_go z_hl [] [192] 30 e.1 ?_
    intro H hH
    have e2 := y_st e hH (by repeat (first | exact w_nil | refine w_cons (Or.inl (y_m rfl)) ?_ | refine w_cons (Or.inr (by assumption)) ?_)) (by repeat (first | exact w_nil | refine w_cons (Or.inl (y_m rfl)) ?_ | refine w_cons (Or.inr (by assumption)) ?_))
    have s2 := y_wc_fr s e2 rfl rfl rfl
    refine y_seenNot s2.1 s2.2.1 s2.2.2.1 (fun H2 e3 => ⟨fun n e => (by cases e), ?_⟩)
    exact T38 (y_sq e2 e3 rfl rfl)
  refine w_go z_hl [] [191] 30 s.1 ?_
  intro H hH
  have e2 : y_fr h H [] [] := y_st (y_rf s.1) hH (by repeat (first | exact w_nil | refine w_cons (Or.inl (y_m rfl)) ?_ | refine w_cons (Or.inr (by assumption)) ?_)) (by repeat (first | exact w_nil | refine w_cons (Or.inl (y_m rfl)) ?_ | refine w_cons (Or.inr (by assumption)) ?_))
  have s2 := y_wc_fr s e2 rfl rfl rfl
  refine y_seenSo s2.1 s2.2.1 s2.2.2.1 (fun H2 e3 => ⟨fun n e => (by cases e), ?_⟩)
  exact T32 (y_sq e2 e3 rfl rfl)
theorem p_errs (hr : w_hr z_D h) (hJ : y_J h) {hd cl : Int32} (hk : ∀ (r : Int32) (H : aH), y_fr h H [19584, 19587, 19588, 19589, 19629, 19630, 19631, 19632, 19633] [155, 163, 179] → y_J H → K0 (some (.int r)) H C S) : aOK s_P X (d + 5) a_m262 0 [some (.ref 155), some (.int hd), some (.int cl), none, none, none, none, none, none, none, none] [] h C S K0 := by
  obtain ⟨nd, sm, so, sa, s1, s2, s3, s4, s5⟩ := id hJ.2.2.2.2.1
  obtain ⟨b1, b2⟩ := y_ndb hr s1
  have out : ∀ {G : aH} {r : Int32}, y_fr h G [19584] [] → K0 (some (.int r)) G C S := fun g => hk _ _ (y_mo g rfl rfl) (y_J_fr g rfl rfl hJ)
  have T18 : ∀ {G : aH} {v : Nat}, y_fr h G [19584] [] → 0 ≤ hd.toInt → hd.toInt ≤ 5 → cl.toInt = v → v < 10 → aOK s_P X (d + 5) a_m262 18 [some (.ref 155), some (.int hd), some (.int cl), none, none, none, none, none, none, none, none] [.int (y_01 true)] G C S K0 := by
    intro G v e x0 x5 hv v10
    refine w_go z_hl [] [188] 30 e.1 ?_
    refine ⟨fun _ => fun H hH => ?_, fun q => absurd q (by decide)⟩
    have e2 := y_st e hH (by repeat (first | exact w_nil | refine w_cons (Or.inl (y_m rfl)) ?_ | refine w_cons (Or.inr (by assumption)) ?_)) (by repeat (first | exact w_nil | refine w_cons (Or.inl (y_m rfl)) ?_ | refine w_cons (Or.inr (by assumption)) ?_))
    refine aOK_deep (d := d + 2) (by omega) (q_weighsUp e2.1 (y_J_fr e2 rfl rfl hJ) (fun wl H2 e3 J3 hw => ⟨fun n e => (by cases e), ?_⟩))
    have e4 : y_fr h H2 [19584] [163] := y_sq (y_mo e2 rfl rfl) e3 rfl rfl
    refine y_errs_tail ⟨e4.1, (y_fe e4 rfl).trans s1, (y_ae e4 rfl).trans s4, hw⟩ ((y_fe e4 rfl).trans s2) x0 x5 (fun r H5 e5 => ?_)
    exact hk r H5 (y_sq (y_mo e4 rfl rfl) e5 rfl rfl) (y_J_fr e5 rfl rfl J3)
  have T18n : ∀ {G : aH}, y_fr h G [19584] [] → aOK s_P X (d + 5) a_m262 18 [some (.ref 155), some (.int hd), some (.int cl), none, none, none, none, none, none, none, none] [.int (y_01 false)] G C S K0 := by
    intro G e
    refine w_go z_hl [] [] 30 e.1 ?_
    exact ⟨fun q => absurd q (by decide), fun _ => fun H hH => out (y_st e hH (by repeat (first | exact w_nil | refine w_cons (Or.inl (y_m rfl)) ?_ | refine w_cons (Or.inr (by assumption)) ?_)) (by repeat (first | exact w_nil | refine w_cons (Or.inl (y_m rfl)) ?_ | refine w_cons (Or.inr (by assumption)) ?_)))⟩
  have T10 : ∀ {G : aH}, y_fr h G [19584] [] → 0 ≤ hd.toInt → hd.toInt ≤ 5 → aOK s_P X (d + 5) a_m262 10 [some (.ref 155), some (.int hd), some (.int cl), none, none, none, none, none, none, none, none] [.int (y_01 true)] G C S K0 := by
    intro G e x0 x5
    refine w_go z_hl [] [178] 30 e.1 ?_
    refine ⟨fun q => absurd q (by decide), fun _ => fun H hH => ?_⟩
    have e2 := y_st e hH (by repeat (first | exact w_nil | refine w_cons (Or.inl (y_m rfl)) ?_ | refine w_cons (Or.inr (by assumption)) ?_)) (by repeat (first | exact w_nil | refine w_cons (Or.inl (y_m rfl)) ?_ | refine w_cons (Or.inr (by assumption)) ?_))
    refine q_isNode (v := cl) e2.1 ((y_fe e2 rfl).trans s1) (fun H2 v h2 hv hv2 hvc => ⟨fun n e => (by cases e), ?_⟩) (fun H2 h2 => ⟨fun n e => (by cases e), ?_⟩)
    · exact T18 (y_sq e2 h2 rfl rfl) x0 x5 hv (by omega)
    · exact T18n (y_sq e2 h2 rfl rfl)
  have T10n : ∀ {G : aH}, y_fr h G [19584] [] → aOK s_P X (d + 5) a_m262 10 [some (.ref 155), some (.int hd), some (.int cl), none, none, none, none, none, none, none, none] [.int (y_01 false)] G C S K0 := by
    intro G e
    refine w_go z_hl [] [] 30 e.1 ?_
    exact ⟨fun _ => fun H hH => out (y_st e hH (by repeat (first | exact w_nil | refine w_cons (Or.inl (y_m rfl)) ?_ | refine w_cons (Or.inr (by assumption)) ?_)) (by repeat (first | exact w_nil | refine w_cons (Or.inl (y_m rfl)) ?_ | refine w_cons (Or.inr (by assumption)) ?_))), fun q => absurd q (by decide)⟩
  refine w_go z_hl [] [257] 30 hr ?_
  refine ⟨rfl, y_zini (by decide) (by decide), fun H1 h1 => ?_⟩
  have e1 : y_fr h H1 [19584] [] := y_st (y_mo (y_rf hr) rfl rfl) h1 (by repeat (first | exact w_nil | refine w_cons (Or.inl (y_m rfl)) ?_ | refine w_cons (Or.inr (by assumption)) ?_)) (by repeat (first | exact w_nil | refine w_cons (Or.inl (y_m rfl)) ?_ | refine w_cons (Or.inr (by assumption)) ?_))
  refine y_isHead e1.1 (fun H2 h2 x0 x5 => ⟨fun n e => (by cases e), ?_⟩) (fun H2 h2 => ⟨fun n e => (by cases e), ?_⟩)
  · exact T10 (y_sq e1 h2 rfl rfl) x0 x5
  · exact T10n (y_sq e1 h2 rfl rfl)
end WG
