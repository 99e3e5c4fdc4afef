/-! ===== v3: the reference's soBy, togetherBy ===== -/
section WG
variable {X : aX} {C S d : Nat} {K0 : Option Value → aH → Nat → Nat → Prop} {nd : Int32} {sg : List Int32} {wl : List Int64}
theorem y_soBy {h : aH} {r : Nat} {ac kd be fi : List Int32} {nu : List Int64} (s : y_sd h nd sg wl r ac kd nu be fi) {rI lI : Int32} (h1 : rI.toInt = r) (hK : ∀ (x : Int32) (H : aH), y_fr h H [19587, 19588, 19589, 19616, 19617, 19618] [155] → K0 (some (.int x)) H C S) : aOK s_P X (d + 170) a_m241 0 [some (.ref 155), some (.int rI), some (.int lI), none, none, none, none, none, none, none] [] h C S K0 := by
  obtain ⟨sc, a1, a2, a3, a4, a5, -, r11⟩ := id s
  have hr := sc.1
  have T119 : ∀ {G : aH} {x y c : Int32} {n dd : Int64} {b : Bool}, y_fr h G [19587, 19588, 19589, 19616, 19617, 19618] [155] → aOK s_P X (d + 170) a_m241 119 [some (.ref 155), some (.int rI), some (.int lI), some (.int x), some (.long n), none, some (.long dd), none, some (.int y), some (.int c)] [.int (y_01 b)] G C S K0 := by
    intro G x y c n dd b e
    refine w_go z_hl [] [] 40 e.1 ?_
    exact ⟨fun _ => fun H hH => hK _ H (y_st e hH (by repeat (first | exact w_nil | refine w_cons (Or.inl (y_m rfl)) ?_ | refine w_cons (Or.inr (by assumption)) ?_)) (by repeat (first | exact w_nil | refine w_cons (Or.inl (y_m rfl)) ?_ | refine w_cons (Or.inr (by assumption)) ?_))), fun _ => fun H hH => hK _ H (y_st e hH (by repeat (first | exact w_nil | refine w_cons (Or.inl (y_m rfl)) ?_ | refine w_cons (Or.inr (by assumption)) ?_)) (by repeat (first | exact w_nil | refine w_cons (Or.inl (y_m rfl)) ?_ | refine w_cons (Or.inr (by assumption)) ?_)))⟩
  have T59 : ∀ {G : aH} {x y c : Int32} {n dd : Int64}, y_fr h G [19587, 19588, 19589, 19616, 19617, 19618] [155] → aOK s_P X (d + 170) a_m241 59 [some (.ref 155), some (.int rI), some (.int lI), some (.int x), some (.long n), none, some (.long dd), none, some (.int y), none] [.int c] G C S K0 := by
    intro G x y c n dd e
    refine w_go z_hl [119] [] 60 e.1 ?_
    refine ⟨⟨by omega, by omega⟩, fun l hl len bb => ?_⟩
    refine ⟨fun _ => ⟨⟨by omega, by omega⟩, ⟨fun _ => ⟨fun _ => fun H hH => T119 (b := false) (y_st e hH (by repeat (first | exact w_nil | refine w_cons (Or.inl (y_m rfl)) ?_ | refine w_cons (Or.inr (by assumption)) ?_)) (by repeat (first | exact w_nil | refine w_cons (Or.inl (y_m rfl)) ?_ | refine w_cons (Or.inr (by assumption)) ?_))), fun _ => fun H hH => T119 (b := true) (y_st e hH (by repeat (first | exact w_nil | refine w_cons (Or.inl (y_m rfl)) ?_ | refine w_cons (Or.inr (by assumption)) ?_)) (by repeat (first | exact w_nil | refine w_cons (Or.inl (y_m rfl)) ?_ | refine w_cons (Or.inr (by assumption)) ?_)))⟩, fun _ => ⟨fun _ => fun H hH => T119 (b := false) (y_st e hH (by repeat (first | exact w_nil | refine w_cons (Or.inl (y_m rfl)) ?_ | refine w_cons (Or.inr (by assumption)) ?_)) (by repeat (first | exact w_nil | refine w_cons (Or.inl (y_m rfl)) ?_ | refine w_cons (Or.inr (by assumption)) ?_))), fun _ => fun H hH => T119 (b := true) (y_st e hH (by repeat (first | exact w_nil | refine w_cons (Or.inl (y_m rfl)) ?_ | refine w_cons (Or.inr (by assumption)) ?_)) (by repeat (first | exact w_nil | refine w_cons (Or.inl (y_m rfl)) ?_ | refine w_cons (Or.inr (by assumption)) ?_)))⟩⟩⟩, fun _ => ⟨fun _ => fun H hH => T119 (b := false) (y_st e hH (by repeat (first | exact w_nil | refine w_cons (Or.inl (y_m rfl)) ?_ | refine w_cons (Or.inr (by assumption)) ?_)) (by repeat (first | exact w_nil | refine w_cons (Or.inl (y_m rfl)) ?_ | refine w_cons (Or.inr (by assumption)) ?_))), fun _ => fun H hH => T119 (b := true) (y_st e hH (by repeat (first | exact w_nil | refine w_cons (Or.inl (y_m rfl)) ?_ | refine w_cons (Or.inr (by assumption)) ?_)) (by repeat (first | exact w_nil | refine w_cons (Or.inl (y_m rfl)) ?_ | refine w_cons (Or.inr (by assumption)) ?_)))⟩⟩
  have T33 : ∀ {G : aH} {x y : Int32} {n dd : Int64}, y_fr h G [19587, 19588, 19589, 19616, 19617, 19618] [] → (0 ≤ y.toInt → y_low G) → 1 ≤ dd.toInt → aOK s_P X (d + 170) a_m241 33 [some (.ref 155), some (.int rI), some (.int lI), some (.int x), some (.long n), none, some (.long dd), none, none, none] [.int y] G C S K0 := by
    intro G x y n dd e lo d1
    refine w_go z_hl [] [203] 40 e.1 ?_
    refine ⟨fun q => ?_, fun _ => fun H hH => hK _ H (y_st (y_mo e rfl rfl) hH (by repeat (first | exact w_nil | refine w_cons (Or.inl (y_m rfl)) ?_ | refine w_cons (Or.inr (by assumption)) ?_)) (by repeat (first | exact w_nil | refine w_cons (Or.inl (y_m rfl)) ?_ | refine w_cons (Or.inr (by assumption)) ?_)))⟩
    have q2 : (0 : Int32).toInt ≤ y.toInt := (y_ci .ge _ _).mp q
    rw [show (0 : Int32).toInt = 0 by decide] at q2
    obtain ⟨l, l1, l2⟩ := lo q2
    intro u hu _ _
    intro l' hl' _ _
    obtain rfl := y_fl l1 hl'
    intro H hH
    have e2 := y_st (y_mo e rfl rfl : y_fr h G [19587, 19588, 19589, 19616, 19617, 19618] [155]) hH (by repeat (first | exact w_nil | refine w_cons (Or.inl (y_m rfl)) ?_ | refine w_cons (Or.inr (by assumption)) ?_)) (by repeat (first | exact w_nil | refine w_cons (Or.inl (y_m rfl)) ?_ | refine w_cons (Or.inr (by assumption)) ?_))
    refine aOK_deep (d := d + 1) (by omega) (y_compares (b := dd) (e := l) e2.1 (fun q => by rw [q] at d1; exact absurd d1 (by decide)) (fun q => by rw [q] at l2; exact absurd l2 (by decide)) (fun r H2 hr2 e3 => ⟨fun n e => (by cases e), ?_⟩))
    exact T59 (y_sq e2 e3 rfl rfl)
  have T7 : ∀ {G : aH} {x : Int32}, y_fr h G [19587, 19588, 19589, 19616, 19617, 19618] [] → (0 ≤ x.toInt → y_low G) → aOK s_P X (d + 170) a_m241 7 [some (.ref 155), some (.int rI), some (.int lI), none, none, none, none, none, none, none] [.int x] G C S K0 := by
    intro G x e lo
    refine w_go z_hl [] [242] 40 e.1 ?_
    refine ⟨fun q => ?_, fun _ => fun H hH => hK _ H (y_st (y_mo e rfl rfl) hH (by repeat (first | exact w_nil | refine w_cons (Or.inl (y_m rfl)) ?_ | refine w_cons (Or.inr (by assumption)) ?_)) (by repeat (first | exact w_nil | refine w_cons (Or.inl (y_m rfl)) ?_ | refine w_cons (Or.inr (by assumption)) ?_)))⟩
    have q2 : (0 : Int32).toInt ≤ x.toInt := (y_ci .ge _ _).mp q
    rw [show (0 : Int32).toInt = 0 by decide] at q2
    obtain ⟨l, l1, l2⟩ := lo q2
    intro u hu _ _
    intro l' hl' _ _
    obtain rfl := y_fl l1 hl'
    intro H hH
    have e2 := y_st e hH (by repeat (first | exact w_nil | refine w_cons (Or.inl (y_m rfl)) ?_ | refine w_cons (Or.inr (by assumption)) ?_)) (by repeat (first | exact w_nil | refine w_cons (Or.inl (y_m rfl)) ?_ | refine w_cons (Or.inr (by assumption)) ?_))
    refine y_termOf (sd := 1) (y_sd_fr s e2 rfl) h1 (by decide) (by decide) (fun y H2 f2 lo2 => ⟨fun n e => (by cases e), ?_⟩)
    exact T33 (y_sq e2 f2 rfl rfl) lo2 l2
  refine w_go z_hl [] [242] 40 hr ?_
  intro H hH
  have e : y_fr h H [19587, 19588, 19589, 19616, 19617, 19618] [] := y_st (y_mo (y_rf hr) rfl rfl) hH (by repeat (first | exact w_nil | refine w_cons (Or.inl (y_m rfl)) ?_ | refine w_cons (Or.inr (by assumption)) ?_)) (by repeat (first | exact w_nil | refine w_cons (Or.inl (y_m rfl)) ?_ | refine w_cons (Or.inr (by assumption)) ?_))
  refine y_termOf (sd := 0) (y_sd_fr s e rfl) h1 (by decide) (by decide) (fun y H2 f2 lo2 => ⟨fun n e => (by cases e), ?_⟩)
  exact T7 (y_sq e f2 rfl rfl) lo2
theorem y_tog_loop {r : Nat} {ac kd be fi : List Int32} {nu : List Int64} {rI kI gI uI : Int32} {gv on ot : Int64} (h1 : rI.toInt = r) (hk4 : kI.toInt = ((4 * r : Nat) : Int)) (okf : y_ok1 (y_tx sg r) 40 (y_N be (4 * r)) (y_N fi (4 * r))) (oks : y_ok1 (y_tx sg r) 40 (y_N be (4 * r + 2)) (y_N fi (4 * r + 2))) (okg : 0 ≤ gI.toInt → y_ok1 (y_tx sg r) 40 gI.toInt uI.toInt) : ∀ (t : Nat) (h : aH) (sum : Int64) (wI : Int32) (k : Nat) (o14 : Option Value), y_sd h nd sg wl r ac kd nu be fi → wI.toInt = k → k + t = y_ways nd →
    (∀ (x : Int32) (H : aH), y_fr h H [19616, 19617, 19618] [] → K0 (some (.int x)) H C S) →
    aOK s_P X (d + 168) a_m235 117 [some (.ref 155), some (.int rI), some (.int kI), some (.int gI), some (.int uI), some (.long gv), none, some (.long on), none, some (.long ot), none, some (.long sum), none, some (.int wI), o14] [] h C S K0 := by
  intro t
  induction t with
  | zero =>
    intro h sum wI k o14 s hk hkt hK
    have sc := s.1
    obtain ⟨b1, b2⟩ := y_ndb sc.1 sc.2.1
    obtain ⟨ea, l1, l2⟩ := y_all b1 b2
    have e0 : y_fr h h [19616, 19617, 19618] [] := y_mo (y_rf sc.1) rfl rfl
    have T244 : ∀ {G : aH} {b : Bool}, y_fr h G [19616, 19617, 19618] [] → aOK s_P X (d + 168) a_m235 244 [some (.ref 155), some (.int rI), some (.int kI), some (.int gI), some (.int uI), some (.long gv), none, some (.long on), none, some (.long ot), none, some (.long sum), none, some (.int wI), o14] [.int (y_01 b)] G C S K0 := by
      intro G b e
      refine w_go z_hl [] [] 40 e.1 ?_
      exact ⟨fun _ => fun H hH => hK _ H (y_st e hH (by repeat (first | exact w_nil | refine w_cons (Or.inl (y_m rfl)) ?_ | refine w_cons (Or.inr (by assumption)) ?_)) (by repeat (first | exact w_nil | refine w_cons (Or.inl (y_m rfl)) ?_ | refine w_cons (Or.inr (by assumption)) ?_))), fun _ => fun H hH => hK _ H (y_st e hH (by repeat (first | exact w_nil | refine w_cons (Or.inl (y_m rfl)) ?_ | refine w_cons (Or.inr (by assumption)) ?_)) (by repeat (first | exact w_nil | refine w_cons (Or.inl (y_m rfl)) ?_ | refine w_cons (Or.inr (by assumption)) ?_)))⟩
    refine w_go z_hl [117, 244] [] 60 sc.1 ?_
    intro x hx _ _
    obtain rfl := y_fi sc.2.1 hx
    refine ⟨fun _ => ⟨fun _ => fun H hH => T244 (b := false) (y_st e0 hH (by repeat (first | exact w_nil | refine w_cons (Or.inl (y_m rfl)) ?_ | refine w_cons (Or.inr (by assumption)) ?_)) (by repeat (first | exact w_nil | refine w_cons (Or.inl (y_m rfl)) ?_ | refine w_cons (Or.inr (by assumption)) ?_))), fun _ => fun H hH => T244 (b := true) (y_st e0 hH (by repeat (first | exact w_nil | refine w_cons (Or.inl (y_m rfl)) ?_ | refine w_cons (Or.inr (by assumption)) ?_)) (by repeat (first | exact w_nil | refine w_cons (Or.inl (y_m rfl)) ?_ | refine w_cons (Or.inr (by assumption)) ?_)))⟩, fun q => ?_⟩
    have : ¬ ((Int32.ofInt 1 <<< (nd &&& 31) - Int32.ofInt 1).toInt < wI.toInt) := y_cif q
    omega
  | succ t ih =>
    intro h sum wI k o14 s hk hkt hK
    have sc := s.1
    obtain ⟨-, a1, a2, a3, a4, a5, -, r11⟩ := id s
    obtain ⟨b1, b2⟩ := y_ndb sc.1 sc.2.1
    obtain ⟨ea, l1, l2⟩ := y_all b1 b2
    have ink : (wI + Int32.ofInt 1).toInt = ((k + 1 : Nat) : Int) := by rw [y_inc (by omega), hk]; rfl
    have k2 : (kI + Int32.ofInt 2).toInt = ((4 * r + 2 : Nat) : Int) := y_addS _ hk4 (n := 2) (by decide) rfl (by omega)
    have ck := y_cl1 hk4
    have ck2 := y_cl1 k2
    have bk : 0 ≤ kI.toInt ∧ kI.toInt < ((52 : Nat) : Int) := by omega
    have bk2 : 0 ≤ (kI + Int32.ofInt 2).toInt ∧ (kI + Int32.ofInt 2).toInt < ((52 : Nat) : Int) := by omega
    have next : ∀ {G : aH} {x : Int64} {o14 : Option Value}, y_fr h G [19616, 19617, 19618] [] → aOK s_P X (d + 168) a_m235 117 [some (.ref 155), some (.int rI), some (.int kI), some (.int gI), some (.int uI), some (.long gv), none, some (.long on), none, some (.long ot), none, some (.long (sum + x)), none, some (.int (wI + Int32.ofInt 1)), o14] [] G C S K0 := by
      intro G x o14 e
      exact ih G _ _ (k + 1) _ (y_sd_fr s e rfl) ink (by omega) (fun y H f => hK y H (y_sq e f rfl rfl))
    have T196 : ∀ {G : aH} {b : Bool}, y_fr h G [19616, 19617, 19618] [] → aOK s_P X (d + 168) a_m235 196 [some (.ref 155), some (.int rI), some (.int kI), some (.int gI), some (.int uI), some (.long gv), none, some (.long on), none, some (.long ot), none, some (.long sum), none, some (.int wI), o14] [.int (y_01 b)] G C S K0 := by
      intro G b e
      refine w_go z_hl [117] [] 40 e.1 ?_
      refine ⟨fun _ => fun H hH => next (y_st e hH (by repeat (first | exact w_nil | refine w_cons (Or.inl (y_m rfl)) ?_ | refine w_cons (Or.inr (by assumption)) ?_)) (by repeat (first | exact w_nil | refine w_cons (Or.inl (y_m rfl)) ?_ | refine w_cons (Or.inr (by assumption)) ?_))), fun _ => ⟨⟨by omega, by omega⟩, fun l hl len bb => fun H hH => next (y_st e hH (by repeat (first | exact w_nil | refine w_cons (Or.inl (y_m rfl)) ?_ | refine w_cons (Or.inr (by assumption)) ?_)) (by repeat (first | exact w_nil | refine w_cons (Or.inl (y_m rfl)) ?_ | refine w_cons (Or.inr (by assumption)) ?_)))⟩⟩
    have T188 : ∀ {G : aH} {b : Bool}, y_fr h G [19616, 19617, 19618] [] → aOK s_P X (d + 168) a_m235 188 [some (.ref 155), some (.int rI), some (.int kI), some (.int gI), some (.int uI), some (.long gv), none, some (.long on), none, some (.long ot), none, some (.long sum), none, some (.int wI), o14] [.int (y_01 b)] G C S K0 := by
      intro G b e
      refine w_go z_hl [196] [] 40 e.1 ?_
      exact ⟨fun _ => fun H hH => T196 (b := false) (y_st e hH (by repeat (first | exact w_nil | refine w_cons (Or.inl (y_m rfl)) ?_ | refine w_cons (Or.inr (by assumption)) ?_)) (by repeat (first | exact w_nil | refine w_cons (Or.inl (y_m rfl)) ?_ | refine w_cons (Or.inr (by assumption)) ?_))), fun _ => fun H hH => T196 (b := true) (y_st e hH (by repeat (first | exact w_nil | refine w_cons (Or.inl (y_m rfl)) ?_ | refine w_cons (Or.inr (by assumption)) ?_)) (by repeat (first | exact w_nil | refine w_cons (Or.inl (y_m rfl)) ?_ | refine w_cons (Or.inr (by assumption)) ?_)))⟩
    have T171 : ∀ {G : aH} {b : Bool}, y_fr h G [19616, 19617, 19618] [] → aOK s_P X (d + 168) a_m235 171 [some (.ref 155), some (.int rI), some (.int kI), some (.int gI), some (.int uI), some (.long gv), none, some (.long on), none, some (.long ot), none, some (.long sum), none, some (.int wI), o14] [.int (y_01 b)] G C S K0 := by
      intro G b e
      refine w_go z_hl [196] [237] 40 e.1 ?_
      refine ⟨fun _ => fun H hH => T196 (b := false) (y_st e hH (by repeat (first | exact w_nil | refine w_cons (Or.inl (y_m rfl)) ?_ | refine w_cons (Or.inr (by assumption)) ?_)) (by repeat (first | exact w_nil | refine w_cons (Or.inl (y_m rfl)) ?_ | refine w_cons (Or.inr (by assumption)) ?_))), fun _ => ⟨fun _ => fun H hH => T196 (b := true) (y_st e hH (by repeat (first | exact w_nil | refine w_cons (Or.inl (y_m rfl)) ?_ | refine w_cons (Or.inr (by assumption)) ?_)) (by repeat (first | exact w_nil | refine w_cons (Or.inl (y_m rfl)) ?_ | refine w_cons (Or.inr (by assumption)) ?_))), fun q => fun H hH => ?_⟩⟩
      have q2 : ¬ (gI.toInt < (0 : Int32).toInt) := y_cif q
      rw [show (0 : Int32).toInt = 0 by decide] at q2
      have e2 := y_st e hH (by repeat (first | exact w_nil | refine w_cons (Or.inl (y_m rfl)) ?_ | refine w_cons (Or.inr (by assumption)) ?_)) (by repeat (first | exact w_nil | refine w_cons (Or.inl (y_m rfl)) ?_ | refine w_cons (Or.inr (by assumption)) ?_))
      refine aOK_deep (d := d + 166) (by omega) (y_isOf1 (y_sc_fr sc e2 rfl rfl rfl) h1 r11 (okg (by omega)) (fun b' H2 f2 => ⟨fun n e => (by cases e), ?_⟩))
      exact T188 (y_sq e2 f2 rfl rfl)
    have T145 : ∀ {G : aH} {b : Bool}, y_fr h G [19616, 19617, 19618] [] → aOK s_P X (d + 168) a_m235 145 [some (.ref 155), some (.int rI), some (.int kI), some (.int gI), some (.int uI), some (.long gv), none, some (.long on), none, some (.long ot), none, some (.long sum), none, some (.int wI), o14] [.int (y_01 b)] G C S K0 := by
      intro G b e
      refine w_go z_hl [196] [237] 40 e.1 ?_
      refine ⟨fun _ => fun H hH => T196 (b := false) (y_st e hH (by repeat (first | exact w_nil | refine w_cons (Or.inl (y_m rfl)) ?_ | refine w_cons (Or.inr (by assumption)) ?_)) (by repeat (first | exact w_nil | refine w_cons (Or.inl (y_m rfl)) ?_ | refine w_cons (Or.inr (by assumption)) ?_))), fun _ => ⟨bk2, fun l hl len bb => ?_⟩⟩
      obtain rfl := y_ai ((y_ae e rfl).trans a4) hl
      refine ⟨bk2, fun l2 hl2 len2 bb2 => fun H hH => ?_⟩
      obtain rfl := y_ai ((y_ae e rfl).trans a5) hl2
      have e2 := y_st e hH (by repeat (first | exact w_nil | refine w_cons (Or.inl (y_m rfl)) ?_ | refine w_cons (Or.inr (by assumption)) ?_)) (by repeat (first | exact w_nil | refine w_cons (Or.inl (y_m rfl)) ?_ | refine w_cons (Or.inr (by assumption)) ?_))
      refine aOK_deep (d := d + 166) (by omega) (y_isOf1 (fI := be.getD (kI + Int32.ofInt 2).toNatClampNeg 0) (tI := fi.getD (kI + Int32.ofInt 2).toNatClampNeg 0) (y_sc_fr sc e2 rfl rfl rfl) h1 r11 (by rw [ck2]; exact oks) (fun b' H2 f2 => ⟨fun n e => (by cases e), ?_⟩))
      exact T171 (y_sq e2 f2 rfl rfl)
    have e0 : y_fr h h [19616, 19617, 19618] [] := y_mo (y_rf sc.1) rfl rfl
    refine w_go z_hl [117] [237] 60 sc.1 ?_
    intro x hx _ _
    obtain rfl := y_fi sc.2.1 hx
    refine ⟨fun q => ?_, fun _ => ?_⟩
    · have : (Int32.ofInt 1 <<< (nd &&& 31) - Int32.ofInt 1).toInt < wI.toInt := (y_ci .gt _ _).mp q
      omega
    · refine ⟨bk, fun l hl len bb => ?_⟩
      obtain rfl := y_ai a4 hl
      refine ⟨bk, fun l2 hl2 len2 bb2 => fun H hH => ?_⟩
      obtain rfl := y_ai a5 hl2
      have e2 := y_st e0 hH (by repeat (first | exact w_nil | refine w_cons (Or.inl (y_m rfl)) ?_ | refine w_cons (Or.inr (by assumption)) ?_)) (by repeat (first | exact w_nil | refine w_cons (Or.inl (y_m rfl)) ?_ | refine w_cons (Or.inr (by assumption)) ?_))
      refine aOK_deep (d := d + 166) (by omega) (y_isOf1 (fI := be.getD kI.toNatClampNeg 0) (tI := fi.getD kI.toNatClampNeg 0) (y_sc_fr sc e2 rfl rfl rfl) h1 r11 (by rw [ck]; exact okf) (fun b' H2 f2 => ⟨fun n e => (by cases e), ?_⟩))
      exact T145 (y_sq e2 f2 rfl rfl)
theorem y_tog {h : aH} {r : Nat} {ac kd be fi : List Int32} {nu : List Int64} (s : y_sd h nd sg wl r ac kd nu be fi) {rI : Int32} (h1 : rI.toInt = r) (k0 : y_N kd (2 * r) ≠ 0) (k1 : y_N kd (2 * r + 1) ≠ 0) (hK : ∀ (x : Int32) (H : aH), y_fr h H [19616, 19617, 19618] [] → K0 (some (.int x)) H C S) : aOK s_P X (d + 168) a_m235 0 [some (.ref 155), some (.int rI), none, none, none, none, none, none, none, none, none, none, none, none, none] [] h C S K0 := by
  obtain ⟨sc, a1, a2, a3, a4, a5, ⟨⟨-, t0, -⟩, ⟨-, t1, t2⟩, -⟩, r11⟩ := id s
  have hr := sc.1
  have okf : y_ok1 (y_tx sg r) 40 (y_N be (4 * r)) (y_N fi (4 * r)) := by
    have := t0 k0
    rw [show 2 * (2 * r) = 4 * r by omega] at this
    exact this
  have oks : y_ok1 (y_tx sg r) 40 (y_N be (4 * r + 2)) (y_N fi (4 * r + 2)) := by
    have := t1 k1
    rw [show 2 * (2 * r + 1) = 4 * r + 2 by omega] at this
    exact this
  have hk4 : (Int32.ofInt 4 * rI).toInt = ((4 * r : Nat) : Int) := y_mulS (m := 4) _ (by decide) h1 rfl (by omega)
  generalize hkI : Int32.ofInt 4 * rI = kI at hk4
  have k2 : (kI + Int32.ofInt 2).toInt = ((4 * r + 2 : Nat) : Int) := y_addS _ hk4 (n := 2) (by decide) rfl (by omega)
  have k3 : (kI + Int32.ofInt 3).toInt = ((4 * r + 3 : Nat) : Int) := y_addS _ hk4 (n := 3) (by decide) rfl (by omega)
  have r21 : (Int32.ofInt 2 * rI + Int32.ofInt 1).toInt = ((2 * r + 1 : Nat) : Int) := y_2k h1 (s := 1) (by decide) (by omega) (by decide)
  have ck := y_cl1 hk4
  have ck2 := y_cl1 k2
  have ck3 := y_cl1 k3
  have cr := y_cl1 r21
  have bk : 0 ≤ kI.toInt ∧ kI.toInt < ((52 : Nat) : Int) := by omega
  have bk2 : 0 ≤ (kI + Int32.ofInt 2).toInt ∧ (kI + Int32.ofInt 2).toInt < ((52 : Nat) : Int) := by omega
  have bk3 : 0 ≤ (kI + Int32.ofInt 3).toInt ∧ (kI + Int32.ofInt 3).toInt < ((52 : Nat) : Int) := by omega
  have br : 0 ≤ (Int32.ofInt 2 * rI + Int32.ofInt 1).toInt ∧ (Int32.ofInt 2 * rI + Int32.ofInt 1).toInt < ((26 : Nat) : Int) := by omega
  have T109 : ∀ {G : aH} {gI uI : Int32} {gv on ot : Int64}, y_fr h G [19616, 19617, 19618] [] → (0 ≤ gI.toInt → y_ok1 (y_tx sg r) 40 gI.toInt uI.toInt) → aOK s_P X (d + 168) a_m235 109 [some (.ref 155), some (.int rI), some (.int kI), some (.int gI), some (.int uI), some (.long gv), none, some (.long on), none, none, none, none, none, none, none] [.long ot] G C S K0 := by
    intro G gI uI gv on ot e okg
    refine w_go z_hl [117] [] 40 e.1 ?_
    intro H hH
    have e2 := y_st e hH (by repeat (first | exact w_nil | refine w_cons (Or.inl (y_m rfl)) ?_ | refine w_cons (Or.inr (by assumption)) ?_)) (by repeat (first | exact w_nil | refine w_cons (Or.inl (y_m rfl)) ?_ | refine w_cons (Or.inr (by assumption)) ?_))
    exact y_tog_loop h1 hk4 okf oks okg (y_ways nd) H _ _ 0 _ (y_sd_fr s e2 rfl) rfl (by omega) (fun y H f => hK y H (y_sq e2 f rfl rfl))
  have T83 : ∀ {G : aH} {gI uI : Int32} {gv on : Int64}, y_fr h G [19616, 19617, 19618] [] → (0 ≤ gI.toInt → y_ok1 (y_tx sg r) 40 gI.toInt uI.toInt) → aOK s_P X (d + 168) a_m235 83 [some (.ref 155), some (.int rI), some (.int kI), some (.int gI), some (.int uI), some (.long gv), none, none, none, none, none, none, none, none, none] [.long on] G C S K0 := by
    intro G gI uI gv on e okg
    refine w_go z_hl [] [236] 40 e.1 ?_
    refine ⟨bk2, fun l hl len bb => ?_⟩
    obtain rfl := y_ai ((y_ae e rfl).trans a4) hl
    refine ⟨bk2, fun l2 hl2 len2 bb2 => fun H hH => ?_⟩
    obtain rfl := y_ai ((y_ae e rfl).trans a5) hl2
    have e2 := y_st e hH (by repeat (first | exact w_nil | refine w_cons (Or.inl (y_m rfl)) ?_ | refine w_cons (Or.inr (by assumption)) ?_)) (by repeat (first | exact w_nil | refine w_cons (Or.inl (y_m rfl)) ?_ | refine w_cons (Or.inr (by assumption)) ?_))
    refine y_wob (fI := be.getD (kI + Int32.ofInt 2).toNatClampNeg 0) (tI := fi.getD (kI + Int32.ofInt 2).toNatClampNeg 0) (y_sc_fr sc e2 rfl rfl rfl) h1 r11 (fun _ => by rw [ck2]; exact oks) okg (fun x H2 f2 x0 x8 => ⟨fun n e => (by cases e), ?_⟩)
    exact T109 (y_sq e2 f2 rfl rfl) okg
  have T51 : ∀ {G : aH} {gI uI : Int32} {gv : Int64}, y_fr h G [19616, 19617, 19618] [] → (0 ≤ gI.toInt → y_ok1 (y_tx sg r) 40 gI.toInt uI.toInt) → aOK s_P X (d + 168) a_m235 51 [some (.ref 155), some (.int rI), some (.int kI), some (.int gI), some (.int uI), none, none, none, none, none, none, none, none, none, none] [.long gv] G C S K0 := by
    intro G gI uI gv e okg
    refine w_go z_hl [] [236] 40 e.1 ?_
    refine ⟨fun _ => ⟨bk, fun l hl len bb => ?_⟩, fun _ => fun H hH => hK _ H (y_st e hH (by repeat (first | exact w_nil | refine w_cons (Or.inl (y_m rfl)) ?_ | refine w_cons (Or.inr (by assumption)) ?_)) (by repeat (first | exact w_nil | refine w_cons (Or.inl (y_m rfl)) ?_ | refine w_cons (Or.inr (by assumption)) ?_)))⟩
    obtain rfl := y_ai ((y_ae e rfl).trans a4) hl
    refine ⟨bk, fun l2 hl2 len2 bb2 => fun H hH => ?_⟩
    obtain rfl := y_ai ((y_ae e rfl).trans a5) hl2
    have e2 := y_st e hH (by repeat (first | exact w_nil | refine w_cons (Or.inl (y_m rfl)) ?_ | refine w_cons (Or.inr (by assumption)) ?_)) (by repeat (first | exact w_nil | refine w_cons (Or.inl (y_m rfl)) ?_ | refine w_cons (Or.inr (by assumption)) ?_))
    refine y_wob (fI := be.getD kI.toNatClampNeg 0) (tI := fi.getD kI.toNatClampNeg 0) (y_sc_fr sc e2 rfl rfl rfl) h1 r11 (fun _ => by rw [ck]; exact okf) okg (fun x H2 f2 x0 x8 => ⟨fun n e => (by cases e), ?_⟩)
    exact T83 (y_sq e2 f2 rfl rfl) okg
  have T30 : ∀ {G : aH} {gI : Int32}, y_fr h G [19616, 19617, 19618] [] → (0 ≤ gI.toInt → y_ok1 (y_tx sg r) 40 gI.toInt (y_N fi (4 * r + 3))) → aOK s_P X (d + 168) a_m235 30 [some (.ref 155), some (.int rI), some (.int kI), none, none, none, none, none, none, none, none, none, none, none, none] [.int gI] G C S K0 := by
    intro G gI e okg
    refine w_go z_hl [] [236] 40 e.1 ?_
    refine ⟨bk3, fun l hl len bb => fun H hH => ?_⟩
    obtain rfl := y_ai ((y_ae e rfl).trans a5) hl
    have okg' : 0 ≤ gI.toInt → y_ok1 (y_tx sg r) 40 gI.toInt (fi.getD (kI + Int32.ofInt 3).toNatClampNeg 0).toInt := by
      rw [ck3]
      exact okg
    have e2 := y_st e hH (by repeat (first | exact w_nil | refine w_cons (Or.inl (y_m rfl)) ?_ | refine w_cons (Or.inr (by assumption)) ?_)) (by repeat (first | exact w_nil | refine w_cons (Or.inl (y_m rfl)) ?_ | refine w_cons (Or.inr (by assumption)) ?_))
    refine y_wob (y_sc_fr sc e2 rfl rfl rfl) h1 r11 (fun q => absurd q (by decide)) okg' (fun x H2 f2 x0 x8 => ⟨fun n e => (by cases e), ?_⟩)
    exact T51 (y_sq e2 f2 rfl rfl) okg'
  have T4 : ∀ {G : aH}, y_fr h G [19616, 19617, 19618] [] → aOK s_P X (d + 168) a_m235 4 [some (.ref 155), some (.int rI), some (.int kI), none, none, none, none, none, none, none, none, none, none, none, none] [] G C S K0 := by
    intro G e
    refine w_go z_hl [30] [] 40 e.1 ?_
    refine ⟨br, fun l hl len bb => ?_⟩
    obtain rfl := y_ai ((y_ae e rfl).trans a2) hl
    refine ⟨fun _ => fun H hH => T30 (y_st e hH (by repeat (first | exact w_nil | refine w_cons (Or.inl (y_m rfl)) ?_ | refine w_cons (Or.inr (by assumption)) ?_)) (by repeat (first | exact w_nil | refine w_cons (Or.inl (y_m rfl)) ?_ | refine w_cons (Or.inr (by assumption)) ?_))) (fun q => absurd q (by decide)), fun q => ⟨bk3, fun l2 hl2 len2 bb2 => fun H hH => ?_⟩⟩
    obtain rfl := y_ai ((y_ae e rfl).trans a4) hl2
    have q2 : ¬ ((kd.getD (Int32.ofInt 2 * rI + Int32.ofInt 1).toNatClampNeg 0).toInt ≠ (Int32.ofInt 2).toInt) := y_cif q
    rw [cr, show (Int32.ofInt 2).toInt = 2 by decide] at q2
    have o := t2 (Decidable.not_not.mp q2)
    rw [show 2 * (2 * r + 1) + 1 = 4 * r + 3 by omega] at o
    exact T30 (y_st e hH (by repeat (first | exact w_nil | refine w_cons (Or.inl (y_m rfl)) ?_ | refine w_cons (Or.inr (by assumption)) ?_)) (by repeat (first | exact w_nil | refine w_cons (Or.inl (y_m rfl)) ?_ | refine w_cons (Or.inr (by assumption)) ?_))) (fun _ => by rw [ck3]; exact o)
  refine w_go z_hl [4] [] 40 hr ?_
  intro H hH
  have := T4 (y_st (y_mo (y_rf hr) rfl rfl) hH (by repeat (first | exact w_nil | refine w_cons (Or.inl (y_m rfl)) ?_ | refine w_cons (Or.inr (by assumption)) ?_)) (by repeat (first | exact w_nil | refine w_cons (Or.inl (y_m rfl)) ?_ | refine w_cons (Or.inr (by assumption)) ?_)))
  rw [← hkI] at this
  exact this
end WG
