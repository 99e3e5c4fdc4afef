/-! ===== v3: the reference's termOf ===== -/
theorem y_E_join {T : Nat → Int} {b f n : Nat} (h : y_E T f (n + 1) 2 b f) (no : ∀ i, b + i < f → T (b + i) = 124 → y_dp T b i ≠ 0) : y_E T f n 1 b f := by
  obtain ⟨r, h1, h2⟩ := h
  have lt := (y_E_lt (T := T) (st := f) n).1 1 (by decide) h1
  have le := (y_E_lt (T := T) (st := f) n).2.2 h2
  by_cases q : r = f
  · rw [q] at h1
    exact h1
  · cases n with
    | zero => exact h1.elim
    | succ n =>
      rcases h2 with ⟨-, x⟩ | ⟨x, -⟩
      · exact absurd x.symm q
      · have dp := (y_E_dp (n + 1) (by decide) h1).1
        have := no (r - b) (by omega) (by rw [show b + (r - b) = r by omega]; exact x)
        exact absurd dp this
section WG
variable {X : aX} {C S d : Nat} {K0 : Option Value → aH → Nat → Nat → Prop} {nd : Int32} {sg : List Int32} {wl : List Int64}
theorem y_term_end {h : aH} (s : y_sc h nd sg wl) {rI sI lI kI fI tI xI gI uI : Int32} {r : Nat} (h1 : rI.toInt = r) (r11 : r ≤ 11) (okf : y_ok1 (y_tx sg r) 40 fI.toInt tI.toInt) (okg : 0 ≤ gI.toInt → y_ok1 (y_tx sg r) 40 gI.toInt uI.toInt) (hK : ∀ (x : Int32) (H : aH), y_fr h H [19587, 19588, 19589, 19616, 19617, 19618] [] → (0 ≤ x.toInt → y_low H) → K0 (some (.int x)) H C S) : aOK s_P X (d + 169) a_m242 195 [some (.ref 155), some (.int rI), some (.int sI), some (.int lI), some (.int kI), some (.int fI), some (.int tI), some (.int xI), some (.int gI), some (.int uI), none, none, none, none] [] h C S K0 := by
  have T285 : ∀ {G : aH} {gv bo : Int64}, y_fr h G [19587, 19588, 19589, 19616, 19617, 19618] [] → y_low G → aOK s_P X (d + 169) a_m242 285 [some (.ref 155), some (.int rI), some (.int sI), some (.int lI), some (.int kI), some (.int fI), some (.int tI), some (.int xI), some (.int gI), some (.int uI), some (.long gv), none, some (.long bo), none] [] G C S K0 := by
    intro G gv bo e lo
    refine w_go z_hl [] [] 40 e.1 ?_
    intro H hH
    have f : y_fr G H [] [] := y_st (y_rf e.1) hH (by repeat (first | exact w_nil | refine w_cons (Or.inl (y_m rfl)) ?_ | refine w_cons (Or.inr (by assumption)) ?_)) (by repeat (first | exact w_nil | refine w_cons (Or.inl (y_m rfl)) ?_ | refine w_cons (Or.inr (by assumption)) ?_))
    exact hK _ H (y_sq e f rfl rfl) (fun _ => y_low_fr lo f rfl)
  have T282 : ∀ {G : aH} {gv bo x : Int64}, y_fr h G [19587, 19588, 19589, 19616, 19617, 19618] [] → -200000000 ≤ x.toInt → 1 ≤ gv.toInt → aOK s_P X (d + 169) a_m242 282 [some (.ref 155), some (.int rI), some (.int sI), some (.int lI), some (.int kI), some (.int fI), some (.int tI), some (.int xI), some (.int gI), some (.int uI), some (.long gv), none, some (.long bo), none] [.long gv, .long x, .ref 155] G C S K0 := by
    intro G gv bo x e x0 g1
    refine w_go z_hl [] [194] 40 e.1 ?_
    intro H hH
    have e2 := y_st e hH (by repeat (first | exact w_nil | refine w_cons (Or.inl (y_m rfl)) ?_ | refine w_cons (Or.inr (by assumption)) ?_)) (by repeat (first | exact w_nil | refine w_cons (Or.inl (y_m rfl)) ?_ | refine w_cons (Or.inr (by assumption)) ?_))
    refine q_lowest (n := x) (m := gv) e2.1 (by omega) g1 (fun u l H2 e3 f1 f2 f3 f4 f5 f6 f7 => ⟨fun n e => (by cases e), ?_⟩)
    exact T285 (y_sq e2 e3 rfl rfl) ⟨l, f2, f3⟩
  have T262 : ∀ {G : aH} {gv bo : Int64}, y_fr h G [19587, 19588, 19589, 19616, 19617, 19618] [] → 1 ≤ gv.toInt → gv.toInt ≤ 100000000 → 0 ≤ bo.toInt → bo.toInt ≤ 100000000 → aOK s_P X (d + 169) a_m242 262 [some (.ref 155), some (.int rI), some (.int sI), some (.int lI), some (.int kI), some (.int fI), some (.int tI), some (.int xI), some (.int gI), some (.int uI), some (.long gv), none, none, none] [.long bo] G C S K0 := by
    intro G gv bo e g1 g8 b0 b8
    have sb : (gv - bo).toInt = gv.toInt - bo.toInt := y_lsub (by omega) (by omega)
    refine w_go z_hl [282] [] 40 e.1 ?_
    refine ⟨fun _ => fun H hH => T282 (y_st e hH (by repeat (first | exact w_nil | refine w_cons (Or.inl (y_m rfl)) ?_ | refine w_cons (Or.inr (by assumption)) ?_)) (by repeat (first | exact w_nil | refine w_cons (Or.inl (y_m rfl)) ?_ | refine w_cons (Or.inr (by assumption)) ?_))) (by omega) g1, fun _ => fun H hH => T282 (y_st e hH (by repeat (first | exact w_nil | refine w_cons (Or.inl (y_m rfl)) ?_ | refine w_cons (Or.inr (by assumption)) ?_)) (by repeat (first | exact w_nil | refine w_cons (Or.inl (y_m rfl)) ?_ | refine w_cons (Or.inr (by assumption)) ?_))) (by rw [sb]; omega) g1⟩
  have T237 : ∀ {G : aH} {gv : Int64}, y_fr h G [19587, 19588, 19589, 19616, 19617, 19618] [] → 0 ≤ gv.toInt → gv.toInt ≤ 100000000 → aOK s_P X (d + 169) a_m242 237 [some (.ref 155), some (.int rI), some (.int sI), some (.int lI), some (.int kI), some (.int fI), some (.int tI), some (.int xI), some (.int gI), some (.int uI), none, none, none, none] [.long gv] G C S K0 := by
    intro G gv e g0 g8
    refine w_go z_hl [] [236] 40 e.1 ?_
    refine ⟨fun q => fun H hH => ?_, fun _ => fun H hH => hK _ H (y_st e hH (by repeat (first | exact w_nil | refine w_cons (Or.inl (y_m rfl)) ?_ | refine w_cons (Or.inr (by assumption)) ?_)) (by repeat (first | exact w_nil | refine w_cons (Or.inl (y_m rfl)) ?_ | refine w_cons (Or.inr (by assumption)) ?_))) (fun q => absurd q (by decide))⟩
    have q2 : gv.toInt ≠ (Int64.ofNat 0).toInt := (y_cl .ne _ _).mp q
    rw [show (Int64.ofNat 0).toInt = 0 by decide] at q2
    have e2 := y_st e hH (by repeat (first | exact w_nil | refine w_cons (Or.inl (y_m rfl)) ?_ | refine w_cons (Or.inr (by assumption)) ?_)) (by repeat (first | exact w_nil | refine w_cons (Or.inl (y_m rfl)) ?_ | refine w_cons (Or.inr (by assumption)) ?_))
    refine aOK_deep (d := d + 167) (by omega) (y_wob (y_sc_fr s e2 rfl rfl rfl) h1 r11 (fun _ => okf) okg (fun x H2 f2 x0 x8 => ⟨fun n e => (by cases e), ?_⟩))
    exact T262 (y_sq e2 f2 rfl rfl) (by omega) g8 x0 x8
  have T226 : ∀ {G : aH}, y_fr h G [19587, 19588, 19589, 19616, 19617, 19618] [] → aOK s_P X (d + 169) a_m242 226 [some (.ref 155), some (.int rI), some (.int sI), some (.int lI), some (.int kI), some (.int fI), some (.int tI), some (.int xI), some (.int gI), some (.int uI), none, none, none, none] [] G C S K0 := by
    intro G e
    refine w_go z_hl [] [236] 40 e.1 ?_
    intro H hH
    have e2 := y_st e hH (by repeat (first | exact w_nil | refine w_cons (Or.inl (y_m rfl)) ?_ | refine w_cons (Or.inr (by assumption)) ?_)) (by repeat (first | exact w_nil | refine w_cons (Or.inl (y_m rfl)) ?_ | refine w_cons (Or.inr (by assumption)) ?_))
    refine aOK_deep (d := d + 167) (by omega) (y_wob (y_sc_fr s e2 rfl rfl rfl) h1 r11 (fun q => absurd q (by decide)) okg (fun x H2 f2 x0 x8 => ⟨fun n e => (by cases e), ?_⟩))
    exact T237 (y_sq e2 f2 rfl rfl) x0 x8
  have T225 : ∀ {G : aH} {x : Int32}, y_fr h G [19587, 19588, 19589, 19616, 19617, 19618] [] → (0 ≤ x.toInt → y_low G) → aOK s_P X (d + 169) a_m242 225 [some (.ref 155), some (.int rI), some (.int sI), some (.int lI), some (.int kI), some (.int fI), some (.int tI), some (.int xI), some (.int gI), some (.int uI), none, none, none, none] [.int x] G C S K0 := by
    intro G x e lo
    refine w_go z_hl [] [] 40 e.1 ?_
    intro H hH
    have f : y_fr G H [] [] := y_st (y_rf e.1) hH (by repeat (first | exact w_nil | refine w_cons (Or.inl (y_m rfl)) ?_ | refine w_cons (Or.inr (by assumption)) ?_)) (by repeat (first | exact w_nil | refine w_cons (Or.inl (y_m rfl)) ?_ | refine w_cons (Or.inr (by assumption)) ?_))
    exact hK x H (y_sq e f rfl rfl) (fun q => y_low_fr (lo q) f rfl)
  obtain ⟨o1, o2, o3, o4⟩ := id okf
  have lt := (y_E_lt (T := y_tx sg r) (st := tI.toInt.toNat) 163).1 2 (by decide) o4
  have T209 : ∀ {G : aH} {b : Bool}, y_fr h G [19587, 19588, 19589, 19616, 19617, 19618] [] → (b = true → y_E (y_tx sg r) tI.toInt.toNat 162 1 fI.toInt.toNat tI.toInt.toNat) → aOK s_P X (d + 169) a_m242 209 [some (.ref 155), some (.int rI), some (.int sI), some (.int lI), some (.int kI), some (.int fI), some (.int tI), some (.int xI), some (.int gI), some (.int uI), none, none, none, none] [.int (y_01 b)] G C S K0 := by
    intro G b e hb
    refine w_go z_hl [226] [244] 40 e.1 ?_
    refine ⟨fun _ => fun H hH => T226 (y_st e hH (by repeat (first | exact w_nil | refine w_cons (Or.inl (y_m rfl)) ?_ | refine w_cons (Or.inr (by assumption)) ?_)) (by repeat (first | exact w_nil | refine w_cons (Or.inl (y_m rfl)) ?_ | refine w_cons (Or.inr (by assumption)) ?_))), fun q => fun H hH => ?_⟩
    cases b with
    | false => exact absurd q (by decide)
    | true =>
      have e2 := y_st e hH (by repeat (first | exact w_nil | refine w_cons (Or.inl (y_m rfl)) ?_ | refine w_cons (Or.inr (by assumption)) ?_)) (by repeat (first | exact w_nil | refine w_cons (Or.inl (y_m rfl)) ?_ | refine w_cons (Or.inr (by assumption)) ?_))
      refine y_alone (b := fI.toInt.toNat) (f := tI.toInt.toNat) (y_sc_fr s e2 rfl rfl rfl) h1 r11 (by omega) (by omega) (by omega) (hb rfl) okg (fun x H2 f2 lo => ⟨fun n e => (by cases e), ?_⟩)
      exact T225 (y_sq e2 f2 rfl rfl) lo
  have e0 : y_fr h h [19587, 19588, 19589, 19616, 19617, 19618] [] := y_mo (y_rf s.1) rfl rfl
  refine w_go z_hl [226] [243] 40 s.1 ?_
  refine ⟨fun _ => fun H hH => T226 (y_st e0 hH (by repeat (first | exact w_nil | refine w_cons (Or.inl (y_m rfl)) ?_ | refine w_cons (Or.inr (by assumption)) ?_)) (by repeat (first | exact w_nil | refine w_cons (Or.inl (y_m rfl)) ?_ | refine w_cons (Or.inr (by assumption)) ?_))), fun _ => fun H hH => ?_⟩
  have e2 := y_st e0 hH (by repeat (first | exact w_nil | refine w_cons (Or.inl (y_m rfl)) ?_ | refine w_cons (Or.inr (by assumption)) ?_)) (by repeat (first | exact w_nil | refine w_cons (Or.inl (y_m rfl)) ?_ | refine w_cons (Or.inr (by assumption)) ?_))
  refine aOK_deep (d := d + 1) (by omega) (y_isJoined (k0 := fI.toInt.toNat) (till := tI.toInt.toNat) e2.1 ((y_ae e2 rfl).trans s.2.2.1) h1 r11 (by omega) (by omega) (by omega) (by omega) (fun b' H2 f2 hb => ⟨fun n e => (by cases e), ?_⟩))
  exact T209 (y_sq e2 f2 rfl rfl) (fun q => y_E_join o4 (hb q))
theorem y_termOf {h : aH} {r : Nat} {ac kd be fi : List Int32} {nu : List Int64} (s : y_sd h nd sg wl r ac kd nu be fi) {rI sI lI : Int32} {sd : Nat} (h1 : rI.toInt = r) (h2 : sI.toInt = sd) (sd2 : sd < 2) (hK : ∀ (x : Int32) (H : aH), y_fr h H [19587, 19588, 19589, 19616, 19617, 19618] [] → (0 ≤ x.toInt → y_low H) → K0 (some (.int x)) H C S) : aOK s_P X (d + 169) a_m242 0 [some (.ref 155), some (.int rI), some (.int sI), some (.int lI), none, none, none, none, none, none, none, none, none, none] [] h C S K0 := by
  obtain ⟨sc, a1, a2, a3, a4, a5, ⟨t0, t1, t2⟩, r11⟩ := id s
  have hr := sc.1
  have tm : y_tm (y_tx sg r) 40 (2 * r + sd) kd nu be fi := by
    have : sd = 0 ∨ sd = 1 := by omega
    rcases this with rfl | rfl
    · exact t0
    · exact t1
  obtain ⟨m0, m1, m2⟩ := tm
  have hk := y_2k h1 h2 (by omega) (by omega)
  generalize hkI : Int32.ofInt 2 * rI + sI = kI at hk
  have ck := y_cl1 hk
  have hk2 : (Int32.ofInt 2 * kI).toInt = ((2 * (2 * r + sd) : Nat) : Int) := y_mulS (m := 2) _ (by decide) hk rfl (by omega)
  have hk3 : (Int32.ofInt 2 * kI + Int32.ofInt 1).toInt = ((2 * (2 * r + sd) + 1 : Nat) : Int) := y_addS _ hk2 (n := 1) (by decide) rfl (by omega)
  have c2 := y_cl1 hk2
  have c3 := y_cl1 hk3
  have b1 : 0 ≤ kI.toInt ∧ kI.toInt < ((26 : Nat) : Int) := by omega
  have b2 : 0 ≤ (Int32.ofInt 2 * kI).toInt ∧ (Int32.ofInt 2 * kI).toInt < ((52 : Nat) : Int) := by omega
  have b3 : 0 ≤ (Int32.ofInt 2 * kI + Int32.ofInt 1).toInt ∧ (Int32.ofInt 2 * kI + Int32.ofInt 1).toInt < ((52 : Nat) : Int) := by omega
  have fin : ∀ {G : aH} {fI tI xI gI uI : Int32}, y_fr h G [19587, 19588, 19589, 19616, 19617, 19618] [] → y_ok1 (y_tx sg r) 40 fI.toInt tI.toInt → (0 ≤ gI.toInt → y_ok1 (y_tx sg r) 40 gI.toInt uI.toInt) → aOK s_P X (d + 169) a_m242 195 [some (.ref 155), some (.int rI), some (.int sI), some (.int lI), some (.int kI), some (.int fI), some (.int tI), some (.int xI), some (.int gI), some (.int uI), none, none, none, none] [] G C S K0 := by
    intro G fI tI xI gI uI e o1 o2
    exact y_term_end (y_sc_fr sc e rfl rfl rfl) h1 r11 o1 o2 (fun x H f lo => hK x H (y_sq e f rfl rfl) lo)
  have T137 : ∀ {G : aH} {fI tI gI uI : Int32} {b : Bool}, y_fr h G [19587, 19588, 19589, 19616, 19617, 19618] [] → y_ok1 (y_tx sg r) 40 fI.toInt tI.toInt → (0 ≤ gI.toInt → y_ok1 (y_tx sg r) 40 gI.toInt uI.toInt) → (b = true → y_ok1 (y_tx sg r) 40 (y_N be (2 * (2 * r + sd) + 1)) (y_N fi (2 * (2 * r + sd) + 1))) → y_ok1 (y_tx sg r) 40 (y_N be (2 * (2 * r + sd))) (y_N fi (2 * (2 * r + sd))) → aOK s_P X (d + 169) a_m242 137 [some (.ref 155), some (.int rI), some (.int sI), some (.int lI), some (.int kI), some (.int fI), some (.int tI), some (.int (y_01 b)), some (.int gI), some (.int uI), none, none, none, none] [] G C S K0 := by
    intro G fI tI gI uI b e o1 o2 o3 o4
    refine w_go z_hl [195] [] 60 e.1 ?_
    refine ⟨fun _ => fun H hH => fin (y_st e hH (by repeat (first | exact w_nil | refine w_cons (Or.inl (y_m rfl)) ?_ | refine w_cons (Or.inr (by assumption)) ?_)) (by repeat (first | exact w_nil | refine w_cons (Or.inl (y_m rfl)) ?_ | refine w_cons (Or.inr (by assumption)) ?_))) o1 o2, fun _ => ⟨fun _ => fun H hH => fin (y_st e hH (by repeat (first | exact w_nil | refine w_cons (Or.inl (y_m rfl)) ?_ | refine w_cons (Or.inr (by assumption)) ?_)) (by repeat (first | exact w_nil | refine w_cons (Or.inl (y_m rfl)) ?_ | refine w_cons (Or.inr (by assumption)) ?_))) o1 o2, fun q => ?_⟩⟩
    cases b with
    | false => exact absurd q (by decide)
    | true =>
      refine ⟨b3, fun l hl len bb => ?_⟩
      obtain rfl := y_ai ((y_ae e rfl).trans a4) hl
      refine ⟨b3, fun l2 hl2 len2 bb2 => ?_⟩
      obtain rfl := y_ai ((y_ae e rfl).trans a5) hl2
      refine ⟨b2, b2, fun H hH => ?_⟩
      refine fin (y_st e hH (by repeat (first | exact w_nil | refine w_cons (Or.inl (y_m rfl)) ?_ | refine w_cons (Or.inr (by assumption)) ?_)) (by repeat (first | exact w_nil | refine w_cons (Or.inl (y_m rfl)) ?_ | refine w_cons (Or.inr (by assumption)) ?_))) ?_ (fun _ => ?_)
      · rw [c3]
        exact o3 rfl
      · rw [c2]
        exact o4
  have T91 : ∀ {G : aH} {fI tI : Int32} {b : Bool}, y_fr h G [19587, 19588, 19589, 19616, 19617, 19618] [] → y_ok1 (y_tx sg r) 40 fI.toInt tI.toInt → (b = true → y_ok1 (y_tx sg r) 40 (y_N be (2 * (2 * r + sd) + 1)) (y_N fi (2 * (2 * r + sd) + 1))) → y_ok1 (y_tx sg r) 40 (y_N be (2 * (2 * r + sd))) (y_N fi (2 * (2 * r + sd))) → aOK s_P X (d + 169) a_m242 91 [some (.ref 155), some (.int rI), some (.int sI), some (.int lI), some (.int kI), some (.int fI), some (.int tI), none, none, none, none, none, none, none] [.int (y_01 b)] G C S K0 := by
    intro G fI tI b e o1 o3 o4
    cases b with
    | false =>
      refine w_go z_hl [137] [] 60 e.1 ?_
      refine ⟨fun _ => ⟨fun _ => fun H hH => T137 (b := false) (y_st e hH (by repeat (first | exact w_nil | refine w_cons (Or.inl (y_m rfl)) ?_ | refine w_cons (Or.inr (by assumption)) ?_)) (by repeat (first | exact w_nil | refine w_cons (Or.inl (y_m rfl)) ?_ | refine w_cons (Or.inr (by assumption)) ?_))) o1 (fun q => absurd q (by decide)) (fun q => by cases q) o4, fun q => absurd q (by decide)⟩, fun q => absurd q (by decide)⟩
    | true =>
      refine w_go z_hl [137] [] 60 e.1 ?_
      refine ⟨fun q => absurd q (by decide), fun _ => ⟨b3, fun l hl len bb => ?_⟩⟩
      obtain rfl := y_ai ((y_ae e rfl).trans a4) hl
      refine ⟨fun q => absurd q (by decide), fun _ => ⟨b3, fun l2 hl2 len2 bb2 => fun H hH => ?_⟩⟩
      obtain rfl := y_ai ((y_ae e rfl).trans a5) hl2
      refine T137 (b := true) (y_st e hH (by repeat (first | exact w_nil | refine w_cons (Or.inl (y_m rfl)) ?_ | refine w_cons (Or.inr (by assumption)) ?_)) (by repeat (first | exact w_nil | refine w_cons (Or.inl (y_m rfl)) ?_ | refine w_cons (Or.inr (by assumption)) ?_))) o1 (fun _ => ?_) (fun _ => o3 rfl) o4
      rw [c3]
      exact o3 rfl
  have T48 : ∀ {G : aH}, y_fr h G [19587, 19588, 19589, 19616, 19617, 19618] [] → y_N kd (2 * r + sd) ≠ 0 → aOK s_P X (d + 169) a_m242 48 [some (.ref 155), some (.int rI), some (.int sI), some (.int lI), some (.int kI), none, none, none, none, none, none, none, none, none] [] G C S K0 := by
    intro G e hk0
    refine w_go z_hl [91] [] 60 e.1 ?_
    refine ⟨b2, fun l hl len bb => ?_⟩
    obtain rfl := y_ai ((y_ae e rfl).trans a4) hl
    refine ⟨b2, fun l2 hl2 len2 bb2 => ?_⟩
    obtain rfl := y_ai ((y_ae e rfl).trans a5) hl2
    refine ⟨b1, fun l3 hl3 len3 bb3 => ?_⟩
    obtain rfl := y_ai ((y_ae e rfl).trans a2) hl3
    have okf : y_ok1 (y_tx sg r) 40 (be.getD (Int32.ofInt 2 * kI).toNatClampNeg 0).toInt (fi.getD (Int32.ofInt 2 * kI).toNatClampNeg 0).toInt := by
      rw [c2]
      exact m1 hk0
    refine ⟨fun _ => fun H hH => T91 (b := false) (y_st e hH (by repeat (first | exact w_nil | refine w_cons (Or.inl (y_m rfl)) ?_ | refine w_cons (Or.inr (by assumption)) ?_)) (by repeat (first | exact w_nil | refine w_cons (Or.inl (y_m rfl)) ?_ | refine w_cons (Or.inr (by assumption)) ?_))) okf (fun q => by cases q) (m1 hk0), fun q => ⟨fun _ => fun H hH => T91 (b := false) (y_st e hH (by repeat (first | exact w_nil | refine w_cons (Or.inl (y_m rfl)) ?_ | refine w_cons (Or.inr (by assumption)) ?_)) (by repeat (first | exact w_nil | refine w_cons (Or.inl (y_m rfl)) ?_ | refine w_cons (Or.inr (by assumption)) ?_))) okf (fun q => by cases q) (m1 hk0), fun _ => fun H hH => T91 (b := true) (y_st e hH (by repeat (first | exact w_nil | refine w_cons (Or.inl (y_m rfl)) ?_ | refine w_cons (Or.inr (by assumption)) ?_)) (by repeat (first | exact w_nil | refine w_cons (Or.inl (y_m rfl)) ?_ | refine w_cons (Or.inr (by assumption)) ?_))) okf (fun _ => m2 ?_) (m1 hk0)⟩⟩
    have q2 : ¬ ((kd.getD kI.toNatClampNeg 0).toInt ≠ (Int32.ofInt 2).toInt) := y_cif q
    rw [ck, show (Int32.ofInt 2).toInt = 2 by decide] at q2
    exact Decidable.not_not.mp q2
  have T46 : ∀ {G : aH}, y_fr h G [19587, 19588, 19589, 19616, 19617, 19618] [] → y_low G → aOK s_P X (d + 169) a_m242 46 [some (.ref 155), some (.int rI), some (.int sI), some (.int lI), some (.int kI), none, none, none, none, none, none, none, none, none] [] G C S K0 := by
    intro G e lo
    refine w_go z_hl [] [] 40 e.1 ?_
    intro H hH
    have f : y_fr G H [] [] := y_st (y_rf e.1) hH (by repeat (first | exact w_nil | refine w_cons (Or.inl (y_m rfl)) ?_ | refine w_cons (Or.inr (by assumption)) ?_)) (by repeat (first | exact w_nil | refine w_cons (Or.inl (y_m rfl)) ?_ | refine w_cons (Or.inr (by assumption)) ?_))
    exact hK _ H (y_sq e f rfl rfl) (fun _ => y_low_fr lo f rfl)
  have T7 : ∀ {G : aH}, y_fr h G [19587, 19588, 19589, 19616, 19617, 19618] [] → aOK s_P X (d + 169) a_m242 7 [some (.ref 155), some (.int rI), some (.int sI), some (.int lI), some (.int kI), none, none, none, none, none, none, none, none, none] [] G C S K0 := by
    intro G e
    refine w_go z_hl [48] [194] 60 e.1 ?_
    refine ⟨rfl, y_zini (by decide) (by decide), ⟨b1, fun l hl len bb => ?_⟩⟩
    obtain rfl := y_ai ((y_ae e rfl).trans a2) hl
    refine ⟨fun q => fun H hH => ?_, fun q => ?_⟩
    · have q2 : (kd.getD kI.toNatClampNeg 0).toInt ≠ (0 : Int32).toInt := (y_ci .ne _ _).mp q
      rw [ck, show (0 : Int32).toInt = 0 by decide] at q2
      exact T48 (y_st e hH (by repeat (first | exact w_nil | refine w_cons (Or.inl (y_m rfl)) ?_ | refine w_cons (Or.inr (by assumption)) ?_)) (by repeat (first | exact w_nil | refine w_cons (Or.inl (y_m rfl)) ?_ | refine w_cons (Or.inr (by assumption)) ?_))) q2
    · have q2 : ¬ ((kd.getD kI.toNatClampNeg 0).toInt ≠ (0 : Int32).toInt) := y_cif q
      rw [ck, show (0 : Int32).toInt = 0 by decide] at q2
      have mm := m0 (Decidable.not_not.mp q2)
      refine ⟨b2, fun l2 hl2 len2 bb2 => ?_⟩
      obtain rfl := y_al ((y_ae e rfl).trans a3) hl2
      refine ⟨b3, fun H hH => ?_⟩
      have e2 := y_st e hH (by repeat (first | exact w_nil | refine w_cons (Or.inl (y_m rfl)) ?_ | refine w_cons (Or.inr (by assumption)) ?_)) (by repeat (first | exact w_nil | refine w_cons (Or.inl (y_m rfl)) ?_ | refine w_cons (Or.inr (by assumption)) ?_))
      refine q_lowest (n := nu.getD (Int32.ofInt 2 * kI).toNatClampNeg 0) (m := nu.getD (Int32.ofInt 2 * kI + Int32.ofInt 1).toNatClampNeg 0) e2.1 (by rw [c2]; have := mm.1; unfold y_Nl at this; omega) (by rw [c3]; exact mm.2) (fun u l H2 e3 f1 f2 f3 f4 f5 f6 f7 => ⟨fun n e => (by cases e), ?_⟩)
      exact T46 (y_sq e2 e3 rfl rfl) ⟨l, f2, f3⟩
  refine w_go z_hl [7] [] 40 hr ?_
  intro H hH
  have := T7 (y_st (y_mo (y_rf hr) rfl rfl) hH (by repeat (first | exact w_nil | refine w_cons (Or.inl (y_m rfl)) ?_ | refine w_cons (Or.inr (by assumption)) ?_)) (by repeat (first | exact w_nil | refine w_cons (Or.inl (y_m rfl)) ?_ | refine w_cons (Or.inr (by assumption)) ?_)))
  rw [← hkI] at this
  exact this
end WG
