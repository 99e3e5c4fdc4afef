/-! ===== v3: the reference's weightOfBoth, thingEnd, isJoined ===== -/
def y_sc (h : aH) (nd : Int32) (sg : List Int32) (wl : List Int64) : Prop := w_hr z_D h ∧ w_f h 19591 = some (.int nd) ∧ w_a h 170 = some (0, .inl sg) ∧ y_wl h wl
theorem y_sc_fr {h H : aH} {nd : Int32} {sg : List Int32} {wl : List Int64} {fs as : List Nat} (s : y_sc h nd sg wl) (e : y_fr h H fs as) (h1 : fs.elem 19591 = false) (h2 : as.elem 170 = false) (h3 : as.elem 163 = false) : y_sc H nd sg wl := ⟨e.1, (y_fe e h1).trans s.2.1, (y_ae e h2).trans s.2.2.1, y_wl_fr e (fun q => by rw [List.elem_iff.mpr q] at h3; cases h3) s.2.2.2⟩
section WG
variable {X : aX} {C S d : Nat} {K0 : Option Value → aH → Nat → Nat → Prop} {h : aH} {nd : Int32} {sg : List Int32} {wl : List Int64}
theorem y_isOf1 (s : y_sc h nd sg wl) {rI fI tI way : Int32} {r : Nat} (h1 : rI.toInt = r) (r11 : r ≤ 11) (ok : y_ok1 (y_tx sg r) 40 fI.toInt tI.toInt) (hK : ∀ (b' : Bool) (H : aH), y_fr h H [19616, 19617, 19618] [] → K0 (some (.int (y_01 b'))) H C S) : aOK s_P X (d + 166) a_m237 0 [some (.ref 155), some (.int rI), some (.int fI), some (.int tI), some (.int way)] [] h C S K0 := by
  obtain ⟨o1, o2, o3, o4⟩ := ok
  exact y_isOf s.1 s.2.2.1 h1 r11 (b := fI.toInt.toNat) (f := tI.toInt.toNat) (by omega) (by omega) o3 o4 hK
theorem y_wob_loop {rI fI tI gI uI : Int32} {r : Nat} (h1 : rI.toInt = r) (r11 : r ≤ 11) (okf : 0 ≤ fI.toInt → y_ok1 (y_tx sg r) 40 fI.toInt tI.toInt) (okg : 0 ≤ gI.toInt → y_ok1 (y_tx sg r) 40 gI.toInt uI.toInt) : ∀ (t : Nat) (h : aH) (sum : Int64) (wI : Int32) (k : Nat) (o9 : Option Value), y_sc h nd sg wl → wI.toInt = k → k + t = y_ways nd → 0 ≤ sum.toInt → sum.toInt ≤ y_tot wl k →
    (∀ (x : Int64) (H : aH), y_fr h H [19616, 19617, 19618] [] → 0 ≤ x.toInt → x.toInt ≤ 100000000 → K0 (some (.long x)) H C S) →
    aOK s_P X (d + 167) a_m236 6 [some (.ref 155), some (.int rI), some (.int fI), some (.int tI), some (.int gI), some (.int uI), some (.long sum), none, some (.int wI), o9] [] h C S K0 := by
  intro t
  induction t with
  | zero =>
    intro h sum wI k o9 s hk hkt s0 s1 hK
    obtain ⟨b1, b2⟩ := y_ndb s.1 s.2.1
    obtain ⟨ea, l1, l2⟩ := y_all b1 b2
    have tm := y_tot_m s.2.2.2.2.1 (show k ≤ 1024 by omega)
    have tt := s.2.2.2.2.2
    refine w_go z_hl [6] [] 40 s.1 ?_
    intro x hx _ _
    obtain rfl := y_fi s.2.1 hx
    refine ⟨fun _ => fun H hH => hK sum H (y_st (y_mo (y_rf s.1) rfl rfl) hH (by repeat (first | exact w_nil | refine w_cons (Or.inl (y_m rfl)) ?_ | refine w_cons (Or.inr (by assumption)) ?_)) (by repeat (first | exact w_nil | refine w_cons (Or.inl (y_m rfl)) ?_ | refine w_cons (Or.inr (by assumption)) ?_))) s0 (by omega), fun q => ?_⟩
    have : ¬ ((Int32.ofInt 1 <<< (nd &&& 31) - Int32.ofInt 1).toInt < wI.toInt) := y_cif q
    omega
  | succ t ih =>
    intro h sum wI k o9 s hk hkt s0 s1 hK
    obtain ⟨b1, b2⟩ := y_ndb s.1 s.2.1
    obtain ⟨ea, l1, l2⟩ := y_all b1 b2
    have tm := y_tot_m s.2.2.2.2.1 (show k + 1 ≤ 1024 by omega)
    have tt := s.2.2.2.2.2
    have t1 : y_tot wl (k + 1) = y_tot wl k + (wl.getD k 0).toInt := rfl
    have hg := y_getD s.2.2.2.2.1 k
    have kc := y_cl1 hk
    have ink : (wI + Int32.ofInt 1).toInt = ((k + 1 : Nat) : Int) := by rw [y_inc (by omega), hk]; rfl
    have next : ∀ {G : aH} {x : Int64} {o9 : Option Value}, y_fr h G [19616, 19617, 19618] [] → 0 ≤ x.toInt → x.toInt ≤ (wl.getD k 0).toInt → aOK s_P X (d + 167) a_m236 6 [some (.ref 155), some (.int rI), some (.int fI), some (.int tI), some (.int gI), some (.int uI), some (.long (sum + x)), none, some (.int (wI + Int32.ofInt 1)), o9] [] G C S K0 := by
      intro G x o9 e x0 x1
      have ad : (sum + x).toInt = sum.toInt + x.toInt := y_add (by omega) (by omega)
      exact ih G _ _ (k + 1) _ (y_sc_fr s e rfl rfl rfl) ink (by omega) (by omega) (by omega) (fun y H f y0 y1 => hK y H (y_sq e f rfl rfl) y0 y1)
    have T55 : ∀ {G : aH} {b : Bool}, y_fr h G [19616, 19617, 19618] [] → aOK s_P X (d + 167) a_m236 55 [some (.ref 155), some (.int rI), some (.int fI), some (.int tI), some (.int gI), some (.int uI), some (.long sum), none, some (.int wI), o9] [.int (y_01 b)] G C S K0 := by
      intro G b e
      refine w_go z_hl [6] [] 40 e.1 ?_
      refine ⟨fun _ => fun H hH => next (y_st e hH (by repeat (first | exact w_nil | refine w_cons (Or.inl (y_m rfl)) ?_ | refine w_cons (Or.inr (by assumption)) ?_)) (by repeat (first | exact w_nil | refine w_cons (Or.inl (y_m rfl)) ?_ | refine w_cons (Or.inr (by assumption)) ?_))) (by decide) hg, fun _ => ?_⟩
      refine ⟨⟨by omega, by omega⟩, fun l hl len bb => fun H hH => ?_⟩
      obtain rfl := y_al ((y_ae e rfl).trans s.2.2.2.1) hl
      have hgx : 0 ≤ (wl.getD wI.toNatClampNeg 0).toInt ∧ (wl.getD wI.toNatClampNeg 0).toInt ≤ (wl.getD k 0).toInt := by
        rw [kc]
        omega
      exact next (y_st e hH (by repeat (first | exact w_nil | refine w_cons (Or.inl (y_m rfl)) ?_ | refine w_cons (Or.inr (by assumption)) ?_)) (by repeat (first | exact w_nil | refine w_cons (Or.inl (y_m rfl)) ?_ | refine w_cons (Or.inr (by assumption)) ?_))) hgx.1 hgx.2
    have T47 : ∀ {G : aH} {b : Bool}, y_fr h G [19616, 19617, 19618] [] → aOK s_P X (d + 167) a_m236 47 [some (.ref 155), some (.int rI), some (.int fI), some (.int tI), some (.int gI), some (.int uI), some (.long sum), none, some (.int wI), o9] [.int (y_01 b)] G C S K0 := by
      intro G b e
      refine w_go z_hl [55] [] 40 e.1 ?_
      exact ⟨fun _ => fun H hH => T55 (b := false) (y_st e hH (by repeat (first | exact w_nil | refine w_cons (Or.inl (y_m rfl)) ?_ | refine w_cons (Or.inr (by assumption)) ?_)) (by repeat (first | exact w_nil | refine w_cons (Or.inl (y_m rfl)) ?_ | refine w_cons (Or.inr (by assumption)) ?_))), fun _ => fun H hH => T55 (b := true) (y_st e hH (by repeat (first | exact w_nil | refine w_cons (Or.inl (y_m rfl)) ?_ | refine w_cons (Or.inr (by assumption)) ?_)) (by repeat (first | exact w_nil | refine w_cons (Or.inl (y_m rfl)) ?_ | refine w_cons (Or.inr (by assumption)) ?_)))⟩
    have T31 : ∀ {G : aH}, y_fr h G [19616, 19617, 19618] [] → aOK s_P X (d + 167) a_m236 31 [some (.ref 155), some (.int rI), some (.int fI), some (.int tI), some (.int gI), some (.int uI), some (.long sum), none, some (.int wI), o9] [] G C S K0 := by
      intro G e
      refine w_go z_hl [55] [237] 40 e.1 ?_
      refine ⟨fun _ => fun H hH => T55 (b := true) (y_st e hH (by repeat (first | exact w_nil | refine w_cons (Or.inl (y_m rfl)) ?_ | refine w_cons (Or.inr (by assumption)) ?_)) (by repeat (first | exact w_nil | refine w_cons (Or.inl (y_m rfl)) ?_ | refine w_cons (Or.inr (by assumption)) ?_))), fun q => fun H hH => ?_⟩
      have q2 : ¬ (gI.toInt < (0 : Int32).toInt) := y_cif q
      rw [show (0 : Int32).toInt = 0 by decide] at q2
      have e2 := y_st e hH (by repeat (first | exact w_nil | refine w_cons (Or.inl (y_m rfl)) ?_ | refine w_cons (Or.inr (by assumption)) ?_)) (by repeat (first | exact w_nil | refine w_cons (Or.inl (y_m rfl)) ?_ | refine w_cons (Or.inr (by assumption)) ?_))
      refine y_isOf1 (y_sc_fr s e2 rfl rfl rfl) h1 r11 (okg (by omega)) (fun b' H2 f2 => ⟨fun n e => (by cases e), ?_⟩)
      exact T47 (y_sq e2 f2 rfl rfl)
    have T28 : ∀ {G : aH} {b : Bool}, y_fr h G [19616, 19617, 19618] [] → aOK s_P X (d + 167) a_m236 28 [some (.ref 155), some (.int rI), some (.int fI), some (.int tI), some (.int gI), some (.int uI), some (.long sum), none, some (.int wI), o9] [.int (y_01 b)] G C S K0 := by
      intro G b e
      refine w_go z_hl [55, 31] [] 40 e.1 ?_
      exact ⟨fun _ => fun H hH => T55 (b := false) (y_st e hH (by repeat (first | exact w_nil | refine w_cons (Or.inl (y_m rfl)) ?_ | refine w_cons (Or.inr (by assumption)) ?_)) (by repeat (first | exact w_nil | refine w_cons (Or.inl (y_m rfl)) ?_ | refine w_cons (Or.inr (by assumption)) ?_))), fun _ => fun H hH => T31 (y_st e hH (by repeat (first | exact w_nil | refine w_cons (Or.inl (y_m rfl)) ?_ | refine w_cons (Or.inr (by assumption)) ?_)) (by repeat (first | exact w_nil | refine w_cons (Or.inl (y_m rfl)) ?_ | refine w_cons (Or.inr (by assumption)) ?_)))⟩
    refine w_go z_hl [6, 31] [237] 40 s.1 ?_
    intro x hx _ _
    obtain rfl := y_fi s.2.1 hx
    refine ⟨fun q => ?_, fun _ => ⟨fun _ => fun H hH => T31 (y_st (y_mo (y_rf s.1) rfl rfl) hH (by repeat (first | exact w_nil | refine w_cons (Or.inl (y_m rfl)) ?_ | refine w_cons (Or.inr (by assumption)) ?_)) (by repeat (first | exact w_nil | refine w_cons (Or.inl (y_m rfl)) ?_ | refine w_cons (Or.inr (by assumption)) ?_))), fun q => fun H hH => ?_⟩⟩
    · have : (Int32.ofInt 1 <<< (nd &&& 31) - Int32.ofInt 1).toInt < wI.toInt := (y_ci .gt _ _).mp q
      omega
    · have q2 : ¬ (fI.toInt < (0 : Int32).toInt) := y_cif q
      rw [show (0 : Int32).toInt = 0 by decide] at q2
      have e2 : y_fr h H [19616, 19617, 19618] [] := y_st (y_mo (y_rf s.1) rfl rfl) hH (by repeat (first | exact w_nil | refine w_cons (Or.inl (y_m rfl)) ?_ | refine w_cons (Or.inr (by assumption)) ?_)) (by repeat (first | exact w_nil | refine w_cons (Or.inl (y_m rfl)) ?_ | refine w_cons (Or.inr (by assumption)) ?_))
      refine y_isOf1 (y_sc_fr s e2 rfl rfl rfl) h1 r11 (okf (by omega)) (fun b' H2 f2 => ⟨fun n e => (by cases e), ?_⟩)
      exact T28 (y_sq e2 f2 rfl rfl)
theorem y_wob (s : y_sc h nd sg wl) {rI fI tI gI uI : Int32} {r : Nat} (h1 : rI.toInt = r) (r11 : r ≤ 11) (okf : 0 ≤ fI.toInt → y_ok1 (y_tx sg r) 40 fI.toInt tI.toInt) (okg : 0 ≤ gI.toInt → y_ok1 (y_tx sg r) 40 gI.toInt uI.toInt) (hK : ∀ (x : Int64) (H : aH), y_fr h H [19616, 19617, 19618] [] → 0 ≤ x.toInt → x.toInt ≤ 100000000 → K0 (some (.long x)) H C S) : aOK s_P X (d + 167) a_m236 0 [some (.ref 155), some (.int rI), some (.int fI), some (.int tI), some (.int gI), some (.int uI), none, none, none, none] [] h C S K0 := by
  refine w_go z_hl [6] [] 40 s.1 ?_
  intro H hH
  have e : y_fr h H [19616, 19617, 19618] [] := y_st (y_mo (y_rf s.1) rfl rfl) hH (by repeat (first | exact w_nil | refine w_cons (Or.inl (y_m rfl)) ?_ | refine w_cons (Or.inr (by assumption)) ?_)) (by repeat (first | exact w_nil | refine w_cons (Or.inl (y_m rfl)) ?_ | refine w_cons (Or.inr (by assumption)) ?_))
  exact y_wob_loop h1 r11 okf okg (y_ways nd) H _ _ 0 _ (y_sc_fr s e rfl rfl rfl) rfl (by omega) (by decide) (Int.le_refl 0) (fun y H f y0 y1 => hK y H (y_sq e f rfl rfl) y0 y1)
end WG
/-- how deep in brackets -/
def y_dp (T : Nat → Int) (p : Nat) : Nat → Int
  | 0 => 0
  | n + 1 => y_dp T p n + (if T (p + n) = 40 then 1 else 0) - (if T (p + n) = 41 then 1 else 0)
theorem y_dp_s {T : Nat → Int} {p : Nat} : ∀ (n : Nat), y_dp T p (n + 1) = (if T p = 40 then 1 else 0) - (if T p = 41 then 1 else 0) + y_dp T (p + 1) n
  | 0 => by
    show (0 : Int) + (if T (p + 0) = 40 then 1 else 0) - (if T (p + 0) = 41 then 1 else 0) = (if T p = 40 then 1 else 0) - (if T p = 41 then 1 else 0) + 0
    rw [Nat.add_zero]
    omega
  | n + 1 => by
    show y_dp T p (n + 1) + (if T (p + (n + 1)) = 40 then 1 else 0) - (if T (p + (n + 1)) = 41 then 1 else 0) = _ + (y_dp T (p + 1) n + (if T (p + 1 + n) = 40 then 1 else 0) - (if T (p + 1 + n) = 41 then 1 else 0))
    rw [y_dp_s n, show p + (n + 1) = p + 1 + n by omega]
    omega
theorem y_dp_a {T : Nat → Int} {p : Nat} (m : Nat) : ∀ (n : Nat), y_dp T p (m + n) = y_dp T p m + y_dp T (p + m) n
  | 0 => by
    show y_dp T p m = y_dp T p m + 0
    omega
  | n + 1 => by
    show y_dp T p (m + n) + (if T (p + (m + n)) = 40 then 1 else 0) - (if T (p + (m + n)) = 41 then 1 else 0) = y_dp T p m + (y_dp T (p + m) n + (if T (p + m + n) = 40 then 1 else 0) - (if T (p + m + n) = 41 then 1 else 0))
    rw [y_dp_a m n, show p + (m + n) = p + m + n by omega]
    omega
/-- brackets close; what joins things lies in brackets inside a thing -/
theorem y_E_dp {T : Nat → Int} {st : Nat} : ∀ (n : Nat) {k p q : Nat}, k < 5 → y_E T st n k p q → y_dp T p (q - p) = 0 ∧ (∀ j, p + j ≤ q → 0 ≤ y_dp T p j) ∧ (k = 0 → ∀ j, p + j < q → T (p + j) = 38 → 1 ≤ y_dp T p j) := by
  intro n
  induction n with
  | zero => exact fun _ h => h.elim
  | succ n ih =>
    intro k p q hk h
    have lt := fun {p q : Nat} => y_E_lt (T := T) (st := st) n (p := p) (q := q)
    have seq : ∀ {a b : Nat} {p r q : Nat}, a < 5 → b < 5 → y_E T st n a p r → y_E T st n b r q → p ≤ r → r ≤ q → y_dp T p (q - p) = 0 ∧ ∀ j, p + j ≤ q → 0 ≤ y_dp T p j := by
      intro a b p r q ha hb h1 h2 hpr hrq
      have i1 := ih ha h1
      have i2 := ih hb h2
      refine ⟨?_, fun j hj => ?_⟩
      · rw [show q - p = (r - p) + (q - r) by omega, y_dp_a, i1.1, show p + (r - p) = r by omega, i2.1]
        rfl
      · rcases Nat.lt_or_ge j (r - p) with q1 | q1
        · exact i1.2.1 j (by omega)
        · rw [show j = (r - p) + (j - (r - p)) by omega, y_dp_a, i1.1, show p + (r - p) = r by omega]
          have := i2.2.1 (j - (r - p)) (by omega)
          omega
    have one : ∀ {a : Nat} {p s : Nat} {c : Int}, a < 5 → T p = c → c ≠ 40 → c ≠ 41 → y_E T st n a (p + 1) s → p + 1 ≤ s → y_dp T p (s - p) = 0 ∧ ∀ j, p + j ≤ s → 0 ≤ y_dp T p j := by
      intro a p s c ha hc h40 h41 h1 hps
      have i1 := ih ha h1
      have e : ∀ j, y_dp T p (j + 1) = y_dp T (p + 1) j := fun j => by
        rw [y_dp_s, hc, if_neg h40, if_neg h41]
        omega
      refine ⟨?_, fun j hj => ?_⟩
      · rw [show s - p = (s - (p + 1)) + 1 by omega, e]
        exact i1.1
      · rcases Nat.eq_zero_or_pos j with q1 | q1
        · subst q1
          exact Int.le_refl 0
        · rw [show j = (j - 1) + 1 by omega, e]
          exact i1.2.1 (j - 1) (by omega)
    match k, hk, h with
    | 0, _, h =>
      rcases h with ⟨h0, h⟩ | ⟨h0, h⟩ | ⟨h0, r, h1, h3, h2⟩
      · have a := lt.1 0 (by decide) h
        have i1 := ih (by decide) h
        have o1 := one (by decide) h0 (by decide) (by decide) h (by omega)
        refine ⟨o1.1, o1.2, fun _ j hj h38 => ?_⟩
        rcases Nat.eq_zero_or_pos j with q1 | q1
        · subst q1
          rw [Nat.add_zero, h0] at h38
          omega
        · rw [show j = (j - 1) + 1 by omega, y_dp_s, h0, if_neg (by decide), if_neg (by decide)]
          have := i1.2.2 rfl (j - 1) (by omega) (by rw [show p + 1 + (j - 1) = p + j by omega]; exact h38)
          omega
      · subst h
        have e1 : y_dp T p 1 = 0 := by
          show (0 : Int) + (if T (p + 0) = 40 then 1 else 0) - (if T (p + 0) = 41 then 1 else 0) = 0
          rw [Nat.add_zero, if_neg (by omega), if_neg (by omega)]
          rfl
        refine ⟨by rw [show p + 1 - p = 1 by omega]; exact e1, fun j hj => ?_, fun _ j hj h38 => ?_⟩
        · have : j = 0 ∨ j = 1 := by omega
          rcases this with rfl | rfl
          · exact Int.le_refl 0
          · rw [e1]
            exact Int.le_refl 0
        · have : j = 0 := by omega
          subst this
          rw [Nat.add_zero] at h38
          omega
      · have a := lt.1 2 (by decide) h1
        have i1 := ih (by decide) h1
        have e : ∀ j, y_dp T p (j + 1) = 1 + y_dp T (p + 1) j := fun j => by
          rw [y_dp_s, h0, if_pos rfl, if_neg (by decide)]
          omega
        have er : y_dp T p (r - p) = 1 := by
          rw [show r - p = (r - (p + 1)) + 1 by omega, e, i1.1]
          rfl
        have eq : y_dp T p (q - p) = 0 := by
          rw [h2, show r + 1 - p = (r - p) + 1 by omega]
          show y_dp T p (r - p) + (if T (p + (r - p)) = 40 then 1 else 0) - (if T (p + (r - p)) = 41 then 1 else 0) = 0
          rw [show p + (r - p) = r by omega, er, h3, if_neg (by decide), if_pos rfl]
          rfl
        refine ⟨eq, fun j hj => ?_, fun _ j hj h38 => ?_⟩
        · rcases Nat.eq_zero_or_pos j with q1 | q1
          · subst q1
            exact Int.le_refl 0
          · by_cases q2 : j = q - p
            · rw [q2, eq]
              exact Int.le_refl 0
            · rw [show j = (j - 1) + 1 by omega, e]
              have := i1.2.1 (j - 1) (by omega)
              omega
        · rcases Nat.eq_zero_or_pos j with q1 | q1
          · subst q1
            rw [Nat.add_zero, h0] at h38
            omega
          · rw [show j = (j - 1) + 1 by omega, e]
            have := i1.2.1 (j - 1) (by omega)
            omega
    | 1, _, h =>
      obtain ⟨r, h1, h2⟩ := h
      have a := lt.1 0 (by decide) h1
      have b := lt.2.1 h2
      have := seq (by decide) (by decide) h1 h2 (by omega) b
      exact ⟨this.1, this.2, fun q => by omega⟩
    | 2, _, h =>
      obtain ⟨r, h1, h2⟩ := h
      have a := lt.1 1 (by decide) h1
      have b := lt.2.2 h2
      have := seq (by decide) (by decide) h1 h2 (by omega) b
      exact ⟨this.1, this.2, fun q => by omega⟩
    | 3, _, h =>
      rcases h with ⟨h0, h⟩ | ⟨h0, h3, s, h1, h2⟩
      · subst h
        refine ⟨by rw [Nat.sub_self]; rfl, fun j hj => ?_, fun q => by omega⟩
        rw [show j = 0 by omega]
        exact Int.le_refl 0
      · have a := lt.1 0 (by decide) h1
        have b := lt.2.1 h2
        have o1 := one (by decide) h0 (by decide) (by decide) h1 (by omega)
        have i2 := ih (by decide) h2
        refine ⟨?_, fun j hj => ?_, fun q => by omega⟩
        · rw [show q - p = (s - p) + (q - s) by omega, y_dp_a, o1.1, show p + (s - p) = s by omega, i2.1]
          rfl
        · rcases Nat.lt_or_ge j (s - p) with q1 | q1
          · exact o1.2 j (by omega)
          · rw [show j = (s - p) + (j - (s - p)) by omega, y_dp_a, o1.1, show p + (s - p) = s by omega]
            have := i2.2.1 (j - (s - p)) (by omega)
            omega
    | 4, _, h =>
      rcases h with ⟨h0, h⟩ | ⟨h0, h3, s, h1, h2⟩
      · subst h
        refine ⟨by rw [Nat.sub_self]; rfl, fun j hj => ?_, fun q => by omega⟩
        rw [show j = 0 by omega]
        exact Int.le_refl 0
      · have a := lt.1 1 (by decide) h1
        have b := lt.2.2 h2
        have o1 := one (by decide) h0 (by decide) (by decide) h1 (by omega)
        have i2 := ih (by decide) h2
        refine ⟨?_, fun j hj => ?_, fun q => by omega⟩
        · rw [show q - p = (s - p) + (q - s) by omega, y_dp_a, o1.1, show p + (s - p) = s by omega, i2.1]
          rfl
        · rcases Nat.lt_or_ge j (s - p) with q1 | q1
          · exact o1.2 j (by omega)
          · rw [show j = (s - p) + (j - (s - p)) by omega, y_dp_a, o1.1, show p + (s - p) = s by omega]
            have := i2.2.1 (j - (s - p)) (by omega)
            omega
