/-! ===== v3: the reference's readsThing, readsEvery, readsEvent ===== -/
theorem y_E_m1 {T : Nat → Int} {st : Nat} : ∀ (n : Nat) {k p q : Nat}, k < 5 → y_E T st n k p q → y_E T st (n + 1) k p q := by
  intro n
  induction n with
  | zero => exact fun _ h => h.elim
  | succ n ih =>
    intro k p q hk h
    match k, hk, h with
    | 0, _, h =>
      rcases h with ⟨h0, h⟩ | ⟨h0, h⟩ | ⟨h0, r, h1, h3, h2⟩
      · exact Or.inl ⟨h0, ih (by decide) h⟩
      · exact Or.inr (Or.inl ⟨h0, h⟩)
      · exact Or.inr (Or.inr ⟨h0, r, ih (by decide) h1, h3, h2⟩)
    | 1, _, h =>
      obtain ⟨r, h1, h2⟩ := h
      exact ⟨r, ih (by decide) h1, ih (by decide) h2⟩
    | 2, _, h =>
      obtain ⟨r, h1, h2⟩ := h
      exact ⟨r, ih (by decide) h1, ih (by decide) h2⟩
    | 3, _, h =>
      rcases h with ⟨h0, h⟩ | ⟨h0, h3, s, h1, h2⟩
      · exact Or.inl ⟨h0, h⟩
      · exact Or.inr ⟨h0, h3, s, ih (by decide) h1, ih (by decide) h2⟩
    | 4, _, h =>
      rcases h with ⟨h0, h⟩ | ⟨h0, h3, s, h1, h2⟩
      · exact Or.inl ⟨h0, h⟩
      · exact Or.inr ⟨h0, h3, s, ih (by decide) h1, ih (by decide) h2⟩
theorem y_E_m {T : Nat → Int} {st : Nat} {n m k p q : Nat} (hk : k < 5) (h : n ≤ m) (e : y_E T st n k p q) : y_E T st m k p q := by
  induction h with
  | refl => exact e
  | step _ ih => exact y_E_m1 _ hk ih
/-- how much it takes -/
def y_ef (k len : Nat) : Nat := 4 * len + (match k with
  | 0 => 0
  | 1 => 2
  | 2 => 3
  | _ => 1)
def y_rm (k : Nat) : aM := match k with
  | 0 => a_m231
  | 1 => a_m230
  | _ => a_m229
def y_rl (k : Nat) : aL := match k with
  | 0 => [some (.ref 155)]
  | _ => [some (.ref 155), none]
def y_RD (X : aX) (C S d n : Nat) : Prop := ∀ (k : Nat) (h : aH) (K0 : Option Value → aH → Nat → Nat → Prop) (tp : List Int32) (t p : Nat) (o : Int), k < 3 → y_ps h tp t p o → 4 * (t - p) + k + 1 ≤ n →
  (∀ (H : aH) (q : Nat), y_fr h H [19613, 19615] [] → y_ps H tp t q o → p < q → y_E (y_N tp) t (y_ef k (q - p)) k p q → K0 (some (.int (Int32.ofInt 1))) H C S) →
  (∀ (H : aH) (q : Nat) (o' : Int), y_fr h H [19613, 19615] [] → y_ps H tp t q o' → K0 (some (.int (Int32.ofInt 0))) H C S) →
  aOK s_P X (n + d + 2) (y_rm k) 0 (y_rl k) [] h C S K0
section WG
variable {X : aX} {C S d n : Nat} {K0 : Option Value → aH → Nat → Nat → Prop} {h : aH} {tp : List Int32} {t p : Nat} {o : Int}
theorem y_ps_hr (s : y_ps h tp t p o) : w_hr z_D h ∧ p ≤ t ∧ t ≤ 40 ∧ 0 ≤ o ∧ o ≤ 5 := by
  obtain ⟨toI, atI, opI, nd, hr, a1, a2, a3, a4, a5, a6, a7, a8, pt, t40, o0, o5⟩ := s
  exact ⟨hr, pt, t40, o0, o5⟩
theorem y_rd_thing (ih : y_RD X C S d n) (s : y_ps h tp t p o) (hn : 4 * (t - p) + 1 ≤ n + 1) (yes : ∀ (H : aH) (q : Nat), y_fr h H [19613, 19615] [] → y_ps H tp t q o → p < q → y_E (y_N tp) t (y_ef 0 (q - p)) 0 p q → K0 (some (.int (Int32.ofInt 1))) H C S) (no : ∀ (H : aH) (q : Nat) (o' : Int), y_fr h H [19613, 19615] [] → y_ps H tp t q o' → K0 (some (.int (Int32.ofInt 0))) H C S) : aOK s_P X (n + 1 + d + 2) a_m231 0 [some (.ref 155)] [] h C S K0 := by
  obtain ⟨hr, pt, t40, o0, o5⟩ := y_ps_hr s
  have e0 : y_fr h h [19613, 19615] [] := y_mo (y_rf hr) rfl rfl
  have T13y : ∀ {G : aH} {q : Nat}, y_fr h G [19613, 19615] [] → y_ps G tp t q o → p < q → y_E (y_N tp) t (y_ef 0 (q - p)) 0 p q → aOK s_P X (n + 1 + d + 2) a_m231 13 [some (.ref 155)] [.int (Int32.ofInt 1)] G C S K0 := by
    intro G q e s2 hpq hE
    refine w_go z_hl [] [] 30 e.1 ?_
    refine ⟨by decide, fun H hH => ?_⟩
    have f : y_fr G H [] [] := y_st (y_rf e.1) hH (by repeat (first | exact w_nil | refine w_cons (Or.inl (y_m rfl)) ?_ | refine w_cons (Or.inr (by assumption)) ?_)) (by repeat (first | exact w_nil | refine w_cons (Or.inl (y_m rfl)) ?_ | refine w_cons (Or.inr (by assumption)) ?_))
    exact yes H q (y_sq e f rfl rfl) (y_ps_fr s2 f rfl rfl) hpq hE
  have T13n : ∀ {G : aH} {q : Nat} {o' : Int}, y_fr h G [19613, 19615] [] → y_ps G tp t q o' → aOK s_P X (n + 1 + d + 2) a_m231 13 [some (.ref 155)] [.int (Int32.ofInt 0)] G C S K0 := by
    intro G q o' e s2
    refine w_go z_hl [] [] 30 e.1 ?_
    refine ⟨by decide, fun H hH => ?_⟩
    have f : y_fr G H [] [] := y_st (y_rf e.1) hH (by repeat (first | exact w_nil | refine w_cons (Or.inl (y_m rfl)) ?_ | refine w_cons (Or.inr (by assumption)) ?_)) (by repeat (first | exact w_nil | refine w_cons (Or.inl (y_m rfl)) ?_ | refine w_cons (Or.inr (by assumption)) ?_))
    exact no H q o' (y_sq e f rfl rfl) (y_ps_fr s2 f rfl rfl)
  have N : ∀ {G : aH} {pc : Nat} {q : Nat} {o' : Int}, (pc = 50 ∨ pc = 88) → y_fr h G [19613, 19615] [] → y_ps G tp t q o' → aOK s_P X (n + 1 + d + 2) a_m231 pc [some (.ref 155)] [] G C S K0 := by
    intro G pc q o' hpc e s2
    rcases hpc with rfl | rfl
    · refine w_go z_hl [] [] 30 e.1 ?_
      refine ⟨by decide, fun H hH => ?_⟩
      have f : y_fr G H [] [] := y_st (y_rf e.1) hH (by repeat (first | exact w_nil | refine w_cons (Or.inl (y_m rfl)) ?_ | refine w_cons (Or.inr (by assumption)) ?_)) (by repeat (first | exact w_nil | refine w_cons (Or.inl (y_m rfl)) ?_ | refine w_cons (Or.inr (by assumption)) ?_))
      exact no H q o' (y_sq e f rfl rfl) (y_ps_fr s2 f rfl rfl)
    · refine w_go z_hl [] [] 30 e.1 ?_
      refine ⟨by decide, fun H hH => ?_⟩
      have f : y_fr G H [] [] := y_st (y_rf e.1) hH (by repeat (first | exact w_nil | refine w_cons (Or.inl (y_m rfl)) ?_ | refine w_cons (Or.inr (by assumption)) ?_)) (by repeat (first | exact w_nil | refine w_cons (Or.inl (y_m rfl)) ?_ | refine w_cons (Or.inr (by assumption)) ?_))
      exact no H q o' (y_sq e f rfl rfl) (y_ps_fr s2 f rfl rfl)
  have T85y : ∀ {G : aH} {r : Nat}, y_fr h G [19613, 19615] [] → y_ps G tp t (r + 1) (o + 1) → p < r → y_N tp p = 40 → y_E (y_N tp) t (y_ef 2 (r - (p + 1))) 2 (p + 1) r → y_N tp r = 41 → aOK s_P X (n + 1 + d + 2) a_m231 85 [some (.ref 155)] [.int (Int32.ofInt 1)] G C S K0 := by
    intro G r e s2 hpr h40 hE h41
    obtain ⟨toI, atI, opI, nd, -, a1, a2, a3, a4, a5, a6, a7, a8, pt', -, o0', o5'⟩ := s2
    have dec : (opI - Int32.ofInt 1).toInt = opI.toInt - 1 := y_sub1 (by omega)
    refine w_go z_hl [] [] 30 e.1 ?_
    refine ⟨fun _ => ?_, fun q => absurd q (by decide)⟩
    intro x hx _ _
    obtain rfl := y_fi a6 hx
    refine ⟨rfl, y_zini (by show 0 ≤ (opI - Int32.ofInt 1).toInt; omega) (by show (opI - Int32.ofInt 1).toInt ≤ 5; omega), by decide, fun H hH => ?_⟩
    have f : y_fr G H [19615] [] := y_st (y_mo (y_rf e.1) rfl rfl) hH (by repeat (first | exact w_nil | refine w_cons (Or.inl (y_m rfl)) ?_ | refine w_cons (Or.inr (by assumption)) ?_)) (by repeat (first | exact w_nil | refine w_cons (Or.inl (y_m rfl)) ?_ | refine w_cons (Or.inr (by assumption)) ?_))
    refine yes H (r + 1) (y_sq e f rfl rfl) ⟨toI, atI, _, nd, f.1, (y_ae f rfl).trans a1, (y_fe f rfl).trans a2, a3, (y_fe f rfl).trans a4, a5, hH.2.1 19615 _ rfl, (show (opI - Int32.ofInt 1).toInt = o by omega), (y_fe f rfl).trans a8, pt', t40, o0, o5⟩ (by omega) ?_
    obtain ⟨m, hm⟩ : ∃ m, y_ef 0 (r + 1 - p) = m + 1 := ⟨y_ef 0 (r + 1 - p) - 1, by simp only [y_ef]; omega⟩
    rw [hm]
    refine Or.inr (Or.inr ⟨h40, r, y_E_m (by decide) ?_ hE, h41, rfl⟩)
    (simp only [y_ef] at hm ⊢; omega)
  have T85n : ∀ {G : aH} {q : Nat} {o' : Int}, y_fr h G [19613, 19615] [] → y_ps G tp t q o' → aOK s_P X (n + 1 + d + 2) a_m231 85 [some (.ref 155)] [.int (Int32.ofInt 0)] G C S K0 := by
    intro G q o' e s2
    refine w_go z_hl [88] [] 30 e.1 ?_
    refine ⟨fun q => absurd q (by decide), fun _ => fun H hH => ?_⟩
    have f : y_fr G H [] [] := y_st (y_rf e.1) hH (by repeat (first | exact w_nil | refine w_cons (Or.inl (y_m rfl)) ?_ | refine w_cons (Or.inr (by assumption)) ?_)) (by repeat (first | exact w_nil | refine w_cons (Or.inl (y_m rfl)) ?_ | refine w_cons (Or.inr (by assumption)) ?_))
    exact N (Or.inr rfl) (y_sq e f rfl rfl) (y_ps_fr s2 f rfl rfl)
  have T76y : ∀ {G : aH} {r : Nat}, y_fr h G [19613, 19615] [] → y_ps G tp t r (o + 1) → p < r → y_N tp p = 40 → y_E (y_N tp) t (y_ef 2 (r - (p + 1))) 2 (p + 1) r → aOK s_P X (n + 1 + d + 2) a_m231 76 [some (.ref 155)] [.int (Int32.ofInt 1)] G C S K0 := by
    intro G r e s2 hpr h40 hE
    refine w_go z_hl [88] [226] 30 e.1 ?_
    refine ⟨fun q => absurd q (by decide), fun _ => fun H hH => ?_⟩
    have f : y_fr G H [] [] := y_st (y_rf e.1) hH (by repeat (first | exact w_nil | refine w_cons (Or.inl (y_m rfl)) ?_ | refine w_cons (Or.inr (by assumption)) ?_)) (by repeat (first | exact w_nil | refine w_cons (Or.inl (y_m rfl)) ?_ | refine w_cons (Or.inr (by assumption)) ?_))
    refine y_comes (y_ps_fr s2 f rfl rfl) (fun H2 e2 s3 hp hc => ⟨fun n e => (by cases e), ?_⟩) (fun H2 e2 s3 hn => ⟨fun n e => (by cases e), ?_⟩)
    · exact T85y (y_sq (y_sq e f rfl rfl) e2 rfl rfl) s3 hpr h40 hE hc
    · exact T85n (y_sq (y_sq e f rfl rfl) e2 rfl rfl) s3
  have T76n : ∀ {G : aH} {q : Nat} {o' : Int}, y_fr h G [19613, 19615] [] → y_ps G tp t q o' → aOK s_P X (n + 1 + d + 2) a_m231 76 [some (.ref 155)] [.int (Int32.ofInt 0)] G C S K0 := by
    intro G q o' e s2
    refine w_go z_hl [88] [] 30 e.1 ?_
    refine ⟨fun _ => fun H hH => ?_, fun q => absurd q (by decide)⟩
    have f : y_fr G H [] [] := y_st (y_rf e.1) hH (by repeat (first | exact w_nil | refine w_cons (Or.inl (y_m rfl)) ?_ | refine w_cons (Or.inr (by assumption)) ?_)) (by repeat (first | exact w_nil | refine w_cons (Or.inl (y_m rfl)) ?_ | refine w_cons (Or.inr (by assumption)) ?_))
    exact N (Or.inr rfl) (y_sq e f rfl rfl) (y_ps_fr s2 f rfl rfl)
  have T39y : ∀ {G : aH}, y_fr h G [19613, 19615] [] → y_ps G tp t p o → p < t → y_N tp p = 40 → aOK s_P X (n + 1 + d + 2) a_m231 39 [some (.ref 155)] [.int (Int32.ofInt 1)] G C S K0 := by
    intro G e s2 hp h40
    have s2' := s2
    obtain ⟨toI, atI, opI, nd, -, a1, a2, a3, a4, a5, a6, a7, a8, pt', -, o0', o5'⟩ := s2
    have inc : (atI + Int32.ofInt 1).toInt = ((p + 1 : Nat) : Int) := by rw [y_inc (by omega), a5]; rfl
    have inco : (opI + Int32.ofInt 1).toInt = opI.toInt + 1 := y_inc (by omega)
    refine w_go z_hl [50] [229] 40 e.1 ?_
    refine ⟨fun q => absurd q (by decide), fun _ => ?_⟩
    intro x hx _ _
    obtain rfl := y_fi a6 hx
    refine ⟨fun q => ?_, fun _ => fun H hH => ?_⟩
    · have q2 : opI.toInt ≠ (Int32.ofInt 5).toInt := (y_ci .ne _ _).mp q
      rw [show (Int32.ofInt 5).toInt = 5 by decide] at q2
      intro y hy _ _
      obtain rfl := y_fi a4 hy
      refine ⟨rfl, y_zini (by show 0 ≤ (atI + Int32.ofInt 1).toInt; omega) (by show (atI + Int32.ofInt 1).toInt ≤ 40; omega), ?_⟩
      refine ⟨rfl, y_zini (by show 0 ≤ (opI + Int32.ofInt 1).toInt; omega) (by show (opI + Int32.ofInt 1).toInt ≤ 5; omega), ?_⟩
      intro H hH
      have f : y_fr G H [19613, 19615] [] := y_st (y_mo (y_rf e.1) rfl rfl) hH (by repeat (first | exact w_nil | refine w_cons (Or.inl (y_m rfl)) ?_ | refine w_cons (Or.inr (by assumption)) ?_)) (by repeat (first | exact w_nil | refine w_cons (Or.inl (y_m rfl)) ?_ | refine w_cons (Or.inr (by assumption)) ?_))
      have s3 : y_ps H tp t (p + 1) (o + 1) := ⟨toI, _, _, nd, f.1, (y_ae f rfl).trans a1, (y_fe f rfl).trans a2, a3, hH.2.1 19613 _ rfl, inc, hH.2.1 19615 _ rfl, (show (opI + Int32.ofInt 1).toInt = o + 1 by omega), (y_fe f rfl).trans a8, by omega, t40, by omega, by omega⟩
      have e2 := y_sq e f rfl rfl
      refine aOK_deep (d := n + d + 2) (by omega) (ih 2 H _ tp t (p + 1) (o + 1) (by decide) s3 (by omega) (fun H2 q f2 s4 hpq hE => ⟨fun n e => (by cases e), ?_⟩) (fun H2 q o' f2 s4 => ⟨fun n e => (by cases e), ?_⟩))
      · exact T76y (y_sq e2 f2 rfl rfl) s4 (by omega) h40 hE
      · exact T76n (y_sq e2 f2 rfl rfl) s4
    · have f : y_fr G H [] [] := y_st (y_rf e.1) hH (by repeat (first | exact w_nil | refine w_cons (Or.inl (y_m rfl)) ?_ | refine w_cons (Or.inr (by assumption)) ?_)) (by repeat (first | exact w_nil | refine w_cons (Or.inl (y_m rfl)) ?_ | refine w_cons (Or.inr (by assumption)) ?_))
      exact N (Or.inl rfl) (y_sq e f rfl rfl) (y_ps_fr s2' f rfl rfl)
  have T39n : ∀ {G : aH}, y_fr h G [19613, 19615] [] → y_ps G tp t p o → aOK s_P X (n + 1 + d + 2) a_m231 39 [some (.ref 155)] [.int (Int32.ofInt 0)] G C S K0 := by
    intro G e s2
    refine w_go z_hl [50] [] 30 e.1 ?_
    refine ⟨fun _ => fun H hH => ?_, fun q => absurd q (by decide)⟩
    have f : y_fr G H [] [] := y_st (y_rf e.1) hH (by repeat (first | exact w_nil | refine w_cons (Or.inl (y_m rfl)) ?_ | refine w_cons (Or.inr (by assumption)) ?_)) (by repeat (first | exact w_nil | refine w_cons (Or.inl (y_m rfl)) ?_ | refine w_cons (Or.inr (by assumption)) ?_))
    exact N (Or.inl rfl) (y_sq e f rfl rfl) (y_ps_fr s2 f rfl rfl)
  have T18y : ∀ {G : aH}, y_fr h G [19613, 19615] [] → y_ps G tp t p o → p < t → 97 ≤ y_N tp p → aOK s_P X (n + 1 + d + 2) a_m231 18 [some (.ref 155)] [.int (Int32.ofInt 1)] G C S K0 := by
    intro G e s2 hp h97
    obtain ⟨toI, atI, opI, nd, -, a1, a2, a3, a4, a5, a6, a7, a8, pt', -, o0', o5'⟩ := s2
    have inc : (atI + Int32.ofInt 1).toInt = ((p + 1 : Nat) : Int) := by rw [y_inc (by omega), a5]; rfl
    refine w_go z_hl [] [] 40 e.1 ?_
    refine ⟨fun q => absurd q (by decide), fun _ => ?_⟩
    intro y hy _ _
    obtain rfl := y_fi a4 hy
    refine ⟨rfl, y_zini (by show 0 ≤ (atI + Int32.ofInt 1).toInt; omega) (by show (atI + Int32.ofInt 1).toInt ≤ 40; omega), by decide, fun H hH => ?_⟩
    have f : y_fr G H [19613] [] := y_st (y_mo (y_rf e.1) rfl rfl) hH (by repeat (first | exact w_nil | refine w_cons (Or.inl (y_m rfl)) ?_ | refine w_cons (Or.inr (by assumption)) ?_)) (by repeat (first | exact w_nil | refine w_cons (Or.inl (y_m rfl)) ?_ | refine w_cons (Or.inr (by assumption)) ?_))
    refine yes H (p + 1) (y_sq e f rfl rfl) ⟨toI, _, opI, nd, f.1, (y_ae f rfl).trans a1, (y_fe f rfl).trans a2, a3, hH.2.1 19613 _ rfl, inc, (y_fe f rfl).trans a6, a7, (y_fe f rfl).trans a8, by omega, t40, o0, o5⟩ (by omega) ?_
    rw [show y_ef 0 (p + 1 - p) = 3 + 1 by simp only [y_ef]; omega]
    exact Or.inr (Or.inl ⟨h97, rfl⟩)
  have T18n : ∀ {G : aH}, y_fr h G [19613, 19615] [] → y_ps G tp t p o → aOK s_P X (n + 1 + d + 2) a_m231 18 [some (.ref 155)] [.int (Int32.ofInt 0)] G C S K0 := by
    intro G e s2
    refine w_go z_hl [] [227] 30 e.1 ?_
    refine ⟨fun _ => fun H hH => ?_, fun q => absurd q (by decide)⟩
    have f : y_fr G H [] [] := y_st (y_rf e.1) hH (by repeat (first | exact w_nil | refine w_cons (Or.inl (y_m rfl)) ?_ | refine w_cons (Or.inr (by assumption)) ?_)) (by repeat (first | exact w_nil | refine w_cons (Or.inl (y_m rfl)) ?_ | refine w_cons (Or.inr (by assumption)) ?_))
    refine y_isAt (y_ps_fr s2 f rfl rfl) (fun H2 e2 hp hc => ⟨fun n e => (by cases e), ?_⟩) (fun H2 e2 hn => ⟨fun n e => (by cases e), ?_⟩)
    · exact T39y (y_sq (y_sq e f rfl rfl) e2 rfl rfl) (y_ps_fr (y_ps_fr s2 f rfl rfl) e2 rfl rfl) hp hc
    · exact T39n (y_sq (y_sq e f rfl rfl) e2 rfl rfl) (y_ps_fr (y_ps_fr s2 f rfl rfl) e2 rfl rfl)
  have T6y : ∀ {G : aH}, y_fr h G [19613, 19615] [] → y_ps G tp t (p + 1) o → p < t → y_N tp p = 33 → aOK s_P X (n + 1 + d + 2) a_m231 6 [some (.ref 155)] [.int (Int32.ofInt 1)] G C S K0 := by
    intro G e s2 hp h33
    refine w_go z_hl [] [231] 30 e.1 ?_
    refine ⟨fun q => absurd q (by decide), fun _ => fun H hH => ?_⟩
    have f : y_fr G H [] [] := y_st (y_rf e.1) hH (by repeat (first | exact w_nil | refine w_cons (Or.inl (y_m rfl)) ?_ | refine w_cons (Or.inr (by assumption)) ?_)) (by repeat (first | exact w_nil | refine w_cons (Or.inl (y_m rfl)) ?_ | refine w_cons (Or.inr (by assumption)) ?_))
    have e2 := y_sq e f rfl rfl
    refine aOK_deep (d := n + d + 2) (by omega) (ih 0 H _ tp t (p + 1) o (by decide) (y_ps_fr s2 f rfl rfl) (by omega) (fun H2 q f2 s4 hpq hE => ⟨fun n e => (by cases e), ?_⟩) (fun H2 q o' f2 s4 => ⟨fun n e => (by cases e), ?_⟩))
    · refine T13y (y_sq e2 f2 rfl rfl) s4 (by omega) ?_
      obtain ⟨m, hm⟩ : ∃ m, y_ef 0 (q - p) = m + 1 := ⟨y_ef 0 (q - p) - 1, by simp only [y_ef]; omega⟩
      rw [hm]
      refine Or.inl ⟨h33, y_E_m (by decide) ?_ hE⟩
      (simp only [y_ef] at hm ⊢; omega)
    · exact T13n (y_sq e2 f2 rfl rfl) s4
  have T6n : ∀ {G : aH}, y_fr h G [19613, 19615] [] → y_ps G tp t p o → aOK s_P X (n + 1 + d + 2) a_m231 6 [some (.ref 155)] [.int (Int32.ofInt 0)] G C S K0 := by
    intro G e s2
    refine w_go z_hl [] [232] 30 e.1 ?_
    refine ⟨fun _ => fun H hH => ?_, fun q => absurd q (by decide)⟩
    have f : y_fr G H [] [] := y_st (y_rf e.1) hH (by repeat (first | exact w_nil | refine w_cons (Or.inl (y_m rfl)) ?_ | refine w_cons (Or.inr (by assumption)) ?_)) (by repeat (first | exact w_nil | refine w_cons (Or.inl (y_m rfl)) ?_ | refine w_cons (Or.inr (by assumption)) ?_))
    have s3 := y_ps_fr s2 f rfl rfl
    refine y_isLetter s3 (fun H2 e2 hp hc => ⟨fun n e => (by cases e), ?_⟩) (fun H2 e2 => ⟨fun n e => (by cases e), ?_⟩)
    · exact T18y (y_sq (y_sq e f rfl rfl) e2 rfl rfl) (y_ps_fr s3 e2 rfl rfl) hp hc
    · exact T18n (y_sq (y_sq e f rfl rfl) e2 rfl rfl) (y_ps_fr s3 e2 rfl rfl)
  refine w_go z_hl [] [226] 30 hr ?_
  intro H hH
  have f : y_fr h H [] [] := y_st (y_rf hr) hH (by repeat (first | exact w_nil | refine w_cons (Or.inl (y_m rfl)) ?_ | refine w_cons (Or.inr (by assumption)) ?_)) (by repeat (first | exact w_nil | refine w_cons (Or.inl (y_m rfl)) ?_ | refine w_cons (Or.inr (by assumption)) ?_))
  refine y_comes (y_ps_fr s f rfl rfl) (fun H2 e2 s3 hp hc => ⟨fun n e => (by cases e), ?_⟩) (fun H2 e2 s3 hn => ⟨fun n e => (by cases e), ?_⟩)
  · exact T6y (y_sq (y_mo f rfl rfl) e2 rfl rfl) s3 hp hc
  · exact T6n (y_sq (y_mo f rfl rfl) e2 rfl rfl) s3
theorem y_ev_loop (ih : y_RD X C S d n) : ∀ (m : Nat) (h : aH) (p : Nat), y_ps h tp t p o → t - p ≤ m → 4 * (t - p) ≤ n →
    (∀ (H : aH) (q : Nat), y_fr h H [19613, 19615] [] → y_ps H tp t q o → p ≤ q → y_E (y_N tp) t (y_ef 3 (q - p)) 3 p q → K0 (some (.int (Int32.ofInt 1))) H C S) →
    (∀ (H : aH) (q : Nat) (o' : Int), y_fr h H [19613, 19615] [] → y_ps H tp t q o' → K0 (some (.int (Int32.ofInt 0))) H C S) →
    aOK s_P X (n + 1 + d + 2) a_m230 5 [some (.ref 155), some (.int (Int32.ofInt 1))] [] h C S K0 := by
  intro m
  induction m with
  | zero =>
    intro h p s hm hn yes no
    obtain ⟨hr, pt, t40, o0, o5⟩ := y_ps_hr s
    have T15n : ∀ {G : aH}, y_fr h G [19613, 19615] [] → y_ps G tp t p o → ¬ (y_N tp p = 38 ∧ p < t) → aOK s_P X (n + 1 + d + 2) a_m230 15 [some (.ref 155), some (.int (Int32.ofInt 1))] [.int (Int32.ofInt 0)] G C S K0 := by
      intro G e s2 hne
      refine w_go z_hl [] [] 30 e.1 ?_
      refine ⟨fun _ => ⟨by decide, fun H hH => ?_⟩, fun q => absurd q (by decide)⟩
      have f : y_fr G H [] [] := y_st (y_rf e.1) hH (by repeat (first | exact w_nil | refine w_cons (Or.inl (y_m rfl)) ?_ | refine w_cons (Or.inr (by assumption)) ?_)) (by repeat (first | exact w_nil | refine w_cons (Or.inl (y_m rfl)) ?_ | refine w_cons (Or.inr (by assumption)) ?_))
      refine yes H p (y_sq e f rfl rfl) (y_ps_fr s2 f rfl rfl) (Nat.le_refl p) ?_
      rw [show y_ef 3 (p - p) = 0 + 1 by simp only [y_ef]; omega]
      exact Or.inl ⟨hne, rfl⟩
    refine w_go z_hl [] [226] 30 hr ?_
    refine ⟨fun q => absurd q (by decide), fun _ => fun H hH => ?_⟩
    have f : y_fr h H [] [] := y_st (y_rf hr) hH (by repeat (first | exact w_nil | refine w_cons (Or.inl (y_m rfl)) ?_ | refine w_cons (Or.inr (by assumption)) ?_)) (by repeat (first | exact w_nil | refine w_cons (Or.inl (y_m rfl)) ?_ | refine w_cons (Or.inr (by assumption)) ?_))
    refine y_comes (y_ps_fr s f rfl rfl) (fun H2 e2 s3 hp hc => by omega) (fun H2 e2 s3 hne => ⟨fun n e => (by cases e), ?_⟩)
    exact T15n (y_sq (y_mo f rfl rfl) e2 rfl rfl) s3 hne
  | succ m ihm =>
    intro h p s hm hn yes no
    obtain ⟨hr, pt, t40, o0, o5⟩ := y_ps_hr s
    have T15n : ∀ {G : aH}, y_fr h G [19613, 19615] [] → y_ps G tp t p o → ¬ (y_N tp p = 38 ∧ p < t) → aOK s_P X (n + 1 + d + 2) a_m230 15 [some (.ref 155), some (.int (Int32.ofInt 1))] [.int (Int32.ofInt 0)] G C S K0 := by
      intro G e s2 hne
      refine w_go z_hl [] [] 30 e.1 ?_
      refine ⟨fun _ => ⟨by decide, fun H hH => ?_⟩, fun q => absurd q (by decide)⟩
      have f : y_fr G H [] [] := y_st (y_rf e.1) hH (by repeat (first | exact w_nil | refine w_cons (Or.inl (y_m rfl)) ?_ | refine w_cons (Or.inr (by assumption)) ?_)) (by repeat (first | exact w_nil | refine w_cons (Or.inl (y_m rfl)) ?_ | refine w_cons (Or.inr (by assumption)) ?_))
      refine yes H p (y_sq e f rfl rfl) (y_ps_fr s2 f rfl rfl) (Nat.le_refl p) ?_
      rw [show y_ef 3 (p - p) = 0 + 1 by simp only [y_ef]; omega]
      exact Or.inl ⟨hne, rfl⟩
    have T22y : ∀ {G : aH} {r : Nat}, y_fr h G [19613, 19615] [] → y_ps G tp t r o → p < r → p < t → y_N tp p = 38 → y_E (y_N tp) t (y_ef 0 (r - (p + 1))) 0 (p + 1) r → aOK s_P X (n + 1 + d + 2) a_m230 22 [some (.ref 155), some (.int (Int32.ofInt 1))] [.int (Int32.ofInt 1)] G C S K0 := by
      intro G r e s2 hpr hpt h38 hE
      refine w_go z_hl [5] [] 30 e.1 ?_
      intro H hH
      have f : y_fr G H [] [] := y_st (y_rf e.1) hH (by repeat (first | exact w_nil | refine w_cons (Or.inl (y_m rfl)) ?_ | refine w_cons (Or.inr (by assumption)) ?_)) (by repeat (first | exact w_nil | refine w_cons (Or.inl (y_m rfl)) ?_ | refine w_cons (Or.inr (by assumption)) ?_))
      have e2 := y_sq e f rfl rfl
      have lt := (y_E_lt (T := y_N tp) (st := t) _).1 0 (by decide) hE
      refine ihm H r (y_ps_fr s2 f rfl rfl) (by omega) (by omega) (fun H2 q f2 s3 hrq hE2 => ?_) (fun H2 q o' f2 s3 => no H2 q o' (y_sq e2 f2 rfl rfl) s3)
      refine yes H2 q (y_sq e2 f2 rfl rfl) s3 (by omega) ?_
      obtain ⟨u, hu⟩ : ∃ u, y_ef 3 (q - p) = u + 1 := ⟨y_ef 3 (q - p) - 1, by simp only [y_ef]; omega⟩
      rw [hu]
      refine Or.inr ⟨h38, hpt, r, y_E_m (by decide) ?_ hE, y_E_m (by decide) ?_ hE2⟩
      · (simp only [y_ef] at hu ⊢; omega)
      · (simp only [y_ef] at hu ⊢; omega)
    have T22n : ∀ {G : aH} {q : Nat} {o' : Int}, y_fr h G [19613, 19615] [] → y_ps G tp t q o' → aOK s_P X (n + 1 + d + 2) a_m230 22 [some (.ref 155), some (.int (Int32.ofInt 1))] [.int (Int32.ofInt 0)] G C S K0 := by
      intro G q o' e s2
      refine w_go z_hl [] [] 30 e.1 ?_
      refine ⟨fun _ => ⟨by decide, fun H hH => ?_⟩, fun q => absurd q (by decide)⟩
      have f : y_fr G H [] [] := y_st (y_rf e.1) hH (by repeat (first | exact w_nil | refine w_cons (Or.inl (y_m rfl)) ?_ | refine w_cons (Or.inr (by assumption)) ?_)) (by repeat (first | exact w_nil | refine w_cons (Or.inl (y_m rfl)) ?_ | refine w_cons (Or.inr (by assumption)) ?_))
      exact no H q o' (y_sq e f rfl rfl) (y_ps_fr s2 f rfl rfl)
    have T15y : ∀ {G : aH}, y_fr h G [19613, 19615] [] → y_ps G tp t (p + 1) o → p < t → y_N tp p = 38 → aOK s_P X (n + 1 + d + 2) a_m230 15 [some (.ref 155), some (.int (Int32.ofInt 1))] [.int (Int32.ofInt 1)] G C S K0 := by
      intro G e s2 hp h38
      refine w_go z_hl [] [231] 30 e.1 ?_
      refine ⟨fun q => absurd q (by decide), fun _ => fun H hH => ?_⟩
      have f : y_fr G H [] [] := y_st (y_rf e.1) hH (by repeat (first | exact w_nil | refine w_cons (Or.inl (y_m rfl)) ?_ | refine w_cons (Or.inr (by assumption)) ?_)) (by repeat (first | exact w_nil | refine w_cons (Or.inl (y_m rfl)) ?_ | refine w_cons (Or.inr (by assumption)) ?_))
      have e2 := y_sq e f rfl rfl
      refine aOK_deep (d := n + d + 2) (by omega) (ih 0 H _ tp t (p + 1) o (by decide) (y_ps_fr s2 f rfl rfl) (by omega) (fun H2 q f2 s4 hpq hE => ⟨fun n e => (by cases e), ?_⟩) (fun H2 q o' f2 s4 => ⟨fun n e => (by cases e), ?_⟩))
      · exact T22y (y_sq e2 f2 rfl rfl) s4 (by omega) hp h38 hE
      · exact T22n (y_sq e2 f2 rfl rfl) s4
    refine w_go z_hl [] [226] 30 hr ?_
    refine ⟨fun q => absurd q (by decide), fun _ => fun H hH => ?_⟩
    have f : y_fr h H [] [] := y_st (y_rf hr) hH (by repeat (first | exact w_nil | refine w_cons (Or.inl (y_m rfl)) ?_ | refine w_cons (Or.inr (by assumption)) ?_)) (by repeat (first | exact w_nil | refine w_cons (Or.inl (y_m rfl)) ?_ | refine w_cons (Or.inr (by assumption)) ?_))
    refine y_comes (y_ps_fr s f rfl rfl) (fun H2 e2 s3 hp hc => ⟨fun n e => (by cases e), ?_⟩) (fun H2 e2 s3 hne => ⟨fun n e => (by cases e), ?_⟩)
    · exact T15y (y_sq (y_mo f rfl rfl) e2 rfl rfl) s3 hp hc
    · exact T15n (y_sq (y_mo f rfl rfl) e2 rfl rfl) s3 hne
theorem y_or_loop (ih : y_RD X C S d n) : ∀ (m : Nat) (h : aH) (p : Nat), y_ps h tp t p o → t - p ≤ m → 4 * (t - p) ≤ n →
    (∀ (H : aH) (q : Nat), y_fr h H [19613, 19615] [] → y_ps H tp t q o → p ≤ q → y_E (y_N tp) t (y_ef 4 (q - p)) 4 p q → K0 (some (.int (Int32.ofInt 1))) H C S) →
    (∀ (H : aH) (q : Nat) (o' : Int), y_fr h H [19613, 19615] [] → y_ps H tp t q o' → K0 (some (.int (Int32.ofInt 0))) H C S) →
    aOK s_P X (n + 1 + d + 2) a_m229 5 [some (.ref 155), some (.int (Int32.ofInt 1))] [] h C S K0 := by
  intro m
  induction m with
  | zero =>
    intro h p s hm hn yes no
    obtain ⟨hr, pt, t40, o0, o5⟩ := y_ps_hr s
    have T15n : ∀ {G : aH}, y_fr h G [19613, 19615] [] → y_ps G tp t p o → ¬ (y_N tp p = 124 ∧ p < t) → aOK s_P X (n + 1 + d + 2) a_m229 15 [some (.ref 155), some (.int (Int32.ofInt 1))] [.int (Int32.ofInt 0)] G C S K0 := by
      intro G e s2 hne
      refine w_go z_hl [] [] 30 e.1 ?_
      refine ⟨fun _ => ⟨by decide, fun H hH => ?_⟩, fun q => absurd q (by decide)⟩
      have f : y_fr G H [] [] := y_st (y_rf e.1) hH (by repeat (first | exact w_nil | refine w_cons (Or.inl (y_m rfl)) ?_ | refine w_cons (Or.inr (by assumption)) ?_)) (by repeat (first | exact w_nil | refine w_cons (Or.inl (y_m rfl)) ?_ | refine w_cons (Or.inr (by assumption)) ?_))
      refine yes H p (y_sq e f rfl rfl) (y_ps_fr s2 f rfl rfl) (Nat.le_refl p) ?_
      rw [show y_ef 4 (p - p) = 0 + 1 by simp only [y_ef]; omega]
      exact Or.inl ⟨hne, rfl⟩
    refine w_go z_hl [] [226] 30 hr ?_
    refine ⟨fun q => absurd q (by decide), fun _ => fun H hH => ?_⟩
    have f : y_fr h H [] [] := y_st (y_rf hr) hH (by repeat (first | exact w_nil | refine w_cons (Or.inl (y_m rfl)) ?_ | refine w_cons (Or.inr (by assumption)) ?_)) (by repeat (first | exact w_nil | refine w_cons (Or.inl (y_m rfl)) ?_ | refine w_cons (Or.inr (by assumption)) ?_))
    refine y_comes (y_ps_fr s f rfl rfl) (fun H2 e2 s3 hp hc => by omega) (fun H2 e2 s3 hne => ⟨fun n e => (by cases e), ?_⟩)
    exact T15n (y_sq (y_mo f rfl rfl) e2 rfl rfl) s3 hne
  | succ m ihm =>
    intro h p s hm hn yes no
    obtain ⟨hr, pt, t40, o0, o5⟩ := y_ps_hr s
    have T15n : ∀ {G : aH}, y_fr h G [19613, 19615] [] → y_ps G tp t p o → ¬ (y_N tp p = 124 ∧ p < t) → aOK s_P X (n + 1 + d + 2) a_m229 15 [some (.ref 155), some (.int (Int32.ofInt 1))] [.int (Int32.ofInt 0)] G C S K0 := by
      intro G e s2 hne
      refine w_go z_hl [] [] 30 e.1 ?_
      refine ⟨fun _ => ⟨by decide, fun H hH => ?_⟩, fun q => absurd q (by decide)⟩
      have f : y_fr G H [] [] := y_st (y_rf e.1) hH (by repeat (first | exact w_nil | refine w_cons (Or.inl (y_m rfl)) ?_ | refine w_cons (Or.inr (by assumption)) ?_)) (by repeat (first | exact w_nil | refine w_cons (Or.inl (y_m rfl)) ?_ | refine w_cons (Or.inr (by assumption)) ?_))
      refine yes H p (y_sq e f rfl rfl) (y_ps_fr s2 f rfl rfl) (Nat.le_refl p) ?_
      rw [show y_ef 4 (p - p) = 0 + 1 by simp only [y_ef]; omega]
      exact Or.inl ⟨hne, rfl⟩
    have T22y : ∀ {G : aH} {r : Nat}, y_fr h G [19613, 19615] [] → y_ps G tp t r o → p < r → p < t → y_N tp p = 124 → y_E (y_N tp) t (y_ef 1 (r - (p + 1))) 1 (p + 1) r → aOK s_P X (n + 1 + d + 2) a_m229 22 [some (.ref 155), some (.int (Int32.ofInt 1))] [.int (Int32.ofInt 1)] G C S K0 := by
      intro G r e s2 hpr hpt h124 hE
      refine w_go z_hl [5] [] 30 e.1 ?_
      intro H hH
      have f : y_fr G H [] [] := y_st (y_rf e.1) hH (by repeat (first | exact w_nil | refine w_cons (Or.inl (y_m rfl)) ?_ | refine w_cons (Or.inr (by assumption)) ?_)) (by repeat (first | exact w_nil | refine w_cons (Or.inl (y_m rfl)) ?_ | refine w_cons (Or.inr (by assumption)) ?_))
      have e2 := y_sq e f rfl rfl
      have lt := (y_E_lt (T := y_N tp) (st := t) _).1 1 (by decide) hE
      refine ihm H r (y_ps_fr s2 f rfl rfl) (by omega) (by omega) (fun H2 q f2 s3 hrq hE2 => ?_) (fun H2 q o' f2 s3 => no H2 q o' (y_sq e2 f2 rfl rfl) s3)
      refine yes H2 q (y_sq e2 f2 rfl rfl) s3 (by omega) ?_
      obtain ⟨u, hu⟩ : ∃ u, y_ef 4 (q - p) = u + 1 := ⟨y_ef 4 (q - p) - 1, by simp only [y_ef]; omega⟩
      rw [hu]
      refine Or.inr ⟨h124, hpt, r, y_E_m (by decide) ?_ hE, y_E_m (by decide) ?_ hE2⟩
      · (simp only [y_ef] at hu ⊢; omega)
      · (simp only [y_ef] at hu ⊢; omega)
    have T22n : ∀ {G : aH} {q : Nat} {o' : Int}, y_fr h G [19613, 19615] [] → y_ps G tp t q o' → aOK s_P X (n + 1 + d + 2) a_m229 22 [some (.ref 155), some (.int (Int32.ofInt 1))] [.int (Int32.ofInt 0)] G C S K0 := by
      intro G q o' e s2
      refine w_go z_hl [] [] 30 e.1 ?_
      refine ⟨fun _ => ⟨by decide, fun H hH => ?_⟩, fun q => absurd q (by decide)⟩
      have f : y_fr G H [] [] := y_st (y_rf e.1) hH (by repeat (first | exact w_nil | refine w_cons (Or.inl (y_m rfl)) ?_ | refine w_cons (Or.inr (by assumption)) ?_)) (by repeat (first | exact w_nil | refine w_cons (Or.inl (y_m rfl)) ?_ | refine w_cons (Or.inr (by assumption)) ?_))
      exact no H q o' (y_sq e f rfl rfl) (y_ps_fr s2 f rfl rfl)
    have T15y : ∀ {G : aH}, y_fr h G [19613, 19615] [] → y_ps G tp t (p + 1) o → p < t → y_N tp p = 124 → aOK s_P X (n + 1 + d + 2) a_m229 15 [some (.ref 155), some (.int (Int32.ofInt 1))] [.int (Int32.ofInt 1)] G C S K0 := by
      intro G e s2 hp h124
      refine w_go z_hl [] [230] 30 e.1 ?_
      refine ⟨fun q => absurd q (by decide), fun _ => fun H hH => ?_⟩
      have f : y_fr G H [] [] := y_st (y_rf e.1) hH (by repeat (first | exact w_nil | refine w_cons (Or.inl (y_m rfl)) ?_ | refine w_cons (Or.inr (by assumption)) ?_)) (by repeat (first | exact w_nil | refine w_cons (Or.inl (y_m rfl)) ?_ | refine w_cons (Or.inr (by assumption)) ?_))
      have e2 := y_sq e f rfl rfl
      refine aOK_deep (d := n + d + 2) (by omega) (ih 1 H _ tp t (p + 1) o (by decide) (y_ps_fr s2 f rfl rfl) (by omega) (fun H2 q f2 s4 hpq hE => ⟨fun n e => (by cases e), ?_⟩) (fun H2 q o' f2 s4 => ⟨fun n e => (by cases e), ?_⟩))
      · exact T22y (y_sq e2 f2 rfl rfl) s4 (by omega) hp h124 hE
      · exact T22n (y_sq e2 f2 rfl rfl) s4
    refine w_go z_hl [] [226] 30 hr ?_
    refine ⟨fun q => absurd q (by decide), fun _ => fun H hH => ?_⟩
    have f : y_fr h H [] [] := y_st (y_rf hr) hH (by repeat (first | exact w_nil | refine w_cons (Or.inl (y_m rfl)) ?_ | refine w_cons (Or.inr (by assumption)) ?_)) (by repeat (first | exact w_nil | refine w_cons (Or.inl (y_m rfl)) ?_ | refine w_cons (Or.inr (by assumption)) ?_))
    refine y_comes (y_ps_fr s f rfl rfl) (fun H2 e2 s3 hp hc => ⟨fun n e => (by cases e), ?_⟩) (fun H2 e2 s3 hne => ⟨fun n e => (by cases e), ?_⟩)
    · exact T15y (y_sq (y_mo f rfl rfl) e2 rfl rfl) s3 hp hc
    · exact T15n (y_sq (y_mo f rfl rfl) e2 rfl rfl) s3 hne
theorem y_rd_every (ih : y_RD X C S d n) (s : y_ps h tp t p o) (hn : 4 * (t - p) + 2 ≤ n + 1) (yes : ∀ (H : aH) (q : Nat), y_fr h H [19613, 19615] [] → y_ps H tp t q o → p < q → y_E (y_N tp) t (y_ef 1 (q - p)) 1 p q → K0 (some (.int (Int32.ofInt 1))) H C S) (no : ∀ (H : aH) (q : Nat) (o' : Int), y_fr h H [19613, 19615] [] → y_ps H tp t q o' → K0 (some (.int (Int32.ofInt 0))) H C S) : aOK s_P X (n + 1 + d + 2) a_m230 0 [some (.ref 155), none] [] h C S K0 := by
  obtain ⟨hr, pt, t40, o0, o5⟩ := y_ps_hr s
  have T4y : ∀ {G : aH} {r : Nat}, y_fr h G [19613, 19615] [] → y_ps G tp t r o → p < r → y_E (y_N tp) t (y_ef 0 (r - p)) 0 p r → aOK s_P X (n + 1 + d + 2) a_m230 4 [some (.ref 155), none] [.int (Int32.ofInt 1)] G C S K0 := by
    intro G r e s2 hpr hE
    refine w_go z_hl [5] [] 30 e.1 ?_
    intro H hH
    have f : y_fr G H [] [] := y_st (y_rf e.1) hH (by repeat (first | exact w_nil | refine w_cons (Or.inl (y_m rfl)) ?_ | refine w_cons (Or.inr (by assumption)) ?_)) (by repeat (first | exact w_nil | refine w_cons (Or.inl (y_m rfl)) ?_ | refine w_cons (Or.inr (by assumption)) ?_))
    have e2 := y_sq e f rfl rfl
    refine y_ev_loop ih 40 H r (y_ps_fr s2 f rfl rfl) (by omega) (by omega) (fun H2 q f2 s3 hrq hE2 => ?_) (fun H2 q o' f2 s3 => no H2 q o' (y_sq e2 f2 rfl rfl) s3)
    refine yes H2 q (y_sq e2 f2 rfl rfl) s3 (by omega) ?_
    obtain ⟨u, hu⟩ : ∃ u, y_ef 1 (q - p) = u + 1 := ⟨y_ef 1 (q - p) - 1, by simp only [y_ef]; omega⟩
    rw [hu]
    refine ⟨r, y_E_m (by decide) ?_ hE, y_E_m (by decide) ?_ hE2⟩
    · (simp only [y_ef] at hu ⊢; omega)
    · (simp only [y_ef] at hu ⊢; omega)
  have T4n : ∀ {G : aH} {q : Nat} {o' : Int}, y_fr h G [19613, 19615] [] → y_ps G tp t q o' → aOK s_P X (n + 1 + d + 2) a_m230 4 [some (.ref 155), none] [.int (Int32.ofInt 0)] G C S K0 := by
    intro G q o' e s2
    refine w_go z_hl [] [] 30 e.1 ?_
    refine ⟨fun _ => ⟨by decide, fun H hH => ?_⟩, fun q => absurd q (by decide)⟩
    have f : y_fr G H [] [] := y_st (y_rf e.1) hH (by repeat (first | exact w_nil | refine w_cons (Or.inl (y_m rfl)) ?_ | refine w_cons (Or.inr (by assumption)) ?_)) (by repeat (first | exact w_nil | refine w_cons (Or.inl (y_m rfl)) ?_ | refine w_cons (Or.inr (by assumption)) ?_))
    exact no H q o' (y_sq e f rfl rfl) (y_ps_fr s2 f rfl rfl)
  refine w_go z_hl [] [231] 30 hr ?_
  intro H hH
  have f : y_fr h H [] [] := y_st (y_rf hr) hH (by repeat (first | exact w_nil | refine w_cons (Or.inl (y_m rfl)) ?_ | refine w_cons (Or.inr (by assumption)) ?_)) (by repeat (first | exact w_nil | refine w_cons (Or.inl (y_m rfl)) ?_ | refine w_cons (Or.inr (by assumption)) ?_))
  refine aOK_deep (d := n + d + 2) (by omega) (ih 0 H _ tp t p o (by decide) (y_ps_fr s f rfl rfl) (by omega) (fun H2 q f2 s4 hpq hE => ⟨fun n e => (by cases e), ?_⟩) (fun H2 q o' f2 s4 => ⟨fun n e => (by cases e), ?_⟩))
  · exact T4y (y_sq (y_mo f rfl rfl) f2 rfl rfl) s4 hpq hE
  · exact T4n (y_sq (y_mo f rfl rfl) f2 rfl rfl) s4
theorem y_rd_event (ih : y_RD X C S d n) (s : y_ps h tp t p o) (hn : 4 * (t - p) + 3 ≤ n + 1) (yes : ∀ (H : aH) (q : Nat), y_fr h H [19613, 19615] [] → y_ps H tp t q o → p < q → y_E (y_N tp) t (y_ef 2 (q - p)) 2 p q → K0 (some (.int (Int32.ofInt 1))) H C S) (no : ∀ (H : aH) (q : Nat) (o' : Int), y_fr h H [19613, 19615] [] → y_ps H tp t q o' → K0 (some (.int (Int32.ofInt 0))) H C S) : aOK s_P X (n + 1 + d + 2) a_m229 0 [some (.ref 155), none] [] h C S K0 := by
  obtain ⟨hr, pt, t40, o0, o5⟩ := y_ps_hr s
  have T4y : ∀ {G : aH} {r : Nat}, y_fr h G [19613, 19615] [] → y_ps G tp t r o → p < r → y_E (y_N tp) t (y_ef 1 (r - p)) 1 p r → aOK s_P X (n + 1 + d + 2) a_m229 4 [some (.ref 155), none] [.int (Int32.ofInt 1)] G C S K0 := by
    intro G r e s2 hpr hE
    refine w_go z_hl [5] [] 30 e.1 ?_
    intro H hH
    have f : y_fr G H [] [] := y_st (y_rf e.1) hH (by repeat (first | exact w_nil | refine w_cons (Or.inl (y_m rfl)) ?_ | refine w_cons (Or.inr (by assumption)) ?_)) (by repeat (first | exact w_nil | refine w_cons (Or.inl (y_m rfl)) ?_ | refine w_cons (Or.inr (by assumption)) ?_))
    have e2 := y_sq e f rfl rfl
    refine y_or_loop ih 40 H r (y_ps_fr s2 f rfl rfl) (by omega) (by omega) (fun H2 q f2 s3 hrq hE2 => ?_) (fun H2 q o' f2 s3 => no H2 q o' (y_sq e2 f2 rfl rfl) s3)
    refine yes H2 q (y_sq e2 f2 rfl rfl) s3 (by omega) ?_
    obtain ⟨u, hu⟩ : ∃ u, y_ef 2 (q - p) = u + 1 := ⟨y_ef 2 (q - p) - 1, by simp only [y_ef]; omega⟩
    rw [hu]
    refine ⟨r, y_E_m (by decide) ?_ hE, y_E_m (by decide) ?_ hE2⟩
    · (simp only [y_ef] at hu ⊢; omega)
    · (simp only [y_ef] at hu ⊢; omega)
  have T4n : ∀ {G : aH} {q : Nat} {o' : Int}, y_fr h G [19613, 19615] [] → y_ps G tp t q o' → aOK s_P X (n + 1 + d + 2) a_m229 4 [some (.ref 155), none] [.int (Int32.ofInt 0)] G C S K0 := by
    intro G q o' e s2
    refine w_go z_hl [] [] 30 e.1 ?_
    refine ⟨fun _ => ⟨by decide, fun H hH => ?_⟩, fun q => absurd q (by decide)⟩
    have f : y_fr G H [] [] := y_st (y_rf e.1) hH (by repeat (first | exact w_nil | refine w_cons (Or.inl (y_m rfl)) ?_ | refine w_cons (Or.inr (by assumption)) ?_)) (by repeat (first | exact w_nil | refine w_cons (Or.inl (y_m rfl)) ?_ | refine w_cons (Or.inr (by assumption)) ?_))
    exact no H q o' (y_sq e f rfl rfl) (y_ps_fr s2 f rfl rfl)
  refine w_go z_hl [] [230] 30 hr ?_
  intro H hH
  have f : y_fr h H [] [] := y_st (y_rf hr) hH (by repeat (first | exact w_nil | refine w_cons (Or.inl (y_m rfl)) ?_ | refine w_cons (Or.inr (by assumption)) ?_)) (by repeat (first | exact w_nil | refine w_cons (Or.inl (y_m rfl)) ?_ | refine w_cons (Or.inr (by assumption)) ?_))
  refine aOK_deep (d := n + d + 2) (by omega) (ih 1 H _ tp t p o (by decide) (y_ps_fr s f rfl rfl) (by omega) (fun H2 q f2 s4 hpq hE => ⟨fun n e => (by cases e), ?_⟩) (fun H2 q o' f2 s4 => ⟨fun n e => (by cases e), ?_⟩))
  · exact T4y (y_sq (y_mo f rfl rfl) f2 rfl rfl) s4 hpq hE
  · exact T4n (y_sq (y_mo f rfl rfl) f2 rfl rfl) s4
theorem y_rd : ∀ (n : Nat), y_RD X C S d n
  | 0 => fun k h K0 tp t p o _ _ hn => absurd hn (by omega)
  | n + 1 => fun k h K0 tp t p o hk s hn yes no => by
    have ih := y_rd n
    match k, hk, hn, yes with
    | 0, _, hn, yes => exact y_rd_thing ih s hn yes no
    | 1, _, hn, yes => exact y_rd_every ih s hn yes no
    | 2, _, hn, yes => exact y_rd_event ih s hn yes no
end WG
