section PT29a
/-! ===== v3: how sayings are read ===== -/
/-- kinds: 0 a thing, 1 things joined by and, 2 those joined by or, 3 and 4 what follows -/
def y_E (T : Nat → Int) (st : Nat) : Nat → Nat → Nat → Nat → Prop
  | 0, _, _, _ => False
  | n + 1, k, p, q => match k with
    | 0 => (T p = 33 ∧ y_E T st n 0 (p + 1) q) ∨ (97 ≤ T p ∧ q = p + 1) ∨ (T p = 40 ∧ ∃ r, y_E T st n 2 (p + 1) r ∧ T r = 41 ∧ q = r + 1)
    | 1 => ∃ r, y_E T st n 0 p r ∧ y_E T st n 3 r q
    | 2 => ∃ r, y_E T st n 1 p r ∧ y_E T st n 4 r q
    | 3 => (¬ (T p = 38 ∧ p < st) ∧ q = p) ∨ (T p = 38 ∧ p < st ∧ ∃ s, y_E T st n 0 (p + 1) s ∧ y_E T st n 3 s q)
    | _ => (¬ (T p = 124 ∧ p < st) ∧ q = p) ∨ (T p = 124 ∧ p < st ∧ ∃ s, y_E T st n 1 (p + 1) s ∧ y_E T st n 4 s q)
section YE
variable {T T' : Nat → Int} {st st' : Nat}
theorem y_E_lt : ∀ (n : Nat) {p q : Nat}, (∀ k, k < 3 → y_E T st n k p q → p < q) ∧ (y_E T st n 3 p q → p ≤ q) ∧ (y_E T st n 4 p q → p ≤ q) := by
  intro n
  induction n with
  | zero => exact fun {p q} => ⟨fun k _ h => h.elim, fun h => h.elim, fun h => h.elim⟩
  | succ n ih =>
    intro p q
    refine ⟨fun k hk h => ?_, fun h => ?_, fun h => ?_⟩
    · match k, hk, h with
      | 0, _, h =>
        rcases h with ⟨-, h⟩ | ⟨-, h⟩ | ⟨-, r, h1, -, h2⟩
        · have := ih.1 0 (by decide) h
          omega
        · omega
        · have := ih.1 2 (by decide) h1
          omega
      | 1, _, h =>
        obtain ⟨r, h1, h2⟩ := h
        have a := ih.1 0 (by decide) h1
        have b := ih.2.1 h2
        omega
      | 2, _, h =>
        obtain ⟨r, h1, h2⟩ := h
        have a := ih.1 1 (by decide) h1
        have b := ih.2.2 h2
        omega
    · rcases h with ⟨-, h⟩ | ⟨-, -, s, h1, h2⟩
      · omega
      · have a := ih.1 0 (by decide) h1
        have b := ih.2.1 h2
        omega
    · rcases h with ⟨-, h⟩ | ⟨-, -, s, h1, h2⟩
      · omega
      · have a := ih.1 1 (by decide) h1
        have b := ih.2.2 h2
        omega
/-- another text that is the same up to there, an earlier stop -/
theorem y_E_c (hT : ∀ j, j < st → T' j = T j) (hs : st' ≤ st) : ∀ (n : Nat) {k p q : Nat}, k < 5 → q ≤ st' → y_E T st n k p q → y_E T' st' n k p q := by
  intro n
  induction n with
  | zero => exact fun _ _ h => h.elim
  | succ n ih =>
    intro k p q hk hq h
    have lt := fun {p q : Nat} => y_E_lt (T := T) (st := st) n (p := p) (q := q)
    match k, hk, h with
    | 0, _, h =>
      rcases h with ⟨h0, h⟩ | ⟨h0, h⟩ | ⟨h0, r, h1, h3, h2⟩
      · have a := lt.1 0 (by decide) h
        exact Or.inl ⟨by rw [hT p (by omega)]; exact h0, ih (by decide) hq h⟩
      · exact Or.inr (Or.inl ⟨by rw [hT p (by omega)]; exact h0, h⟩)
      · have a := lt.1 2 (by decide) h1
        exact Or.inr (Or.inr ⟨by rw [hT p (by omega)]; exact h0, r, ih (by decide) (by omega) h1, by rw [hT r (by omega)]; exact h3, h2⟩)
    | 1, _, h =>
      obtain ⟨r, h1, h2⟩ := h
      have b := lt.2.1 h2
      exact ⟨r, ih (by decide) (by omega) h1, ih (by decide) hq h2⟩
    | 2, _, h =>
      obtain ⟨r, h1, h2⟩ := h
      have b := lt.2.2 h2
      exact ⟨r, ih (by decide) (by omega) h1, ih (by decide) hq h2⟩
    | 3, _, h =>
      rcases h with ⟨h0, h⟩ | ⟨h0, h3, s, h1, h2⟩
      · exact Or.inl ⟨fun q2 => h0 ⟨by rw [← hT p (by omega)]; exact q2.1, by omega⟩, h⟩
      · have a := lt.1 0 (by decide) h1
        have b := lt.2.1 h2
        exact Or.inr ⟨by rw [hT p h3]; exact h0, by omega, s, ih (by decide) (by omega) h1, ih (by decide) hq h2⟩
    | 4, _, h =>
      rcases h with ⟨h0, h⟩ | ⟨h0, h3, s, h1, h2⟩
      · exact Or.inl ⟨fun q2 => h0 ⟨by rw [← hT p (by omega)]; exact q2.1, by omega⟩, h⟩
      · have a := lt.1 1 (by decide) h1
        have b := lt.2.2 h2
        exact Or.inr ⟨by rw [hT p h3]; exact h0, by omega, s, ih (by decide) (by omega) h1, ih (by decide) hq h2⟩
end YE
/-- where the reader stands -/
def y_ps (h : aH) (tp : List Int32) (t p : Nat) (o : Int) : Prop := ∃ toI atI opI nd : Int32, w_hr z_D h ∧ w_a h 171 = some (0, .inl tp) ∧ w_f h 19614 = some (.int toI) ∧ toI.toInt = t ∧ w_f h 19613 = some (.int atI) ∧ atI.toInt = p ∧ w_f h 19615 = some (.int opI) ∧ opI.toInt = o ∧ w_f h 19591 = some (.int nd) ∧ p ≤ t ∧ t ≤ 40 ∧ 0 ≤ o ∧ o ≤ 5
theorem y_ps_fr {h H : aH} {tp : List Int32} {t p : Nat} {o : Int} {fs as : List Nat} (s : y_ps h tp t p o) (e : y_fr h H fs as) (h1 : [19614, 19613, 19615, 19591].all (fun x => !fs.elem x) = true) (h2 : as.elem 171 = false) : y_ps H tp t p o := by
  obtain ⟨toI, atI, opI, nd, hr, a1, a2, a3, a4, a5, a6, a7, a8, a9⟩ := s
  have k : ∀ x, [19614, 19613, 19615, 19591].elem x = true → fs.elem x = false := fun x hx => by
    have := List.all_eq_true.mp h1 x (List.elem_iff.mp hx)
    cases q : fs.elem x with
    | true => rw [q] at this; cases this
    | false => rfl
  exact ⟨toI, atI, opI, nd, e.1, (y_ae e h2).trans a1, (y_fe e (k _ rfl)).trans a2, a3, (y_fe e (k _ rfl)).trans a4, a5, (y_fe e (k _ rfl)).trans a6, a7, (y_fe e (k _ rfl)).trans a8, a9⟩
section WG
variable {X : aX} {C S d : Nat} {K0 : Option Value → aH → Nat → Nat → Prop} {h : aH} {tp : List Int32} {t p : Nat} {o : Int}
theorem y_isAt (s : y_ps h tp t p o) {c : Int32} (yes : ∀ H, y_fr h H [] [] → p < t → y_N tp p = c.toInt → K0 (some (.int (Int32.ofInt 1))) H C S) (no : ∀ H, y_fr h H [] [] → ¬ (y_N tp p = c.toInt ∧ p < t) → K0 (some (.int (Int32.ofInt 0))) H C S) : aOK s_P X d a_m227 0 [some (.ref 155), some (.int c)] [] h C S K0 := by
  obtain ⟨toI, atI, opI, nd, hr, a1, a2, a3, a4, a5, a6, a7, a8, pt, t40, o0, o5⟩ := s
  have ac := y_cl1 a5
  refine w_go z_hl [] [] 40 hr ?_
  intro x hx _ _
  obtain rfl := y_fi a4 hx
  intro y hy _ _
  obtain rfl := y_fi a2 hy
  refine ⟨fun q => ⟨by decide, fun H hH => no H (y_st (y_rf hr) hH (by repeat (first | exact w_nil | refine w_cons (Or.inl (y_m rfl)) ?_ | refine w_cons (Or.inr (by assumption)) ?_)) (by repeat (first | exact w_nil | refine w_cons (Or.inl (y_m rfl)) ?_ | refine w_cons (Or.inr (by assumption)) ?_))) ?_⟩, fun q => ?_⟩
  · have : toI.toInt ≤ atI.toInt := (y_ci .ge _ _).mp q
    omega
  · have q1 : ¬ (toI.toInt ≤ atI.toInt) := y_cif q
    refine ⟨⟨by omega, by omega⟩, fun l hl len bb => ?_⟩
    obtain rfl := y_ai a1 hl
    refine ⟨fun q2 => ⟨by decide, fun H hH => no H (y_st (y_rf hr) hH (by repeat (first | exact w_nil | refine w_cons (Or.inl (y_m rfl)) ?_ | refine w_cons (Or.inr (by assumption)) ?_)) (by repeat (first | exact w_nil | refine w_cons (Or.inl (y_m rfl)) ?_ | refine w_cons (Or.inr (by assumption)) ?_))) ?_⟩, fun q2 => ⟨by decide, fun H hH => yes H (y_st (y_rf hr) hH (by repeat (first | exact w_nil | refine w_cons (Or.inl (y_m rfl)) ?_ | refine w_cons (Or.inr (by assumption)) ?_)) (by repeat (first | exact w_nil | refine w_cons (Or.inl (y_m rfl)) ?_ | refine w_cons (Or.inr (by assumption)) ?_))) (by omega) ?_⟩⟩
    · have q3 : (tp.getD atI.toNatClampNeg 0).toInt ≠ c.toInt := (y_ci .ne _ _).mp q2
      rw [ac] at q3
      exact fun q4 => q3 q4.1
    · have q3 : ¬ ((tp.getD atI.toNatClampNeg 0).toInt ≠ c.toInt) := y_cif q2
      rw [ac] at q3
      exact Decidable.not_not.mp q3
theorem y_comes (s : y_ps h tp t p o) {c : Int32} (yes : ∀ H, y_fr h H [19613] [] → y_ps H tp t (p + 1) o → p < t → y_N tp p = c.toInt → K0 (some (.int (Int32.ofInt 1))) H C S) (no : ∀ H, y_fr h H [19613] [] → y_ps H tp t p o → ¬ (y_N tp p = c.toInt ∧ p < t) → K0 (some (.int (Int32.ofInt 0))) H C S) : aOK s_P X (d + 1) a_m226 0 [some (.ref 155), some (.int c), none] [] h C S K0 := by
  have T5y : ∀ {G : aH}, y_fr h G [] [] → p < t → y_N tp p = c.toInt → aOK s_P X (d + 1) a_m226 5 [some (.ref 155), some (.int c), none] [.int (Int32.ofInt 1)] G C S K0 := by
    intro G e hp hc
    obtain ⟨toI, atI, opI, nd, hr, a1, a2, a3, a4, a5, a6, a7, a8, pt, t40, o0, o5⟩ := y_ps_fr s e rfl rfl
    have inc : (atI + Int32.ofInt 1).toInt = ((p + 1 : Nat) : Int) := by rw [y_inc (by omega), a5]; rfl
    refine w_go z_hl [] [] 40 e.1 ?_
    intro x hx _ _
    obtain rfl := y_fi a4 hx
    refine ⟨fun q => absurd q (by decide), fun _ => ⟨rfl, y_zini (by show 0 ≤ (atI + Int32.ofInt 1).toInt; omega) (by show (atI + Int32.ofInt 1).toInt ≤ 40; omega), by decide, fun H hH => ?_⟩⟩
    have f : y_fr G H [19613] [] := y_st (y_mo (y_rf e.1) rfl rfl) hH (by repeat (first | exact w_nil | refine w_cons (Or.inl (y_m rfl)) ?_ | refine w_cons (Or.inr (by assumption)) ?_)) (by repeat (first | exact w_nil | refine w_cons (Or.inl (y_m rfl)) ?_ | refine w_cons (Or.inr (by assumption)) ?_))
    exact yes H (y_sq (y_mo e rfl rfl) f rfl rfl) ⟨toI, _, opI, nd, f.1, (y_ae f rfl).trans a1, (y_fe f rfl).trans a2, a3, hH.2.1 19613 _ rfl, inc, (y_fe f rfl).trans a6, a7, (y_fe f rfl).trans a8, by omega, t40, o0, o5⟩ hp hc
  have T5n : ∀ {G : aH}, y_fr h G [] [] → ¬ (y_N tp p = c.toInt ∧ p < t) → aOK s_P X (d + 1) a_m226 5 [some (.ref 155), some (.int c), none] [.int (Int32.ofInt 0)] G C S K0 := by
    intro G e hn
    obtain ⟨toI, atI, opI, nd, hr, a1, a2, a3, a4, a5, a6, a7, a8, pt, t40, o0, o5⟩ := y_ps_fr s e rfl rfl
    have inc : (atI + Int32.ofInt 0).toInt = (p : Int) := by rw [show Int32.ofInt 0 = (0 : Int32) by decide, Int32.add_zero]; exact a5
    refine w_go z_hl [] [] 40 e.1 ?_
    intro x hx _ _
    obtain rfl := y_fi a4 hx
    refine ⟨fun _ => ⟨rfl, y_zini (by show 0 ≤ (atI + Int32.ofInt 0).toInt; omega) (by show (atI + Int32.ofInt 0).toInt ≤ 40; omega), by decide, fun H hH => ?_⟩, fun q => absurd q (by decide)⟩
    have f : y_fr G H [19613] [] := y_st (y_mo (y_rf e.1) rfl rfl) hH (by repeat (first | exact w_nil | refine w_cons (Or.inl (y_m rfl)) ?_ | refine w_cons (Or.inr (by assumption)) ?_)) (by repeat (first | exact w_nil | refine w_cons (Or.inl (y_m rfl)) ?_ | refine w_cons (Or.inr (by assumption)) ?_))
    exact no H (y_sq (y_mo e rfl rfl) f rfl rfl) ⟨toI, _, opI, nd, f.1, (y_ae f rfl).trans a1, (y_fe f rfl).trans a2, a3, hH.2.1 19613 _ rfl, inc, (y_fe f rfl).trans a6, a7, (y_fe f rfl).trans a8, pt, t40, o0, o5⟩ hn
  have hr : w_hr z_D h := by
    obtain ⟨toI, atI, opI, nd, hr, -⟩ := s
    exact hr
  refine w_go z_hl [] [227] 40 hr ?_
  intro H hH
  have e : y_fr h H [] [] := y_st (y_rf hr) hH (by repeat (first | exact w_nil | refine w_cons (Or.inl (y_m rfl)) ?_ | refine w_cons (Or.inr (by assumption)) ?_)) (by repeat (first | exact w_nil | refine w_cons (Or.inl (y_m rfl)) ?_ | refine w_cons (Or.inr (by assumption)) ?_))
  refine y_isAt (y_ps_fr s e rfl rfl) (fun H2 e2 hp hc => ⟨fun n e => (by cases e), ?_⟩) (fun H2 e2 hn => ⟨fun n e => (by cases e), ?_⟩)
  · exact T5y (y_sq e e2 rfl rfl) hp hc
  · exact T5n (y_sq e e2 rfl rfl) hn
theorem y_isLetter (s : y_ps h tp t p o) (yes : ∀ H, y_fr h H [] [] → p < t → 97 ≤ y_N tp p → K0 (some (.int (Int32.ofInt 1))) H C S) (no : ∀ H, y_fr h H [] [] → K0 (some (.int (Int32.ofInt 0))) H C S) : aOK s_P X (d + 1) a_m232 0 [some (.ref 155)] [] h C S K0 := by
  obtain ⟨toI, atI, opI, nd, hr, a1, a2, a3, a4, a5, a6, a7, a8, pt, t40, o0, o5⟩ := s
  have ac := y_cl1 a5
  have T37y : ∀ {G : aH}, y_fr h G [] [] → p < t → 97 ≤ y_N tp p → aOK s_P X (d + 1) a_m232 37 [some (.ref 155)] [.int (y_01 true)] G C S K0 := by
    intro G e hp hc
    refine w_go z_hl [] [] 40 e.1 ?_
    exact ⟨fun q => absurd q (by decide), fun _ => ⟨by decide, fun H hH => yes H (y_st e hH (by repeat (first | exact w_nil | refine w_cons (Or.inl (y_m rfl)) ?_ | refine w_cons (Or.inr (by assumption)) ?_)) (by repeat (first | exact w_nil | refine w_cons (Or.inl (y_m rfl)) ?_ | refine w_cons (Or.inr (by assumption)) ?_))) hp hc⟩⟩
  have T37n : ∀ {G : aH}, y_fr h G [] [] → aOK s_P X (d + 1) a_m232 37 [some (.ref 155)] [.int (y_01 false)] G C S K0 := by
    intro G e
    refine w_go z_hl [] [] 40 e.1 ?_
    exact ⟨fun _ => ⟨by decide, fun H hH => no H (y_st e hH (by repeat (first | exact w_nil | refine w_cons (Or.inl (y_m rfl)) ?_ | refine w_cons (Or.inr (by assumption)) ?_)) (by repeat (first | exact w_nil | refine w_cons (Or.inl (y_m rfl)) ?_ | refine w_cons (Or.inr (by assumption)) ?_)))⟩, fun q => absurd q (by decide)⟩
  refine w_go z_hl [] [176] 40 hr ?_
  intro x hx _ _
  obtain rfl := y_fi a4 hx
  intro y hy _ _
  obtain rfl := y_fi a2 hy
  refine ⟨fun q => ⟨by decide, fun H hH => no H (y_st (y_rf hr) hH (by repeat (first | exact w_nil | refine w_cons (Or.inl (y_m rfl)) ?_ | refine w_cons (Or.inr (by assumption)) ?_)) (by repeat (first | exact w_nil | refine w_cons (Or.inl (y_m rfl)) ?_ | refine w_cons (Or.inr (by assumption)) ?_)))⟩, fun q => ?_⟩
  have q1 : ¬ (toI.toInt ≤ atI.toInt) := y_cif q
  refine ⟨⟨by omega, by omega⟩, fun l hl len bb => ?_⟩
  obtain rfl := y_ai a1 hl
  intro z hz _ _
  intro H hH
  have e : y_fr h H [] [] := y_st (y_rf hr) hH (by repeat (first | exact w_nil | refine w_cons (Or.inl (y_m rfl)) ?_ | refine w_cons (Or.inr (by assumption)) ?_)) (by repeat (first | exact w_nil | refine w_cons (Or.inl (y_m rfl)) ?_ | refine w_cons (Or.inr (by assumption)) ?_))
  refine q_in (v := (tp.getD atI.toNatClampNeg 0).toInt64) (lo := Int64.ofInt 97) e.1 (fun H2 e2 l1 l2 => ⟨fun n e => (by cases e), ?_⟩) (fun H2 e2 _ => ⟨fun n e => (by cases e), ?_⟩)
  · rw [y_i2l, ac, y_i64 (by decide) (by decide)] at l1
    exact T37y (y_sq e e2 rfl rfl) (by omega) l1
  · exact T37n (y_sq e e2 rfl rfl)
theorem y_isDigit (s : y_ps h tp t p o) (yes : ∀ H, y_fr h H [] [] → p < t → 48 ≤ y_N tp p → y_N tp p ≤ 57 → K0 (some (.int (Int32.ofInt 1))) H C S) (no : ∀ H, y_fr h H [] [] → K0 (some (.int (Int32.ofInt 0))) H C S) : aOK s_P X (d + 1) a_m224 0 [some (.ref 155)] [] h C S K0 := by
  obtain ⟨toI, atI, opI, nd, hr, a1, a2, a3, a4, a5, a6, a7, a8, pt, t40, o0, o5⟩ := s
  have ac := y_cl1 a5
  have T37y : ∀ {G : aH}, y_fr h G [] [] → p < t → 48 ≤ y_N tp p → y_N tp p ≤ 57 → aOK s_P X (d + 1) a_m224 30 [some (.ref 155)] [.int (y_01 true)] G C S K0 := by
    intro G e hp hc hc2
    refine w_go z_hl [] [] 40 e.1 ?_
    exact ⟨fun q => absurd q (by decide), fun _ => ⟨by decide, fun H hH => yes H (y_st e hH (by repeat (first | exact w_nil | refine w_cons (Or.inl (y_m rfl)) ?_ | refine w_cons (Or.inr (by assumption)) ?_)) (by repeat (first | exact w_nil | refine w_cons (Or.inl (y_m rfl)) ?_ | refine w_cons (Or.inr (by assumption)) ?_))) hp hc hc2⟩⟩
  have T37n : ∀ {G : aH}, y_fr h G [] [] → aOK s_P X (d + 1) a_m224 30 [some (.ref 155)] [.int (y_01 false)] G C S K0 := by
    intro G e
    refine w_go z_hl [] [] 40 e.1 ?_
    exact ⟨fun _ => ⟨by decide, fun H hH => no H (y_st e hH (by repeat (first | exact w_nil | refine w_cons (Or.inl (y_m rfl)) ?_ | refine w_cons (Or.inr (by assumption)) ?_)) (by repeat (first | exact w_nil | refine w_cons (Or.inl (y_m rfl)) ?_ | refine w_cons (Or.inr (by assumption)) ?_)))⟩, fun q => absurd q (by decide)⟩
  refine w_go z_hl [] [176] 40 hr ?_
  intro x hx _ _
  obtain rfl := y_fi a4 hx
  intro y hy _ _
  obtain rfl := y_fi a2 hy
  refine ⟨fun q => ⟨by decide, fun H hH => no H (y_st (y_rf hr) hH (by repeat (first | exact w_nil | refine w_cons (Or.inl (y_m rfl)) ?_ | refine w_cons (Or.inr (by assumption)) ?_)) (by repeat (first | exact w_nil | refine w_cons (Or.inl (y_m rfl)) ?_ | refine w_cons (Or.inr (by assumption)) ?_)))⟩, fun q => ?_⟩
  have q1 : ¬ (toI.toInt ≤ atI.toInt) := y_cif q
  refine ⟨⟨by omega, by omega⟩, fun l hl len bb => ?_⟩
  obtain rfl := y_ai a1 hl
  intro H hH
  have e : y_fr h H [] [] := y_st (y_rf hr) hH (by repeat (first | exact w_nil | refine w_cons (Or.inl (y_m rfl)) ?_ | refine w_cons (Or.inr (by assumption)) ?_)) (by repeat (first | exact w_nil | refine w_cons (Or.inl (y_m rfl)) ?_ | refine w_cons (Or.inr (by assumption)) ?_))
  refine q_in (v := (tp.getD atI.toNatClampNeg 0).toInt64) (lo := Int64.ofInt 48) (hi := Int64.ofInt 57) e.1 (fun H2 e2 l1 l2 => ⟨fun n e => (by cases e), ?_⟩) (fun H2 e2 _ => ⟨fun n e => (by cases e), ?_⟩)
  · rw [y_i2l, ac, y_i64 (by decide) (by decide)] at l1 l2
    exact T37y (y_sq e e2 rfl rfl) (by omega) l1 l2
  · exact T37n (y_sq e e2 rfl rfl)
end WG
end PT29a
section PT29b
/-! ===== v3: the reference's readsThing, readsEvery, readsEvent ===== -/
theorem y_E_m1 {T : Nat → Int} {st : Nat} : ∀ (n : Nat) {k p q : Nat}, k < 5 → y_E T st n k p q → y_E T st (n + 1) k p q := by
  intro n
  induction n with
  | zero => exact fun _ h => h.elim
  | succ n ih =>
    intro k p q hk h
    match k, hk, h with
    | 0, _, h =>
      rcases h with ⟨h0, h⟩ | ⟨h0, h⟩ | ⟨h0, r, h1, h3, h2⟩
      · exact Or.inl ⟨h0, ih (by decide) h⟩
      · exact Or.inr (Or.inl ⟨h0, h⟩)
      · exact Or.inr (Or.inr ⟨h0, r, ih (by decide) h1, h3, h2⟩)
    | 1, _, h =>
      obtain ⟨r, h1, h2⟩ := h
      exact ⟨r, ih (by decide) h1, ih (by decide) h2⟩
    | 2, _, h =>
      obtain ⟨r, h1, h2⟩ := h
      exact ⟨r, ih (by decide) h1, ih (by decide) h2⟩
    | 3, _, h =>
      rcases h with ⟨h0, h⟩ | ⟨h0, h3, s, h1, h2⟩
      · exact Or.inl ⟨h0, h⟩
      · exact Or.inr ⟨h0, h3, s, ih (by decide) h1, ih (by decide) h2⟩
    | 4, _, h =>
      rcases h with ⟨h0, h⟩ | ⟨h0, h3, s, h1, h2⟩
      · exact Or.inl ⟨h0, h⟩
      · exact Or.inr ⟨h0, h3, s, ih (by decide) h1, ih (by decide) h2⟩
theorem y_E_m {T : Nat → Int} {st : Nat} {n m k p q : Nat} (hk : k < 5) (h : n ≤ m) (e : y_E T st n k p q) : y_E T st m k p q := by
  induction h with
  | refl => exact e
  | step _ ih => exact y_E_m1 _ hk ih
/-- how much it takes -/
def y_ef (k len : Nat) : Nat := 4 * len + (match k with
  | 0 => 0
  | 1 => 2
  | 2 => 3
  | _ => 1)
def y_rm (k : Nat) : aM := match k with
  | 0 => a_m231
  | 1 => a_m230
  | _ => a_m229
def y_rl (k : Nat) : aL := match k with
  | 0 => [some (.ref 155)]
  | _ => [some (.ref 155), none]
def y_RD (X : aX) (C S d n : Nat) : Prop := ∀ (k : Nat) (h : aH) (K0 : Option Value → aH → Nat → Nat → Prop) (tp : List Int32) (t p : Nat) (o : Int), k < 3 → y_ps h tp t p o → 4 * (t - p) + k + 1 ≤ n →
  (∀ (H : aH) (q : Nat), y_fr h H [19613, 19615] [] → y_ps H tp t q o → p < q → y_E (y_N tp) t (y_ef k (q - p)) k p q → K0 (some (.int (Int32.ofInt 1))) H C S) →
  (∀ (H : aH) (q : Nat) (o' : Int), y_fr h H [19613, 19615] [] → y_ps H tp t q o' → K0 (some (.int (Int32.ofInt 0))) H C S) →
  aOK s_P X (n + d + 2) (y_rm k) 0 (y_rl k) [] h C S K0
section WG
variable {X : aX} {C S d n : Nat} {K0 : Option Value → aH → Nat → Nat → Prop} {h : aH} {tp : List Int32} {t p : Nat} {o : Int}
theorem y_ps_hr (s : y_ps h tp t p o) : w_hr z_D h ∧ p ≤ t ∧ t ≤ 40 ∧ 0 ≤ o ∧ o ≤ 5 := by
  obtain ⟨toI, atI, opI, nd, hr, a1, a2, a3, a4, a5, a6, a7, a8, pt, t40, o0, o5⟩ := s
  exact ⟨hr, pt, t40, o0, o5⟩
theorem y_rd_thing (ih : y_RD X C S d n) (s : y_ps h tp t p o) (hn : 4 * (t - p) + 1 ≤ n + 1) (yes : ∀ (H : aH) (q : Nat), y_fr h H [19613, 19615] [] → y_ps H tp t q o → p < q → y_E (y_N tp) t (y_ef 0 (q - p)) 0 p q → K0 (some (.int (Int32.ofInt 1))) H C S) (no : ∀ (H : aH) (q : Nat) (o' : Int), y_fr h H [19613, 19615] [] → y_ps H tp t q o' → K0 (some (.int (Int32.ofInt 0))) H C S) : aOK s_P X (n + 1 + d + 2) a_m231 0 [some (.ref 155)] [] h C S K0 := by
  obtain ⟨hr, pt, t40, o0, o5⟩ := y_ps_hr s
  have e0 : y_fr h h [19613, 19615] [] := y_mo (y_rf hr) rfl rfl
  have T13y : ∀ {G : aH} {q : Nat}, y_fr h G [19613, 19615] [] → y_ps G tp t q o → p < q → y_E (y_N tp) t (y_ef 0 (q - p)) 0 p q → aOK s_P X (n + 1 + d + 2) a_m231 13 [some (.ref 155)] [.int (Int32.ofInt 1)] G C S K0 := by
    intro G q e s2 hpq hE
    refine w_go z_hl [] [] 30 e.1 ?_
    refine ⟨by decide, fun H hH => ?_⟩
    have f : y_fr G H [] [] := y_st (y_rf e.1) hH (by repeat (first | exact w_nil | refine w_cons (Or.inl (y_m rfl)) ?_ | refine w_cons (Or.inr (by assumption)) ?_)) (by repeat (first | exact w_nil | refine w_cons (Or.inl (y_m rfl)) ?_ | refine w_cons (Or.inr (by assumption)) ?_))
    exact yes H q (y_sq e f rfl rfl) (y_ps_fr s2 f rfl rfl) hpq hE
  have T13n : ∀ {G : aH} {q : Nat} {o' : Int}, y_fr h G [19613, 19615] [] → y_ps G tp t q o' → aOK s_P X (n + 1 + d + 2) a_m231 13 [some (.ref 155)] [.int (Int32.ofInt 0)] G C S K0 := by
    intro G q o' e s2
    refine w_go z_hl [] [] 30 e.1 ?_
    refine ⟨by decide, fun H hH => ?_⟩
    have f : y_fr G H [] [] := y_st (y_rf e.1) hH (by repeat (first | exact w_nil | refine w_cons (Or.inl (y_m rfl)) ?_ | refine w_cons (Or.inr (by assumption)) ?_)) (by repeat (first | exact w_nil | refine w_cons (Or.inl (y_m rfl)) ?_ | refine w_cons (Or.inr (by assumption)) ?_))
    exact no H q o' (y_sq e f rfl rfl) (y_ps_fr s2 f rfl rfl)
  have N : ∀ {G : aH} {pc : Nat} {q : Nat} {o' : Int}, (pc = 50 ∨ pc = 88) → y_fr h G [19613, 19615] [] → y_ps G tp t q o' → aOK s_P X (n + 1 + d + 2) a_m231 pc [some (.ref 155)] [] G C S K0 := by
    intro G pc q o' hpc e s2
    rcases hpc with rfl | rfl
    · refine w_go z_hl [] [] 30 e.1 ?_
      refine ⟨by decide, fun H hH => ?_⟩
      have f : y_fr G H [] [] := y_st (y_rf e.1) hH (by repeat (first | exact w_nil | refine w_cons (Or.inl (y_m rfl)) ?_ | refine w_cons (Or.inr (by assumption)) ?_)) (by repeat (first | exact w_nil | refine w_cons (Or.inl (y_m rfl)) ?_ | refine w_cons (Or.inr (by assumption)) ?_))
      exact no H q o' (y_sq e f rfl rfl) (y_ps_fr s2 f rfl rfl)
    · refine w_go z_hl [] [] 30 e.1 ?_
      refine ⟨by decide, fun H hH => ?_⟩
      have f : y_fr G H [] [] := y_st (y_rf e.1) hH (by repeat (first | exact w_nil | refine w_cons (Or.inl (y_m rfl)) ?_ | refine w_cons (Or.inr (by assumption)) ?_)) (by repeat (first | exact w_nil | refine w_cons (Or.inl (y_m rfl)) ?_ | refine w_cons (Or.inr (by assumption)) ?_))
      exact no H q o' (y_sq e f rfl rfl) (y_ps_fr s2 f rfl rfl)
  have T85y : ∀ {G : aH} {r : Nat}, y_fr h G [19613, 19615] [] → y_ps G tp t (r + 1) (o + 1) → p < r → y_N tp p = 40 → y_E (y_N tp) t (y_ef 2 (r - (p + 1))) 2 (p + 1) r → y_N tp r = 41 → aOK s_P X (n + 1 + d + 2) a_m231 85 [some (.ref 155)] [.int (Int32.ofInt 1)] G C S K0 := by
    intro G r e s2 hpr h40 hE h41
    obtain ⟨toI, atI, opI, nd, -, a1, a2, a3, a4, a5, a6, a7, a8, pt', -, o0', o5'⟩ := s2
    have dec : (opI - Int32.ofInt 1).toInt = opI.toInt - 1 := y_sub1 (by omega)
    refine w_go z_hl [] [] 30 e.1 ?_
    refine ⟨fun _ => ?_, fun q => absurd q (by decide)⟩
    intro x hx _ _
    obtain rfl := y_fi a6 hx
    refine ⟨rfl, y_zini (by show 0 ≤ (opI - Int32.ofInt 1).toInt; omega) (by show (opI - Int32.ofInt 1).toInt ≤ 5; omega), by decide, fun H hH => ?_⟩
    have f : y_fr G H [19615] [] := y_st (y_mo (y_rf e.1) rfl rfl) hH (by repeat (first | exact w_nil | refine w_cons (Or.inl (y_m rfl)) ?_ | refine w_cons (Or.inr (by assumption)) ?_)) (by repeat (first | exact w_nil | refine w_cons (Or.inl (y_m rfl)) ?_ | refine w_cons (Or.inr (by assumption)) ?_))
    refine yes H (r + 1) (y_sq e f rfl rfl) ⟨toI, atI, _, nd, f.1, (y_ae f rfl).trans a1, (y_fe f rfl).trans a2, a3, (y_fe f rfl).trans a4, a5, hH.2.1 19615 _ rfl, (show (opI - Int32.ofInt 1).toInt = o by omega), (y_fe f rfl).trans a8, pt', t40, o0, o5⟩ (by omega) ?_
    obtain ⟨m, hm⟩ : ∃ m, y_ef 0 (r + 1 - p) = m + 1 := ⟨y_ef 0 (r + 1 - p) - 1, by simp only [y_ef]; omega⟩
    rw [hm]
    refine Or.inr (Or.inr ⟨h40, r, y_E_m (by decide) ?_ hE, h41, rfl⟩)
    (simp only [y_ef] at hm ⊢; omega)
  have T85n : ∀ {G : aH} {q : Nat} {o' : Int}, y_fr h G [19613, 19615] [] → y_ps G tp t q o' → aOK s_P X (n + 1 + d + 2) a_m231 85 [some (.ref 155)] [.int (Int32.ofInt 0)] G C S K0 := by
    intro G q o' e s2
    refine w_go z_hl [88] [] 30 e.1 ?_
    refine ⟨fun q => absurd q (by decide), fun _ => fun H hH => ?_⟩
    have f : y_fr G H [] [] := y_st (y_rf e.1) hH (by repeat (first | exact w_nil | refine w_cons (Or.inl (y_m rfl)) ?_ | refine w_cons (Or.inr (by assumption)) ?_)) (by repeat (first | exact w_nil | refine w_cons (Or.inl (y_m rfl)) ?_ | refine w_cons (Or.inr (by assumption)) ?_))
    exact N (Or.inr rfl) (y_sq e f rfl rfl) (y_ps_fr s2 f rfl rfl)
  have T76y : ∀ {G : aH} {r : Nat}, y_fr h G [19613, 19615] [] → y_ps G tp t r (o + 1) → p < r → y_N tp p = 40 → y_E (y_N tp) t (y_ef 2 (r - (p + 1))) 2 (p + 1) r → aOK s_P X (n + 1 + d + 2) a_m231 76 [some (.ref 155)] [.int (Int32.ofInt 1)] G C S K0 := by
    intro G r e s2 hpr h40 hE
    refine w_go z_hl [88] [226] 30 e.1 ?_
    refine ⟨fun q => absurd q (by decide), fun _ => fun H hH => ?_⟩
    have f : y_fr G H [] [] := y_st (y_rf e.1) hH (by repeat (first | exact w_nil | refine w_cons (Or.inl (y_m rfl)) ?_ | refine w_cons (Or.inr (by assumption)) ?_)) (by repeat (first | exact w_nil | refine w_cons (Or.inl (y_m rfl)) ?_ | refine w_cons (Or.inr (by assumption)) ?_))
    refine y_comes (y_ps_fr s2 f rfl rfl) (fun H2 e2 s3 hp hc => ⟨fun n e => (by cases e), ?_⟩) (fun H2 e2 s3 hn => ⟨fun n e => (by cases e), ?_⟩)
    · exact T85y (y_sq (y_sq e f rfl rfl) e2 rfl rfl) s3 hpr h40 hE hc
    · exact T85n (y_sq (y_sq e f rfl rfl) e2 rfl rfl) s3
  have T76n : ∀ {G : aH} {q : Nat} {o' : Int}, y_fr h G [19613, 19615] [] → y_ps G tp t q o' → aOK s_P X (n + 1 + d + 2) a_m231 76 [some (.ref 155)] [.int (Int32.ofInt 0)] G C S K0 := by
    intro G q o' e s2
    refine w_go z_hl [88] [] 30 e.1 ?_
    refine ⟨fun _ => fun H hH => ?_, fun q => absurd q (by decide)⟩
    have f : y_fr G H [] [] := y_st (y_rf e.1) hH (by repeat (first | exact w_nil | refine w_cons (Or.inl (y_m rfl)) ?_ | refine w_cons (Or.inr (by assumption)) ?_)) (by repeat (first | exact w_nil | refine w_cons (Or.inl (y_m rfl)) ?_ | refine w_cons (Or.inr (by assumption)) ?_))
    exact N (Or.inr rfl) (y_sq e f rfl rfl) (y_ps_fr s2 f rfl rfl)
  have T39y : ∀ {G : aH}, y_fr h G [19613, 19615] [] → y_ps G tp t p o → p < t → y_N tp p = 40 → aOK s_P X (n + 1 + d + 2) a_m231 39 [some (.ref 155)] [.int (Int32.ofInt 1)] G C S K0 := by
    intro G e s2 hp h40
    have s2' := s2
    obtain ⟨toI, atI, opI, nd, -, a1, a2, a3, a4, a5, a6, a7, a8, pt', -, o0', o5'⟩ := s2
    have inc : (atI + Int32.ofInt 1).toInt = ((p + 1 : Nat) : Int) := by rw [y_inc (by omega), a5]; rfl
    have inco : (opI + Int32.ofInt 1).toInt = opI.toInt + 1 := y_inc (by omega)
    refine w_go z_hl [50] [229] 40 e.1 ?_
    refine ⟨fun q => absurd q (by decide), fun _ => ?_⟩
    intro x hx _ _
    obtain rfl := y_fi a6 hx
    refine ⟨fun q => ?_, fun _ => fun H hH => ?_⟩
    · have q2 : opI.toInt ≠ (Int32.ofInt 5).toInt := (y_ci .ne _ _).mp q
      rw [show (Int32.ofInt 5).toInt = 5 by decide] at q2
      intro y hy _ _
      obtain rfl := y_fi a4 hy
      refine ⟨rfl, y_zini (by show 0 ≤ (atI + Int32.ofInt 1).toInt; omega) (by show (atI + Int32.ofInt 1).toInt ≤ 40; omega), ?_⟩
      refine ⟨rfl, y_zini (by show 0 ≤ (opI + Int32.ofInt 1).toInt; omega) (by show (opI + Int32.ofInt 1).toInt ≤ 5; omega), ?_⟩
      intro H hH
      have f : y_fr G H [19613, 19615] [] := y_st (y_mo (y_rf e.1) rfl rfl) hH (by repeat (first | exact w_nil | refine w_cons (Or.inl (y_m rfl)) ?_ | refine w_cons (Or.inr (by assumption)) ?_)) (by repeat (first | exact w_nil | refine w_cons (Or.inl (y_m rfl)) ?_ | refine w_cons (Or.inr (by assumption)) ?_))
      have s3 : y_ps H tp t (p + 1) (o + 1) := ⟨toI, _, _, nd, f.1, (y_ae f rfl).trans a1, (y_fe f rfl).trans a2, a3, hH.2.1 19613 _ rfl, inc, hH.2.1 19615 _ rfl, (show (opI + Int32.ofInt 1).toInt = o + 1 by omega), (y_fe f rfl).trans a8, by omega, t40, by omega, by omega⟩
      have e2 := y_sq e f rfl rfl
      refine aOK_deep (d := n + d + 2) (by omega) (ih 2 H _ tp t (p + 1) (o + 1) (by decide) s3 (by omega) (fun H2 q f2 s4 hpq hE => ⟨fun n e => (by cases e), ?_⟩) (fun H2 q o' f2 s4 => ⟨fun n e => (by cases e), ?_⟩))
      · exact T76y (y_sq e2 f2 rfl rfl) s4 (by omega) h40 hE
      · exact T76n (y_sq e2 f2 rfl rfl) s4
    · have f : y_fr G H [] [] := y_st (y_rf e.1) hH (by repeat (first | exact w_nil | refine w_cons (Or.inl (y_m rfl)) ?_ | refine w_cons (Or.inr (by assumption)) ?_)) (by repeat (first | exact w_nil | refine w_cons (Or.inl (y_m rfl)) ?_ | refine w_cons (Or.inr (by assumption)) ?_))
      exact N (Or.inl rfl) (y_sq e f rfl rfl) (y_ps_fr s2' f rfl rfl)
  have T39n : ∀ {G : aH}, y_fr h G [19613, 19615] [] → y_ps G tp t p o → aOK s_P X (n + 1 + d + 2) a_m231 39 [some (.ref 155)] [.int (Int32.ofInt 0)] G C S K0 := by
    intro G e s2
    refine w_go z_hl [50] [] 30 e.1 ?_
    refine ⟨fun _ => fun H hH => ?_, fun q => absurd q (by decide)⟩
    have f : y_fr G H [] [] := y_st (y_rf e.1) hH (by repeat (first | exact w_nil | refine w_cons (Or.inl (y_m rfl)) ?_ | refine w_cons (Or.inr (by assumption)) ?_)) (by repeat (first | exact w_nil | refine w_cons (Or.inl (y_m rfl)) ?_ | refine w_cons (Or.inr (by assumption)) ?_))
    exact N (Or.inl rfl) (y_sq e f rfl rfl) (y_ps_fr s2 f rfl rfl)
  have T18y : ∀ {G : aH}, y_fr h G [19613, 19615] [] → y_ps G tp t p o → p < t → 97 ≤ y_N tp p → aOK s_P X (n + 1 + d + 2) a_m231 18 [some (.ref 155)] [.int (Int32.ofInt 1)] G C S K0 := by
    intro G e s2 hp h97
    obtain ⟨toI, atI, opI, nd, -, a1, a2, a3, a4, a5, a6, a7, a8, pt', -, o0', o5'⟩ := s2
    have inc : (atI + Int32.ofInt 1).toInt = ((p + 1 : Nat) : Int) := by rw [y_inc (by omega), a5]; rfl
    refine w_go z_hl [] [] 40 e.1 ?_
    refine ⟨fun q => absurd q (by decide), fun _ => ?_⟩
    intro y hy _ _
    obtain rfl := y_fi a4 hy
    refine ⟨rfl, y_zini (by show 0 ≤ (atI + Int32.ofInt 1).toInt; omega) (by show (atI + Int32.ofInt 1).toInt ≤ 40; omega), by decide, fun H hH => ?_⟩
    have f : y_fr G H [19613] [] := y_st (y_mo (y_rf e.1) rfl rfl) hH (by repeat (first | exact w_nil | refine w_cons (Or.inl (y_m rfl)) ?_ | refine w_cons (Or.inr (by assumption)) ?_)) (by repeat (first | exact w_nil | refine w_cons (Or.inl (y_m rfl)) ?_ | refine w_cons (Or.inr (by assumption)) ?_))
    refine yes H (p + 1) (y_sq e f rfl rfl) ⟨toI, _, opI, nd, f.1, (y_ae f rfl).trans a1, (y_fe f rfl).trans a2, a3, hH.2.1 19613 _ rfl, inc, (y_fe f rfl).trans a6, a7, (y_fe f rfl).trans a8, by omega, t40, o0, o5⟩ (by omega) ?_
    rw [show y_ef 0 (p + 1 - p) = 3 + 1 by simp only [y_ef]; omega]
    exact Or.inr (Or.inl ⟨h97, rfl⟩)
  have T18n : ∀ {G : aH}, y_fr h G [19613, 19615] [] → y_ps G tp t p o → aOK s_P X (n + 1 + d + 2) a_m231 18 [some (.ref 155)] [.int (Int32.ofInt 0)] G C S K0 := by
    intro G e s2
    refine w_go z_hl [] [227] 30 e.1 ?_
    refine ⟨fun _ => fun H hH => ?_, fun q => absurd q (by decide)⟩
    have f : y_fr G H [] [] := y_st (y_rf e.1) hH (by repeat (first | exact w_nil | refine w_cons (Or.inl (y_m rfl)) ?_ | refine w_cons (Or.inr (by assumption)) ?_)) (by repeat (first | exact w_nil | refine w_cons (Or.inl (y_m rfl)) ?_ | refine w_cons (Or.inr (by assumption)) ?_))
    refine y_isAt (y_ps_fr s2 f rfl rfl) (fun H2 e2 hp hc => ⟨fun n e => (by cases e), ?_⟩) (fun H2 e2 hn => ⟨fun n e => (by cases e), ?_⟩)
    · exact T39y (y_sq (y_sq e f rfl rfl) e2 rfl rfl) (y_ps_fr (y_ps_fr s2 f rfl rfl) e2 rfl rfl) hp hc
    · exact T39n (y_sq (y_sq e f rfl rfl) e2 rfl rfl) (y_ps_fr (y_ps_fr s2 f rfl rfl) e2 rfl rfl)
  have T6y : ∀ {G : aH}, y_fr h G [19613, 19615] [] → y_ps G tp t (p + 1) o → p < t → y_N tp p = 33 → aOK s_P X (n + 1 + d + 2) a_m231 6 [some (.ref 155)] [.int (Int32.ofInt 1)] G C S K0 := by
    intro G e s2 hp h33
    refine w_go z_hl [] [231] 30 e.1 ?_
    refine ⟨fun q => absurd q (by decide), fun _ => fun H hH => ?_⟩
    have f : y_fr G H [] [] := y_st (y_rf e.1) hH (by repeat (first | exact w_nil | refine w_cons (Or.inl (y_m rfl)) ?_ | refine w_cons (Or.inr (by assumption)) ?_)) (by repeat (first | exact w_nil | refine w_cons (Or.inl (y_m rfl)) ?_ | refine w_cons (Or.inr (by assumption)) ?_))
    have e2 := y_sq e f rfl rfl
    refine aOK_deep (d := n + d + 2) (by omega) (ih 0 H _ tp t (p + 1) o (by decide) (y_ps_fr s2 f rfl rfl) (by omega) (fun H2 q f2 s4 hpq hE => ⟨fun n e => (by cases e), ?_⟩) (fun H2 q o' f2 s4 => ⟨fun n e => (by cases e), ?_⟩))
    · refine T13y (y_sq e2 f2 rfl rfl) s4 (by omega) ?_
      obtain ⟨m, hm⟩ : ∃ m, y_ef 0 (q - p) = m + 1 := ⟨y_ef 0 (q - p) - 1, by simp only [y_ef]; omega⟩
      rw [hm]
      refine Or.inl ⟨h33, y_E_m (by decide) ?_ hE⟩
      (simp only [y_ef] at hm ⊢; omega)
    · exact T13n (y_sq e2 f2 rfl rfl) s4
  have T6n : ∀ {G : aH}, y_fr h G [19613, 19615] [] → y_ps G tp t p o → aOK s_P X (n + 1 + d + 2) a_m231 6 [some (.ref 155)] [.int (Int32.ofInt 0)] G C S K0 := by
    intro G e s2
    refine w_go z_hl [] [232] 30 e.1 ?_
    refine ⟨fun _ => fun H hH => ?_, fun q => absurd q (by decide)⟩
    have f : y_fr G H [] [] := y_st (y_rf e.1) hH (by repeat (first | exact w_nil | refine w_cons (Or.inl (y_m rfl)) ?_ | refine w_cons (Or.inr (by assumption)) ?_)) (by repeat (first | exact w_nil | refine w_cons (Or.inl (y_m rfl)) ?_ | refine w_cons (Or.inr (by assumption)) ?_))
    have s3 := y_ps_fr s2 f rfl rfl
    refine y_isLetter s3 (fun H2 e2 hp hc => ⟨fun n e => (by cases e), ?_⟩) (fun H2 e2 => ⟨fun n e => (by cases e), ?_⟩)
    · exact T18y (y_sq (y_sq e f rfl rfl) e2 rfl rfl) (y_ps_fr s3 e2 rfl rfl) hp hc
    · exact T18n (y_sq (y_sq e f rfl rfl) e2 rfl rfl) (y_ps_fr s3 e2 rfl rfl)
  refine w_go z_hl [] [226] 30 hr ?_
  intro H hH
  have f : y_fr h H [] [] := y_st (y_rf hr) hH (by repeat (first | exact w_nil | refine w_cons (Or.inl (y_m rfl)) ?_ | refine w_cons (Or.inr (by assumption)) ?_)) (by repeat (first | exact w_nil | refine w_cons (Or.inl (y_m rfl)) ?_ | refine w_cons (Or.inr (by assumption)) ?_))
  refine y_comes (y_ps_fr s f rfl rfl) (fun H2 e2 s3 hp hc => ⟨fun n e => (by cases e), ?_⟩) (fun H2 e2 s3 hn => ⟨fun n e => (by cases e), ?_⟩)
  · exact T6y (y_sq (y_mo f rfl rfl) e2 rfl rfl) s3 hp hc
  · exact T6n (y_sq (y_mo f rfl rfl) e2 rfl rfl) s3
theorem y_ev_loop (ih : y_RD X C S d n) : ∀ (m : Nat) (h : aH) (p : Nat), y_ps h tp t p o → t - p ≤ m → 4 * (t - p) ≤ n →
    (∀ (H : aH) (q : Nat), y_fr h H [19613, 19615] [] → y_ps H tp t q o → p ≤ q → y_E (y_N tp) t (y_ef 3 (q - p)) 3 p q → K0 (some (.int (Int32.ofInt 1))) H C S) →
    (∀ (H : aH) (q : Nat) (o' : Int), y_fr h H [19613, 19615] [] → y_ps H tp t q o' → K0 (some (.int (Int32.ofInt 0))) H C S) →
    aOK s_P X (n + 1 + d + 2) a_m230 5 [some (.ref 155), some (.int (Int32.ofInt 1))] [] h C S K0 := by
  intro m
  induction m with
  | zero =>
    intro h p s hm hn yes no
    obtain ⟨hr, pt, t40, o0, o5⟩ := y_ps_hr s
    have T15n : ∀ {G : aH}, y_fr h G [19613, 19615] [] → y_ps G tp t p o → ¬ (y_N tp p = 38 ∧ p < t) → aOK s_P X (n + 1 + d + 2) a_m230 15 [some (.ref 155), some (.int (Int32.ofInt 1))] [.int (Int32.ofInt 0)] G C S K0 := by
      intro G e s2 hne
      refine w_go z_hl [] [] 30 e.1 ?_
      refine ⟨fun _ => ⟨by decide, fun H hH => ?_⟩, fun q => absurd q (by decide)⟩
      have f : y_fr G H [] [] := y_st (y_rf e.1) hH (by repeat (first | exact w_nil | refine w_cons (Or.inl (y_m rfl)) ?_ | refine w_cons (Or.inr (by assumption)) ?_)) (by repeat (first | exact w_nil | refine w_cons (Or.inl (y_m rfl)) ?_ | refine w_cons (Or.inr (by assumption)) ?_))
      refine yes H p (y_sq e f rfl rfl) (y_ps_fr s2 f rfl rfl) (Nat.le_refl p) ?_
      rw [show y_ef 3 (p - p) = 0 + 1 by simp only [y_ef]; omega]
      exact Or.inl ⟨hne, rfl⟩
    refine w_go z_hl [] [226] 30 hr ?_
    refine ⟨fun q => absurd q (by decide), fun _ => fun H hH => ?_⟩
    have f : y_fr h H [] [] := y_st (y_rf hr) hH (by repeat (first | exact w_nil | refine w_cons (Or.inl (y_m rfl)) ?_ | refine w_cons (Or.inr (by assumption)) ?_)) (by repeat (first | exact w_nil | refine w_cons (Or.inl (y_m rfl)) ?_ | refine w_cons (Or.inr (by assumption)) ?_))
    refine y_comes (y_ps_fr s f rfl rfl) (fun H2 e2 s3 hp hc => by omega) (fun H2 e2 s3 hne => ⟨fun n e => (by cases e), ?_⟩)
    exact T15n (y_sq (y_mo f rfl rfl) e2 rfl rfl) s3 hne
  | succ m ihm =>
    intro h p s hm hn yes no
    obtain ⟨hr, pt, t40, o0, o5⟩ := y_ps_hr s
    have T15n : ∀ {G : aH}, y_fr h G [19613, 19615] [] → y_ps G tp t p o → ¬ (y_N tp p = 38 ∧ p < t) → aOK s_P X (n + 1 + d + 2) a_m230 15 [some (.ref 155), some (.int (Int32.ofInt 1))] [.int (Int32.ofInt 0)] G C S K0 := by
      intro G e s2 hne
      refine w_go z_hl [] [] 30 e.1 ?_
      refine ⟨fun _ => ⟨by decide, fun H hH => ?_⟩, fun q => absurd q (by decide)⟩
      have f : y_fr G H [] [] := y_st (y_rf e.1) hH (by repeat (first | exact w_nil | refine w_cons (Or.inl (y_m rfl)) ?_ | refine w_cons (Or.inr (by assumption)) ?_)) (by repeat (first | exact w_nil | refine w_cons (Or.inl (y_m rfl)) ?_ | refine w_cons (Or.inr (by assumption)) ?_))
      refine yes H p (y_sq e f rfl rfl) (y_ps_fr s2 f rfl rfl) (Nat.le_refl p) ?_
      rw [show y_ef 3 (p - p) = 0 + 1 by simp only [y_ef]; omega]
      exact Or.inl ⟨hne, rfl⟩
    have T22y : ∀ {G : aH} {r : Nat}, y_fr h G [19613, 19615] [] → y_ps G tp t r o → p < r → p < t → y_N tp p = 38 → y_E (y_N tp) t (y_ef 0 (r - (p + 1))) 0 (p + 1) r → aOK s_P X (n + 1 + d + 2) a_m230 22 [some (.ref 155), some (.int (Int32.ofInt 1))] [.int (Int32.ofInt 1)] G C S K0 := by
      intro G r e s2 hpr hpt h38 hE
      refine w_go z_hl [5] [] 30 e.1 ?_
      intro H hH
      have f : y_fr G H [] [] := y_st (y_rf e.1) hH (by repeat (first | exact w_nil | refine w_cons (Or.inl (y_m rfl)) ?_ | refine w_cons (Or.inr (by assumption)) ?_)) (by repeat (first | exact w_nil | refine w_cons (Or.inl (y_m rfl)) ?_ | refine w_cons (Or.inr (by assumption)) ?_))
      have e2 := y_sq e f rfl rfl
      have lt := (y_E_lt (T := y_N tp) (st := t) _).1 0 (by decide) hE
      refine ihm H r (y_ps_fr s2 f rfl rfl) (by omega) (by omega) (fun H2 q f2 s3 hrq hE2 => ?_) (fun H2 q o' f2 s3 => no H2 q o' (y_sq e2 f2 rfl rfl) s3)
      refine yes H2 q (y_sq e2 f2 rfl rfl) s3 (by omega) ?_
      obtain ⟨u, hu⟩ : ∃ u, y_ef 3 (q - p) = u + 1 := ⟨y_ef 3 (q - p) - 1, by simp only [y_ef]; omega⟩
      rw [hu]
      refine Or.inr ⟨h38, hpt, r, y_E_m (by decide) ?_ hE, y_E_m (by decide) ?_ hE2⟩
      · (simp only [y_ef] at hu ⊢; omega)
      · (simp only [y_ef] at hu ⊢; omega)
    have T22n : ∀ {G : aH} {q : Nat} {o' : Int}, y_fr h G [19613, 19615] [] → y_ps G tp t q o' → aOK s_P X (n + 1 + d + 2) a_m230 22 [some (.ref 155), some (.int (Int32.ofInt 1))] [.int (Int32.ofInt 0)] G C S K0 := by
      intro G q o' e s2
      refine w_go z_hl [] [] 30 e.1 ?_
      refine ⟨fun _ => ⟨by decide, fun H hH => ?_⟩, fun q => absurd q (by decide)⟩
      have f : y_fr G H [] [] := y_st (y_rf e.1) hH (by repeat (first | exact w_nil | refine w_cons (Or.inl (y_m rfl)) ?_ | refine w_cons (Or.inr (by assumption)) ?_)) (by repeat (first | exact w_nil | refine w_cons (Or.inl (y_m rfl)) ?_ | refine w_cons (Or.inr (by assumption)) ?_))
      exact no H q o' (y_sq e f rfl rfl) (y_ps_fr s2 f rfl rfl)
    have T15y : ∀ {G : aH}, y_fr h G [19613, 19615] [] → y_ps G tp t (p + 1) o → p < t → y_N tp p = 38 → aOK s_P X (n + 1 + d + 2) a_m230 15 [some (.ref 155), some (.int (Int32.ofInt 1))] [.int (Int32.ofInt 1)] G C S K0 := by
      intro G e s2 hp h38
      refine w_go z_hl [] [231] 30 e.1 ?_
      refine ⟨fun q => absurd q (by decide), fun _ => fun H hH => ?_⟩
      have f : y_fr G H [] [] := y_st (y_rf e.1) hH (by repeat (first | exact w_nil | refine w_cons (Or.inl (y_m rfl)) ?_ | refine w_cons (Or.inr (by assumption)) ?_)) (by repeat (first | exact w_nil | refine w_cons (Or.inl (y_m rfl)) ?_ | refine w_cons (Or.inr (by assumption)) ?_))
      have e2 := y_sq e f rfl rfl
      refine aOK_deep (d := n + d + 2) (by omega) (ih 0 H _ tp t (p + 1) o (by decide) (y_ps_fr s2 f rfl rfl) (by omega) (fun H2 q f2 s4 hpq hE => ⟨fun n e => (by cases e), ?_⟩) (fun H2 q o' f2 s4 => ⟨fun n e => (by cases e), ?_⟩))
      · exact T22y (y_sq e2 f2 rfl rfl) s4 (by omega) hp h38 hE
      · exact T22n (y_sq e2 f2 rfl rfl) s4
    refine w_go z_hl [] [226] 30 hr ?_
    refine ⟨fun q => absurd q (by decide), fun _ => fun H hH => ?_⟩
    have f : y_fr h H [] [] := y_st (y_rf hr) hH (by repeat (first | exact w_nil | refine w_cons (Or.inl (y_m rfl)) ?_ | refine w_cons (Or.inr (by assumption)) ?_)) (by repeat (first | exact w_nil | refine w_cons (Or.inl (y_m rfl)) ?_ | refine w_cons (Or.inr (by assumption)) ?_))
    refine y_comes (y_ps_fr s f rfl rfl) (fun H2 e2 s3 hp hc => ⟨fun n e => (by cases e), ?_⟩) (fun H2 e2 s3 hne => ⟨fun n e => (by cases e), ?_⟩)
    · exact T15y (y_sq (y_mo f rfl rfl) e2 rfl rfl) s3 hp hc
    · exact T15n (y_sq (y_mo f rfl rfl) e2 rfl rfl) s3 hne
theorem y_or_loop (ih : y_RD X C S d n) : ∀ (m : Nat) (h : aH) (p : Nat), y_ps h tp t p o → t - p ≤ m → 4 * (t - p) ≤ n →
    (∀ (H : aH) (q : Nat), y_fr h H [19613, 19615] [] → y_ps H tp t q o → p ≤ q → y_E (y_N tp) t (y_ef 4 (q - p)) 4 p q → K0 (some (.int (Int32.ofInt 1))) H C S) →
    (∀ (H : aH) (q : Nat) (o' : Int), y_fr h H [19613, 19615] [] → y_ps H tp t q o' → K0 (some (.int (Int32.ofInt 0))) H C S) →
    aOK s_P X (n + 1 + d + 2) a_m229 5 [some (.ref 155), some (.int (Int32.ofInt 1))] [] h C S K0 := by
  intro m
  induction m with
  | zero =>
    intro h p s hm hn yes no
    obtain ⟨hr, pt, t40, o0, o5⟩ := y_ps_hr s
    have T15n : ∀ {G : aH}, y_fr h G [19613, 19615] [] → y_ps G tp t p o → ¬ (y_N tp p = 124 ∧ p < t) → aOK s_P X (n + 1 + d + 2) a_m229 15 [some (.ref 155), some (.int (Int32.ofInt 1))] [.int (Int32.ofInt 0)] G C S K0 := by
      intro G e s2 hne
      refine w_go z_hl [] [] 30 e.1 ?_
      refine ⟨fun _ => ⟨by decide, fun H hH => ?_⟩, fun q => absurd q (by decide)⟩
      have f : y_fr G H [] [] := y_st (y_rf e.1) hH (by repeat (first | exact w_nil | refine w_cons (Or.inl (y_m rfl)) ?_ | refine w_cons (Or.inr (by assumption)) ?_)) (by repeat (first | exact w_nil | refine w_cons (Or.inl (y_m rfl)) ?_ | refine w_cons (Or.inr (by assumption)) ?_))
      refine yes H p (y_sq e f rfl rfl) (y_ps_fr s2 f rfl rfl) (Nat.le_refl p) ?_
      rw [show y_ef 4 (p - p) = 0 + 1 by simp only [y_ef]; omega]
      exact Or.inl ⟨hne, rfl⟩
    refine w_go z_hl [] [226] 30 hr ?_
    refine ⟨fun q => absurd q (by decide), fun _ => fun H hH => ?_⟩
    have f : y_fr h H [] [] := y_st (y_rf hr) hH (by repeat (first | exact w_nil | refine w_cons (Or.inl (y_m rfl)) ?_ | refine w_cons (Or.inr (by assumption)) ?_)) (by repeat (first | exact w_nil | refine w_cons (Or.inl (y_m rfl)) ?_ | refine w_cons (Or.inr (by assumption)) ?_))
    refine y_comes (y_ps_fr s f rfl rfl) (fun H2 e2 s3 hp hc => by omega) (fun H2 e2 s3 hne => ⟨fun n e => (by cases e), ?_⟩)
    exact T15n (y_sq (y_mo f rfl rfl) e2 rfl rfl) s3 hne
  | succ m ihm =>
    intro h p s hm hn yes no
    obtain ⟨hr, pt, t40, o0, o5⟩ := y_ps_hr s
    have T15n : ∀ {G : aH}, y_fr h G [19613, 19615] [] → y_ps G tp t p o → ¬ (y_N tp p = 124 ∧ p < t) → aOK s_P X (n + 1 + d + 2) a_m229 15 [some (.ref 155), some (.int (Int32.ofInt 1))] [.int (Int32.ofInt 0)] G C S K0 := by
      intro G e s2 hne
      refine w_go z_hl [] [] 30 e.1 ?_
      refine ⟨fun _ => ⟨by decide, fun H hH => ?_⟩, fun q => absurd q (by decide)⟩
      have f : y_fr G H [] [] := y_st (y_rf e.1) hH (by repeat (first | exact w_nil | refine w_cons (Or.inl (y_m rfl)) ?_ | refine w_cons (Or.inr (by assumption)) ?_)) (by repeat (first | exact w_nil | refine w_cons (Or.inl (y_m rfl)) ?_ | refine w_cons (Or.inr (by assumption)) ?_))
      refine yes H p (y_sq e f rfl rfl) (y_ps_fr s2 f rfl rfl) (Nat.le_refl p) ?_
      rw [show y_ef 4 (p - p) = 0 + 1 by simp only [y_ef]; omega]
      exact Or.inl ⟨hne, rfl⟩
    have T22y : ∀ {G : aH} {r : Nat}, y_fr h G [19613, 19615] [] → y_ps G tp t r o → p < r → p < t → y_N tp p = 124 → y_E (y_N tp) t (y_ef 1 (r - (p + 1))) 1 (p + 1) r → aOK s_P X (n + 1 + d + 2) a_m229 22 [some (.ref 155), some (.int (Int32.ofInt 1))] [.int (Int32.ofInt 1)] G C S K0 := by
      intro G r e s2 hpr hpt h124 hE
      refine w_go z_hl [5] [] 30 e.1 ?_
      intro H hH
      have f : y_fr G H [] [] := y_st (y_rf e.1) hH (by repeat (first | exact w_nil | refine w_cons (Or.inl (y_m rfl)) ?_ | refine w_cons (Or.inr (by assumption)) ?_)) (by repeat (first | exact w_nil | refine w_cons (Or.inl (y_m rfl)) ?_ | refine w_cons (Or.inr (by assumption)) ?_))
      have e2 := y_sq e f rfl rfl
      have lt := (y_E_lt (T := y_N tp) (st := t) _).1 1 (by decide) hE
      refine ihm H r (y_ps_fr s2 f rfl rfl) (by omega) (by omega) (fun H2 q f2 s3 hrq hE2 => ?_) (fun H2 q o' f2 s3 => no H2 q o' (y_sq e2 f2 rfl rfl) s3)
      refine yes H2 q (y_sq e2 f2 rfl rfl) s3 (by omega) ?_
      obtain ⟨u, hu⟩ : ∃ u, y_ef 4 (q - p) = u + 1 := ⟨y_ef 4 (q - p) - 1, by simp only [y_ef]; omega⟩
      rw [hu]
      refine Or.inr ⟨h124, hpt, r, y_E_m (by decide) ?_ hE, y_E_m (by decide) ?_ hE2⟩
      · (simp only [y_ef] at hu ⊢; omega)
      · (simp only [y_ef] at hu ⊢; omega)
    have T22n : ∀ {G : aH} {q : Nat} {o' : Int}, y_fr h G [19613, 19615] [] → y_ps G tp t q o' → aOK s_P X (n + 1 + d + 2) a_m229 22 [some (.ref 155), some (.int (Int32.ofInt 1))] [.int (Int32.ofInt 0)] G C S K0 := by
      intro G q o' e s2
      refine w_go z_hl [] [] 30 e.1 ?_
      refine ⟨fun _ => ⟨by decide, fun H hH => ?_⟩, fun q => absurd q (by decide)⟩
      have f : y_fr G H [] [] := y_st (y_rf e.1) hH (by repeat (first | exact w_nil | refine w_cons (Or.inl (y_m rfl)) ?_ | refine w_cons (Or.inr (by assumption)) ?_)) (by repeat (first | exact w_nil | refine w_cons (Or.inl (y_m rfl)) ?_ | refine w_cons (Or.inr (by assumption)) ?_))
      exact no H q o' (y_sq e f rfl rfl) (y_ps_fr s2 f rfl rfl)
    have T15y : ∀ {G : aH}, y_fr h G [19613, 19615] [] → y_ps G tp t (p + 1) o → p < t → y_N tp p = 124 → aOK s_P X (n + 1 + d + 2) a_m229 15 [some (.ref 155), some (.int (Int32.ofInt 1))] [.int (Int32.ofInt 1)] G C S K0 := by
      intro G e s2 hp h124
      refine w_go z_hl [] [230] 30 e.1 ?_
      refine ⟨fun q => absurd q (by decide), fun _ => fun H hH => ?_⟩
      have f : y_fr G H [] [] := y_st (y_rf e.1) hH (by repeat (first | exact w_nil | refine w_cons (Or.inl (y_m rfl)) ?_ | refine w_cons (Or.inr (by assumption)) ?_)) (by repeat (first | exact w_nil | refine w_cons (Or.inl (y_m rfl)) ?_ | refine w_cons (Or.inr (by assumption)) ?_))
      have e2 := y_sq e f rfl rfl
      refine aOK_deep (d := n + d + 2) (by omega) (ih 1 H _ tp t (p + 1) o (by decide) (y_ps_fr s2 f rfl rfl) (by omega) (fun H2 q f2 s4 hpq hE => ⟨fun n e => (by cases e), ?_⟩) (fun H2 q o' f2 s4 => ⟨fun n e => (by cases e), ?_⟩))
      · exact T22y (y_sq e2 f2 rfl rfl) s4 (by omega) hp h124 hE
      · exact T22n (y_sq e2 f2 rfl rfl) s4
    refine w_go z_hl [] [226] 30 hr ?_
    refine ⟨fun q => absurd q (by decide), fun _ => fun H hH => ?_⟩
    have f : y_fr h H [] [] := y_st (y_rf hr) hH (by repeat (first | exact w_nil | refine w_cons (Or.inl (y_m rfl)) ?_ | refine w_cons (Or.inr (by assumption)) ?_)) (by repeat (first | exact w_nil | refine w_cons (Or.inl (y_m rfl)) ?_ | refine w_cons (Or.inr (by assumption)) ?_))
    refine y_comes (y_ps_fr s f rfl rfl) (fun H2 e2 s3 hp hc => ⟨fun n e => (by cases e), ?_⟩) (fun H2 e2 s3 hne => ⟨fun n e => (by cases e), ?_⟩)
    · exact T15y (y_sq (y_mo f rfl rfl) e2 rfl rfl) s3 hp hc
    · exact T15n (y_sq (y_mo f rfl rfl) e2 rfl rfl) s3 hne
theorem y_rd_every (ih : y_RD X C S d n) (s : y_ps h tp t p o) (hn : 4 * (t - p) + 2 ≤ n + 1) (yes : ∀ (H : aH) (q : Nat), y_fr h H [19613, 19615] [] → y_ps H tp t q o → p < q → y_E (y_N tp) t (y_ef 1 (q - p)) 1 p q → K0 (some (.int (Int32.ofInt 1))) H C S) (no : ∀ (H : aH) (q : Nat) (o' : Int), y_fr h H [19613, 19615] [] → y_ps H tp t q o' → K0 (some (.int (Int32.ofInt 0))) H C S) : aOK s_P X (n + 1 + d + 2) a_m230 0 [some (.ref 155), none] [] h C S K0 := by
  obtain ⟨hr, pt, t40, o0, o5⟩ := y_ps_hr s
  have T4y : ∀ {G : aH} {r : Nat}, y_fr h G [19613, 19615] [] → y_ps G tp t r o → p < r → y_E (y_N tp) t (y_ef 0 (r - p)) 0 p r → aOK s_P X (n + 1 + d + 2) a_m230 4 [some (.ref 155), none] [.int (Int32.ofInt 1)] G C S K0 := by
    intro G r e s2 hpr hE
    refine w_go z_hl [5] [] 30 e.1 ?_
    intro H hH
    have f : y_fr G H [] [] := y_st (y_rf e.1) hH (by repeat (first | exact w_nil | refine w_cons (Or.inl (y_m rfl)) ?_ | refine w_cons (Or.inr (by assumption)) ?_)) (by repeat (first | exact w_nil | refine w_cons (Or.inl (y_m rfl)) ?_ | refine w_cons (Or.inr (by assumption)) ?_))
    have e2 := y_sq e f rfl rfl
    refine y_ev_loop ih 40 H r (y_ps_fr s2 f rfl rfl) (by omega) (by omega) (fun H2 q f2 s3 hrq hE2 => ?_) (fun H2 q o' f2 s3 => no H2 q o' (y_sq e2 f2 rfl rfl) s3)
    refine yes H2 q (y_sq e2 f2 rfl rfl) s3 (by omega) ?_
    obtain ⟨u, hu⟩ : ∃ u, y_ef 1 (q - p) = u + 1 := ⟨y_ef 1 (q - p) - 1, by simp only [y_ef]; omega⟩
    rw [hu]
    refine ⟨r, y_E_m (by decide) ?_ hE, y_E_m (by decide) ?_ hE2⟩
    · (simp only [y_ef] at hu ⊢; omega)
    · (simp only [y_ef] at hu ⊢; omega)
  have T4n : ∀ {G : aH} {q : Nat} {o' : Int}, y_fr h G [19613, 19615] [] → y_ps G tp t q o' → aOK s_P X (n + 1 + d + 2) a_m230 4 [some (.ref 155), none] [.int (Int32.ofInt 0)] G C S K0 := by
    intro G q o' e s2
    refine w_go z_hl [] [] 30 e.1 ?_
    refine ⟨fun _ => ⟨by decide, fun H hH => ?_⟩, fun q => absurd q (by decide)⟩
    have f : y_fr G H [] [] := y_st (y_rf e.1) hH (by repeat (first | exact w_nil | refine w_cons (Or.inl (y_m rfl)) ?_ | refine w_cons (Or.inr (by assumption)) ?_)) (by repeat (first | exact w_nil | refine w_cons (Or.inl (y_m rfl)) ?_ | refine w_cons (Or.inr (by assumption)) ?_))
    exact no H q o' (y_sq e f rfl rfl) (y_ps_fr s2 f rfl rfl)
  refine w_go z_hl [] [231] 30 hr ?_
  intro H hH
  have f : y_fr h H [] [] := y_st (y_rf hr) hH (by repeat (first | exact w_nil | refine w_cons (Or.inl (y_m rfl)) ?_ | refine w_cons (Or.inr (by assumption)) ?_)) (by repeat (first | exact w_nil | refine w_cons (Or.inl (y_m rfl)) ?_ | refine w_cons (Or.inr (by assumption)) ?_))
  refine aOK_deep (d := n + d + 2) (by omega) (ih 0 H _ tp t p o (by decide) (y_ps_fr s f rfl rfl) (by omega) (fun H2 q f2 s4 hpq hE => ⟨fun n e => (by cases e), ?_⟩) (fun H2 q o' f2 s4 => ⟨fun n e => (by cases e), ?_⟩))
  · exact T4y (y_sq (y_mo f rfl rfl) f2 rfl rfl) s4 hpq hE
  · exact T4n (y_sq (y_mo f rfl rfl) f2 rfl rfl) s4
theorem y_rd_event (ih : y_RD X C S d n) (s : y_ps h tp t p o) (hn : 4 * (t - p) + 3 ≤ n + 1) (yes : ∀ (H : aH) (q : Nat), y_fr h H [19613, 19615] [] → y_ps H tp t q o → p < q → y_E (y_N tp) t (y_ef 2 (q - p)) 2 p q → K0 (some (.int (Int32.ofInt 1))) H C S) (no : ∀ (H : aH) (q : Nat) (o' : Int), y_fr h H [19613, 19615] [] → y_ps H tp t q o' → K0 (some (.int (Int32.ofInt 0))) H C S) : aOK s_P X (n + 1 + d + 2) a_m229 0 [some (.ref 155), none] [] h C S K0 := by
  obtain ⟨hr, pt, t40, o0, o5⟩ := y_ps_hr s
  have T4y : ∀ {G : aH} {r : Nat}, y_fr h G [19613, 19615] [] → y_ps G tp t r o → p < r → y_E (y_N tp) t (y_ef 1 (r - p)) 1 p r → aOK s_P X (n + 1 + d + 2) a_m229 4 [some (.ref 155), none] [.int (Int32.ofInt 1)] G C S K0 := by
    intro G r e s2 hpr hE
    refine w_go z_hl [5] [] 30 e.1 ?_
    intro H hH
    have f : y_fr G H [] [] := y_st (y_rf e.1) hH (by repeat (first | exact w_nil | refine w_cons (Or.inl (y_m rfl)) ?_ | refine w_cons (Or.inr (by assumption)) ?_)) (by repeat (first | exact w_nil | refine w_cons (Or.inl (y_m rfl)) ?_ | refine w_cons (Or.inr (by assumption)) ?_))
    have e2 := y_sq e f rfl rfl
    refine y_or_loop ih 40 H r (y_ps_fr s2 f rfl rfl) (by omega) (by omega) (fun H2 q f2 s3 hrq hE2 => ?_) (fun H2 q o' f2 s3 => no H2 q o' (y_sq e2 f2 rfl rfl) s3)
    refine yes H2 q (y_sq e2 f2 rfl rfl) s3 (by omega) ?_
    obtain ⟨u, hu⟩ : ∃ u, y_ef 2 (q - p) = u + 1 := ⟨y_ef 2 (q - p) - 1, by simp only [y_ef]; omega⟩
    rw [hu]
    refine ⟨r, y_E_m (by decide) ?_ hE, y_E_m (by decide) ?_ hE2⟩
    · (simp only [y_ef] at hu ⊢; omega)
    · (simp only [y_ef] at hu ⊢; omega)
  have T4n : ∀ {G : aH} {q : Nat} {o' : Int}, y_fr h G [19613, 19615] [] → y_ps G tp t q o' → aOK s_P X (n + 1 + d + 2) a_m229 4 [some (.ref 155), none] [.int (Int32.ofInt 0)] G C S K0 := by
    intro G q o' e s2
    refine w_go z_hl [] [] 30 e.1 ?_
    refine ⟨fun _ => ⟨by decide, fun H hH => ?_⟩, fun q => absurd q (by decide)⟩
    have f : y_fr G H [] [] := y_st (y_rf e.1) hH (by repeat (first | exact w_nil | refine w_cons (Or.inl (y_m rfl)) ?_ | refine w_cons (Or.inr (by assumption)) ?_)) (by repeat (first | exact w_nil | refine w_cons (Or.inl (y_m rfl)) ?_ | refine w_cons (Or.inr (by assumption)) ?_))
    exact no H q o' (y_sq e f rfl rfl) (y_ps_fr s2 f rfl rfl)
  refine w_go z_hl [] [230] 30 hr ?_
  intro H hH
  have f : y_fr h H [] [] := y_st (y_rf hr) hH (by repeat (first | exact w_nil | refine w_cons (Or.inl (y_m rfl)) ?_ | refine w_cons (Or.inr (by assumption)) ?_)) (by repeat (first | exact w_nil | refine w_cons (Or.inl (y_m rfl)) ?_ | refine w_cons (Or.inr (by assumption)) ?_))
  refine aOK_deep (d := n + d + 2) (by omega) (ih 1 H _ tp t p o (by decide) (y_ps_fr s f rfl rfl) (by omega) (fun H2 q f2 s4 hpq hE => ⟨fun n e => (by cases e), ?_⟩) (fun H2 q o' f2 s4 => ⟨fun n e => (by cases e), ?_⟩))
  · exact T4y (y_sq (y_mo f rfl rfl) f2 rfl rfl) s4 hpq hE
  · exact T4n (y_sq (y_mo f rfl rfl) f2 rfl rfl) s4
theorem y_rd : ∀ (n : Nat), y_RD X C S d n
  | 0 => fun k h K0 tp t p o _ _ hn => absurd hn (by omega)
  | n + 1 => fun k h K0 tp t p o hk s hn yes no => by
    have ih := y_rd n
    match k, hk, hn, yes with
    | 0, _, hn, yes => exact y_rd_thing ih s hn yes no
    | 1, _, hn, yes => exact y_rd_every ih s hn yes no
    | 2, _, hn, yes => exact y_rd_event ih s hn yes no
end WG
end PT29b
section PT29c
/-! ===== v3: the reference's notes, digits, readsTerm ===== -/
def y_rs (h : aH) (tp : List Int32) (t p : Nat) (o : Int) (i : Nat) (kd : List Int32) (nu : List Int64) (be fi : List Int32) : Prop := y_ps h tp t p o ∧ (∃ iI : Int32, w_f h 19610 = some (.int iI) ∧ iI.toInt = i) ∧ i ≤ 11 ∧ w_a h 166 = some (0, .inl kd) ∧ w_a h 167 = some (1, .inr (.inl nu)) ∧ w_a h 168 = some (0, .inl be) ∧ w_a h 169 = some (0, .inl fi)
theorem y_rs_fr {h H : aH} {tp : List Int32} {t p : Nat} {o : Int} {i : Nat} {kd : List Int32} {nu : List Int64} {be fi : List Int32} (s : y_rs h tp t p o i kd nu be fi) (e : y_fr h H [] []) : y_rs H tp t p o i kd nu be fi := by
  obtain ⟨s1, ⟨iI, s2, s3⟩, s4, s5, s6, s7, s8⟩ := s
  exact ⟨y_ps_fr s1 e rfl rfl, ⟨iI, (y_fe e rfl).trans s2, s3⟩, s4, (y_ae e rfl).trans s5, (y_ae e rfl).trans s6, (y_ae e rfl).trans s7, (y_ae e rfl).trans s8⟩
theorem y_rs_ps {h H : aH} {tp : List Int32} {t p q : Nat} {o o' : Int} {i : Nat} {kd : List Int32} {nu : List Int64} {be fi : List Int32} (s : y_rs h tp t p o i kd nu be fi) (e : y_fr h H [19613, 19615] []) (s' : y_ps H tp t q o') : y_rs H tp t q o' i kd nu be fi := by
  obtain ⟨s1, ⟨iI, s2, s3⟩, s4, s5, s6, s7, s8⟩ := s
  exact ⟨s', ⟨iI, (y_fe e rfl).trans s2, s3⟩, s4, (y_ae e rfl).trans s5, (y_ae e rfl).trans s6, (y_ae e rfl).trans s7, (y_ae e rfl).trans s8⟩
def y_Nl (l : List Int64) (i : Nat) : Int := (l.getD i 0).toInt
theorem y_Nlset {l : List Int64} {k i : Nat} {x : Int64} (hk : k < l.length) : y_Nl (l.set k x) i = if i = k then x.toInt else y_Nl l i := by
  unfold y_Nl
  rw [y_gset hk]
  split <;> rfl
/-- only what belongs to the term k has changed -/
def y_rt (k : Nat) (kd kd' : List Int32) (nu nu' : List Int64) (be be' fi fi' : List Int32) : Prop := (∀ j, j ≠ k → y_N kd' j = y_N kd j) ∧ (∀ j, j / 2 ≠ k → y_Nl nu' j = y_Nl nu j) ∧ (∀ j, j / 2 ≠ k → y_N be' j = y_N be j) ∧ ∀ j, j / 2 ≠ k → y_N fi' j = y_N fi j
theorem y_rt_rf {k : Nat} {kd be fi : List Int32} {nu : List Int64} : y_rt k kd kd nu nu be be fi fi := ⟨fun _ _ => rfl, fun _ _ => rfl, fun _ _ => rfl, fun _ _ => rfl⟩
theorem y_rt_tr {k : Nat} {kd kd' kd'' be be' be'' fi fi' fi'' : List Int32} {nu nu' nu'' : List Int64} (a : y_rt k kd kd' nu nu' be be' fi fi') (b : y_rt k kd' kd'' nu' nu'' be' be'' fi' fi'') : y_rt k kd kd'' nu nu'' be be'' fi fi'' := ⟨fun j hj => (b.1 j hj).trans (a.1 j hj), fun j hj => (b.2.1 j hj).trans (a.2.1 j hj), fun j hj => (b.2.2.1 j hj).trans (a.2.2.1 j hj), fun j hj => (b.2.2.2 j hj).trans (a.2.2.2 j hj)⟩
theorem y_rt_kd {k : Nat} {kd be fi : List Int32} {nu : List Int64} {x : Int32} (hl : k < kd.length) : y_rt k kd (kd.set k x) nu nu be be fi fi := ⟨fun j hj => by rw [y_Nset hl, if_neg hj], fun _ _ => rfl, fun _ _ => rfl, fun _ _ => rfl⟩
theorem y_rt_nu {k m : Nat} {kd be fi : List Int32} {nu : List Int64} {x : Int64} (hl : m < nu.length) (hm : m / 2 = k) : y_rt k kd kd nu (nu.set m x) be be fi fi := ⟨fun _ _ => rfl, fun j hj => by rw [y_Nlset hl, if_neg (by intro e; subst e; exact hj hm)], fun _ _ => rfl, fun _ _ => rfl⟩
theorem y_rt_bf {k m : Nat} {kd be fi : List Int32} {nu : List Int64} {x y : Int32} (hl : m < be.length) (hl2 : m < fi.length) (hm : m / 2 = k) : y_rt k kd kd nu nu be (be.set m x) fi (fi.set m y) := ⟨fun _ _ => rfl, fun _ _ => rfl, fun j hj => by rw [y_Nset hl, if_neg (by intro e; subst e; exact hj hm)], fun j hj => by rw [y_Nset hl2, if_neg (by intro e; subst e; exact hj hm)]⟩
/-- a piece of text that is an event -/
def y_ok1 (T : Nat → Int) (t : Nat) (b f : Int) : Prop := 0 ≤ b ∧ 0 ≤ f ∧ f.toNat ≤ t ∧ y_E T f.toNat 163 2 b.toNat f.toNat
def y_tm (T : Nat → Int) (t k : Nat) (kd : List Int32) (nu : List Int64) (be fi : List Int32) : Prop := (y_N kd k = 0 → -1 ≤ y_Nl nu (2 * k) ∧ 1 ≤ y_Nl nu (2 * k + 1)) ∧ (y_N kd k ≠ 0 → y_ok1 T t (y_N be (2 * k)) (y_N fi (2 * k))) ∧ (y_N kd k = 2 → y_ok1 T t (y_N be (2 * k + 1)) (y_N fi (2 * k + 1)))
theorem y_tm_rt {T : Nat → Int} {t k k' : Nat} {kd kd' be be' fi fi' : List Int32} {nu nu' : List Int64} (h : y_tm T t k kd nu be fi) (r : y_rt k' kd kd' nu nu' be be' fi fi') (hne : k ≠ k') : y_tm T t k kd' nu' be' fi' := by
  obtain ⟨r1, r2, r3, r4⟩ := r
  unfold y_tm
  rw [r1 k hne, r2 (2 * k) (by omega), r2 (2 * k + 1) (by omega), r3 (2 * k) (by omega), r3 (2 * k + 1) (by omega), r4 (2 * k) (by omega), r4 (2 * k + 1) (by omega)]
  exact h
theorem y_tm_c {T T' : Nat → Int} {t t' k : Nat} {kd be fi : List Int32} {nu : List Int64} (h : y_tm T t k kd nu be fi) (hT : ∀ j, j < t → T' j = T j) (ht : t ≤ t') : y_tm T' t' k kd nu be fi := by
  obtain ⟨h1, h2, h3⟩ := h
  have go : ∀ {b f : Int}, y_ok1 T t b f → y_ok1 T' t' b f := fun {b f} q => ⟨q.1, q.2.1, by have := q.2.2.1; omega, y_E_c (fun j hj => hT j (by have := q.2.2.1; omega)) (Nat.le_refl _) 163 (by decide) (Nat.le_refl _) q.2.2.2⟩
  exact ⟨h1, fun q => go (h2 q), fun q => go (h3 q)⟩
theorem y_4k {a b c : Int32} {i s g : Nat} (ha : a.toInt = i) (hb : b.toInt = s) (hc : c.toInt = g) (hi : i < 100) (hs : s < 100) (hg : g < 100) : (Int32.ofInt 4 * a + Int32.ofInt 2 * b + c).toInt = ((4 * i + 2 * s + g : Nat) : Int) := y_addS _ (y_addS _ (y_mulS (m := 4) _ (by decide) ha rfl (by omega)) (y_mulS (m := 2) _ (by decide) hb rfl (by omega)) rfl (by omega)) hc rfl (by omega)
theorem y_2k {a b : Int32} {i s : Nat} (ha : a.toInt = i) (hb : b.toInt = s) (hi : i < 100) (hs : s < 100) : (Int32.ofInt 2 * a + b).toInt = ((2 * i + s : Nat) : Int) := y_addS _ (y_mulS (m := 2) _ (by decide) ha rfl (by omega)) hb rfl (by omega)
section WG
variable {X : aX} {C S d : Nat} {K0 : Option Value → aH → Nat → Nat → Prop} {h : aH} {tp : List Int32} {t p : Nat} {o : Int} {i : Nat} {kd : List Int32} {nu : List Int64} {be fi : List Int32}
theorem y_notes (s : y_rs h tp t p o i kd nu be fi) {sI gI : Int32} {sd g : Nat} (hs : sI.toInt = sd) (hs2 : sd < 2) (hg : gI.toInt = g) (hg2 : g < 2)
    (yes : ∀ (H : aH) (q : Nat) (be' fi' : List Int32), y_fr h H [19613, 19615] [168, 169] → y_rs H tp t q o i kd nu be' fi' → y_rt (2 * i + sd) kd kd nu nu be be' fi fi' → (∀ j, j ≠ 4 * i + 2 * sd + g → y_N be' j = y_N be j ∧ y_N fi' j = y_N fi j) → y_ok1 (y_N tp) t (y_N be' (4 * i + 2 * sd + g)) (y_N fi' (4 * i + 2 * sd + g)) → K0 (some (.int (Int32.ofInt 1))) H C S)
    (no : ∀ (H : aH) (q : Nat) (o' : Int) (be' fi' : List Int32), y_fr h H [19613, 19615] [168, 169] → y_rs H tp t q o' i kd nu be' fi' → y_rt (2 * i + sd) kd kd nu nu be be' fi fi' → K0 (some (.int (Int32.ofInt 0))) H C S) :
    aOK s_P X (d + 166) a_m228 0 [some (.ref 155), some (.int sI), some (.int gI), none, none] [] h C S K0 := by
  obtain ⟨s1, ⟨iI, s2, s3⟩, s4, s5, s6, s7, s8⟩ := id s
  obtain ⟨toI, atI, opI, nd, hr, a1, a2, a3, a4, a5, a6, a7, a8, pt, t40, o0, o5⟩ := id s1
  have ik := y_4k s3 hs hg (by omega) (by omega) (by omega)
  have ck := y_cl1 ik
  have bk : 0 ≤ (Int32.ofInt 4 * iI + Int32.ofInt 2 * sI + gI).toInt ∧ (Int32.ofInt 4 * iI + Int32.ofInt 2 * sI + gI).toInt < ((52 : Nat) : Int) := by omega
  have T27 : ∀ {G : aH} {q : Nat} {o' : Int} {r : Int32}, y_fr h G [19613, 19615] [168] → w_a G 168 = some (0, .inl (be.set (4 * i + 2 * sd + g) atI)) → y_ps G tp t q o' → 0 ≤ r.toInt ∧ r.toInt ≤ 1 → (∀ (H : aH) (qI : Int32), y_fr h H [19613, 19615] [168, 169] → qI.toInt = q → y_rs H tp t q o' i kd nu (be.set (4 * i + 2 * sd + g) atI) (fi.set (4 * i + 2 * sd + g) qI) → be.length = 52 → fi.length = 52 → K0 (some (.int r)) H C S) → aOK s_P X (d + 166) a_m228 27 [some (.ref 155), some (.int sI), some (.int gI), some (.int (Int32.ofInt 4 * iI + Int32.ofInt 2 * sI + gI)), none] [.int r] G C S K0 := by
    intro G q o' r e A1 ps hr01 hK
    obtain ⟨toJ, atJ, opJ, ndJ, -, c1, c2, c3, c4, c5, c6, c7, c8, pt', -, -, -⟩ := id ps
    refine w_go z_hl [] [] 40 e.1 ?_
    intro x hx _ _
    obtain rfl := y_fi c4 hx
    refine ⟨bk, ⟨by omega, by omega⟩, fun l hl len bb => ?_⟩
    obtain rfl := y_ai ((y_ae e rfl).trans s8) hl
    refine ⟨hr01, fun H hH => ?_⟩
    have f : y_fr G H [] [169] := y_st (y_mo (y_rf e.1) rfl rfl) hH (by repeat (first | exact w_nil | refine w_cons (Or.inl (y_m rfl)) ?_ | refine w_cons (Or.inr (by assumption)) ?_)) (by repeat (first | exact w_nil | refine w_cons (Or.inl (y_m rfl)) ?_ | refine w_cons (Or.inr (by assumption)) ?_))
    have e2 : y_fr h H [19613, 19615] [168, 169] := y_sq (y_mo e rfl rfl) f rfl rfl
    have A2 := hH.2.2.1 169 _ rfl
    rw [ck] at A2
    obtain ⟨lb, z1, z2, -⟩ := w_arrI hr (o := 168) (t := 0) (n := 52) (lo := 0) (hi := 40) (by decide) rfl
    obtain rfl := y_ai s7 (w_a_at z1)
    exact hK H atJ e2 c5 ⟨y_ps_fr ps f rfl rfl, ⟨iI, (y_fe e2 rfl).trans s2, s3⟩, s4, (y_ae e2 rfl).trans s5, (y_ae e2 rfl).trans s6, (y_ae f rfl).trans A1, A2⟩ z2 len
  refine w_go z_hl [] [229] 40 hr ?_
  intro x hx _ _
  obtain rfl := y_fi s2 hx
  intro y hy _ _
  obtain rfl := y_fi a4 hy
  refine ⟨bk, ⟨by omega, by omega⟩, fun l hl len bb => ?_⟩
  obtain rfl := y_ai s7 hl
  intro H hH
  have e : y_fr h H [19613, 19615] [168] := y_st (y_mo (y_rf hr) rfl rfl) hH (by repeat (first | exact w_nil | refine w_cons (Or.inl (y_m rfl)) ?_ | refine w_cons (Or.inr (by assumption)) ?_)) (by repeat (first | exact w_nil | refine w_cons (Or.inl (y_m rfl)) ?_ | refine w_cons (Or.inr (by assumption)) ?_))
  have e0 : y_fr h H [] [168] := y_st (y_mo (y_rf hr) rfl rfl) hH (by repeat (first | exact w_nil | refine w_cons (Or.inl (y_m rfl)) ?_ | refine w_cons (Or.inr (by assumption)) ?_)) (by repeat (first | exact w_nil | refine w_cons (Or.inl (y_m rfl)) ?_ | refine w_cons (Or.inr (by assumption)) ?_))
  have A1 := hH.2.2.1 168 _ rfl
  rw [ck] at A1
  refine aOK_deep (d := 163 + d + 2) (by omega) (y_rd 163 2 H _ tp t p o (by decide) (y_ps_fr s1 e0 rfl rfl) (by omega) (fun H2 q f2 s4 hpq hE => ⟨fun n e => (by cases e), ?_⟩) (fun H2 q o' f2 s4 => ⟨fun n e => (by cases e), ?_⟩))
  · refine T27 (y_sq e f2 rfl rfl) ((y_ae f2 rfl).trans A1) s4 (by decide) (fun H3 qI e3 hq r3 l1 l2 => ?_)
    refine yes H3 q _ _ e3 r3 (y_rt_bf (by omega) (by omega) (by omega)) (fun j hj => ⟨by rw [y_Nset (by omega), if_neg hj], by rw [y_Nset (by omega), if_neg hj]⟩) ?_
    rw [y_Nset (by omega), y_Nset (by omega), if_pos rfl, if_pos rfl, a5, hq]
    have pt2 := (y_ps_hr s4).2.1
    refine ⟨by omega, by omega, by omega, ?_⟩
    show y_E (y_N tp) q 163 2 p q
    exact y_E_c (fun _ _ => rfl) pt2 163 (by decide) (Nat.le_refl q) (y_E_m (by decide) (by simp only [y_ef]; omega) hE)
  · exact T27 (y_sq e f2 rfl rfl) ((y_ae f2 rfl).trans A1) s4 (by decide) (fun H3 qI e3 hq r3 l1 l2 => no H3 q o' _ _ e3 r3 (y_rt_bf (by omega) (by omega) (by omega)))
theorem y_digits_loop {mb : Int32} : ∀ (m : Nat) (h : aH) (p : Nat) (v : Int64) (nI : Int32) (k w : Nat), y_ps h tp t p o → nI.toInt = k → k + m = 8 → v.toInt = w → w < 10 ^ k →
    (∀ (H : aH) (q : Nat) (r : Int64), y_fr h H [19613] [] → y_ps H tp t q o → 0 ≤ r.toInt → r.toInt ≤ 100000000 → K0 (some (.long r)) H C S) →
    aOK s_P X (d + 2) a_m225 34 [some (.ref 155), some (.int mb), some (.long v), none, some (.int nI)] [] h C S K0 := by
  intro m
  induction m with
  | zero =>
    intro h p v nI k w s hk hm hv hw hK
    obtain ⟨hr, pt, t40, o0, o5⟩ := y_ps_hr s
    have hk8 : k = 8 := by omega
    subst hk8
    refine w_go z_hl [34] [] 40 hr ?_
    refine ⟨fun _ => fun H hH => ?_, fun q => ?_⟩
    · have f : y_fr h H [] [] := y_st (y_rf hr) hH (by repeat (first | exact w_nil | refine w_cons (Or.inl (y_m rfl)) ?_ | refine w_cons (Or.inr (by assumption)) ?_)) (by repeat (first | exact w_nil | refine w_cons (Or.inl (y_m rfl)) ?_ | refine w_cons (Or.inr (by assumption)) ?_))
      exact hK H p v (y_mo f rfl rfl) (y_ps_fr s f rfl rfl) (by omega) (by omega)
    · have : ¬ (((Int8.ofInt 8).toInt32).toInt ≤ nI.toInt) := y_cif q
      rw [y_c8] at this
      omega
  | succ m ihm =>
    intro h p v nI k w s hk hm hv hw hK
    obtain ⟨hr, pt, t40, o0, o5⟩ := y_ps_hr s
    have w8 : 10 ^ (k + 1) ≤ 10 ^ 8 := Nat.pow_le_pow_right (by decide) (by omega)
    have wk : 10 ^ (k + 1) = 10 * 10 ^ k := by rw [Nat.pow_succ, Nat.mul_comm]
    have fin : ∀ {G : aH}, y_fr h G [] [] → K0 (some (.long v)) G C S := fun e => hK _ p v (y_mo e rfl rfl) (y_ps_fr s e rfl rfl) (by omega) (by omega)
    have T45y : ∀ {G : aH}, y_fr h G [] [] → p < t → 48 ≤ y_N tp p → y_N tp p ≤ 57 → aOK s_P X (d + 2) a_m225 45 [some (.ref 155), some (.int mb), some (.long v), none, some (.int nI)] [.int (Int32.ofInt 1)] G C S K0 := by
      intro G e hp c1 c2
      obtain ⟨toI, atI, opI, nd, hr', a1, a2, a3, a4, a5, a6, a7, a8, pt', -, o0', o5'⟩ := y_ps_fr s e rfl rfl
      have ac := y_cl1 a5
      have inc : (atI + Int32.ofInt 1).toInt = ((p + 1 : Nat) : Int) := by rw [y_inc (by omega), a5]; rfl
      have ink : (nI + Int32.ofInt 1).toInt = ((k + 1 : Nat) : Int) := by rw [y_inc (by omega), hk]; rfl
      refine w_go z_hl [34] [] 60 e.1 ?_
      refine ⟨fun q => absurd q (by decide), fun _ => ?_⟩
      intro x hx _ _
      obtain rfl := y_fi a4 hx
      refine ⟨⟨by omega, by omega⟩, fun l hl len bb => ?_⟩
      obtain rfl := y_ai a1 hl
      refine ⟨rfl, y_zini (by show 0 ≤ (atI + Int32.ofInt 1).toInt; omega) (by show (atI + Int32.ofInt 1).toInt ≤ 40; omega), ?_⟩
      intro H hH
      have f : y_fr G H [19613] [] := y_st (y_mo (y_rf e.1) rfl rfl) hH (by repeat (first | exact w_nil | refine w_cons (Or.inl (y_m rfl)) ?_ | refine w_cons (Or.inr (by assumption)) ?_)) (by repeat (first | exact w_nil | refine w_cons (Or.inl (y_m rfl)) ?_ | refine w_cons (Or.inr (by assumption)) ?_))
      have e2 : y_fr h H [19613] [] := y_sq (y_mo e rfl rfl) f rfl rfl
      obtain ⟨c, hc⟩ : ∃ c : Nat, y_N tp p = c := ⟨(y_N tp p).toNat, by omega⟩
      have hcc : (tp.getD atI.toNatClampNeg 0).toInt64.toInt = c := by rw [y_i2l, ac]; exact hc
      have m1 : (Int64.ofInt 10 * v).toInt = ((10 * w : Nat) : Int) := y_mul64 (m := 10) _ (y_i64 (by decide) (by decide)) hv rfl (by omega)
      have m2 : (Int64.ofInt 10 * v + (tp.getD atI.toNatClampNeg 0).toInt64).toInt = ((10 * w + c : Nat) : Int) := y_add64 _ m1 hcc rfl (by omega)
      have m3 : (Int64.ofInt 10 * v + (tp.getD atI.toNatClampNeg 0).toInt64 - Int64.ofInt 48).toInt = ((10 * w + (c - 48) : Nat) : Int) := by
        rw [y_lsub (by rw [m2, y_i64 (by decide) (by decide)]; omega) (by rw [m2, y_i64 (by decide) (by decide)]; omega), m2, y_i64 (by decide) (by decide)]
        omega
      exact ihm H (p + 1) _ _ (k + 1) (10 * w + (c - 48)) ⟨toI, _, opI, nd, f.1, (y_ae f rfl).trans a1, (y_fe f rfl).trans a2, a3, hH.2.1 19613 _ rfl, inc, (y_fe f rfl).trans a6, a7, (y_fe f rfl).trans a8, by omega, t40, o0, o5⟩ ink (by omega) m3 (by omega) (fun H' q r f1 f2 f3 f4 => hK H' q r (y_sq e2 f1 rfl rfl) f2 f3 f4)
    have T45n : ∀ {G : aH}, y_fr h G [] [] → aOK s_P X (d + 2) a_m225 45 [some (.ref 155), some (.int mb), some (.long v), none, some (.int nI)] [.int (Int32.ofInt 0)] G C S K0 := by
      intro G e
      refine w_go z_hl [34] [] 60 e.1 ?_
      exact ⟨fun _ => fun H hH => fin (y_st e hH (by repeat (first | exact w_nil | refine w_cons (Or.inl (y_m rfl)) ?_ | refine w_cons (Or.inr (by assumption)) ?_)) (by repeat (first | exact w_nil | refine w_cons (Or.inl (y_m rfl)) ?_ | refine w_cons (Or.inr (by assumption)) ?_))), fun q => absurd q (by decide)⟩
    refine w_go z_hl [34] [224] 40 hr ?_
    refine ⟨fun q => ?_, fun _ => fun H hH => ?_⟩
    · have : ((Int8.ofInt 8).toInt32).toInt ≤ nI.toInt := (y_ci .ge _ _).mp q
      rw [y_c8] at this
      omega
    · have f : y_fr h H [] [] := y_st (y_rf hr) hH (by repeat (first | exact w_nil | refine w_cons (Or.inl (y_m rfl)) ?_ | refine w_cons (Or.inr (by assumption)) ?_)) (by repeat (first | exact w_nil | refine w_cons (Or.inl (y_m rfl)) ?_ | refine w_cons (Or.inr (by assumption)) ?_))
      refine y_isDigit (y_ps_fr s f rfl rfl) (fun H2 e2 hp c1 c2 => ⟨fun n e => (by cases e), ?_⟩) (fun H2 e2 => ⟨fun n e => (by cases e), ?_⟩)
      · exact T45y (y_sq f e2 rfl rfl) hp c1 c2
      · exact T45n (y_sq f e2 rfl rfl)
theorem y_digits (s : y_ps h tp t p o) {mb : Int32} (hK : ∀ (H : aH) (q : Nat) (r : Int64), y_fr h H [19613] [] → y_ps H tp t q o → -1 ≤ r.toInt → r.toInt ≤ 100000000 → K0 (some (.long r)) H C S) : aOK s_P X (d + 2) a_m225 0 [some (.ref 155), some (.int mb), none, none, none] [] h C S K0 := by
  obtain ⟨hr, pt, t40, o0, o5⟩ := y_ps_hr s
  have T29 : ∀ {G : aH}, y_fr h G [] [] → aOK s_P X (d + 2) a_m225 29 [some (.ref 155), some (.int mb), none, none, none] [] G C S K0 := by
    intro G e
    refine w_go z_hl [34] [] 40 e.1 ?_
    intro H hH
    have e2 := y_st e hH (by repeat (first | exact w_nil | refine w_cons (Or.inl (y_m rfl)) ?_ | refine w_cons (Or.inr (by assumption)) ?_)) (by repeat (first | exact w_nil | refine w_cons (Or.inl (y_m rfl)) ?_ | refine w_cons (Or.inr (by assumption)) ?_))
    exact y_digits_loop 8 H p _ _ 0 0 (y_ps_fr s e2 rfl rfl) rfl rfl rfl (by decide) (fun H' q r f1 f2 f3 f4 => hK H' q r (y_sq (y_mo e2 rfl rfl) f1 rfl rfl) f2 (by omega) f4)
  have T4y : ∀ {G : aH}, y_fr h G [] [] → p < t → aOK s_P X (d + 2) a_m225 4 [some (.ref 155), some (.int mb), none, none, none] [.int (Int32.ofInt 1)] G C S K0 := by
    intro G e hp
    obtain ⟨toI, atI, opI, nd, hr', a1, a2, a3, a4, a5, a6, a7, a8, pt', -, o0', o5'⟩ := y_ps_fr s e rfl rfl
    refine w_go z_hl [29] [] 40 e.1 ?_
    refine ⟨fun q => absurd q (by decide), fun _ => ⟨fun _ => fun H hH => T29 (y_st e hH (by repeat (first | exact w_nil | refine w_cons (Or.inl (y_m rfl)) ?_ | refine w_cons (Or.inr (by assumption)) ?_)) (by repeat (first | exact w_nil | refine w_cons (Or.inl (y_m rfl)) ?_ | refine w_cons (Or.inr (by assumption)) ?_))), fun _ => ?_⟩⟩
    intro x hx _ _
    obtain rfl := y_fi a4 hx
    refine ⟨⟨by omega, by omega⟩, fun l hl len bb => ⟨fun _ => fun H hH => T29 (y_st e hH (by repeat (first | exact w_nil | refine w_cons (Or.inl (y_m rfl)) ?_ | refine w_cons (Or.inr (by assumption)) ?_)) (by repeat (first | exact w_nil | refine w_cons (Or.inl (y_m rfl)) ?_ | refine w_cons (Or.inr (by assumption)) ?_))), fun _ => fun H hH => ?_⟩⟩
    have e2 := y_st e hH (by repeat (first | exact w_nil | refine w_cons (Or.inl (y_m rfl)) ?_ | refine w_cons (Or.inr (by assumption)) ?_)) (by repeat (first | exact w_nil | refine w_cons (Or.inl (y_m rfl)) ?_ | refine w_cons (Or.inr (by assumption)) ?_))
    exact hK H p _ (y_mo e2 rfl rfl) (y_ps_fr s e2 rfl rfl) (by decide) (by decide)
  have T4n : ∀ {G : aH}, y_fr h G [] [] → aOK s_P X (d + 2) a_m225 4 [some (.ref 155), some (.int mb), none, none, none] [.int (Int32.ofInt 0)] G C S K0 := by
    intro G e
    refine w_go z_hl [29] [] 40 e.1 ?_
    refine ⟨fun _ => fun H hH => ?_, fun q => absurd q (by decide)⟩
    have e2 := y_st e hH (by repeat (first | exact w_nil | refine w_cons (Or.inl (y_m rfl)) ?_ | refine w_cons (Or.inr (by assumption)) ?_)) (by repeat (first | exact w_nil | refine w_cons (Or.inl (y_m rfl)) ?_ | refine w_cons (Or.inr (by assumption)) ?_))
    exact hK H p _ (y_mo e2 rfl rfl) (y_ps_fr s e2 rfl rfl) (by decide) (by decide)
  refine w_go z_hl [] [224] 40 hr ?_
  intro H hH
  have f : y_fr h H [] [] := y_st (y_rf hr) hH (by repeat (first | exact w_nil | refine w_cons (Or.inl (y_m rfl)) ?_ | refine w_cons (Or.inr (by assumption)) ?_)) (by repeat (first | exact w_nil | refine w_cons (Or.inl (y_m rfl)) ?_ | refine w_cons (Or.inr (by assumption)) ?_))
  refine y_isDigit (y_ps_fr s f rfl rfl) (fun H2 e2 hp c1 c2 => ⟨fun n e => (by cases e), ?_⟩) (fun H2 e2 => ⟨fun n e => (by cases e), ?_⟩)
  · exact T4y (y_sq f e2 rfl rfl) hp
  · exact T4n (y_sq f e2 rfl rfl)
end WG
end PT29c
section PT29d
/-! ===== v3: the reference's readsTerm, readsSaying ===== -/
section WG
variable {X : aX} {C S d : Nat} {K0 : Option Value → aH → Nat → Nat → Prop} {h : aH} {tp : List Int32} {t p : Nat} {o : Int} {i : Nat} {kd : List Int32} {nu : List Int64} {be fi : List Int32}
theorem y_rs_kd {H : aH} {kd' : List Int32} (s : y_rs h tp t p o i kd nu be fi) (e : y_fr h H [] [166]) (a : w_a H 166 = some (0, .inl kd')) : y_rs H tp t p o i kd' nu be fi := by
  obtain ⟨s1, ⟨iI, s2, s3⟩, s4, s5, s6, s7, s8⟩ := s
  exact ⟨y_ps_fr s1 e rfl rfl, ⟨iI, (y_fe e rfl).trans s2, s3⟩, s4, a, (y_ae e rfl).trans s6, (y_ae e rfl).trans s7, (y_ae e rfl).trans s8⟩
theorem y_rs_nu {H : aH} {nu' : List Int64} (s : y_rs h tp t p o i kd nu be fi) (e : y_fr h H [] [167]) (a : w_a H 167 = some (1, .inr (.inl nu'))) : y_rs H tp t p o i kd nu' be fi := by
  obtain ⟨s1, ⟨iI, s2, s3⟩, s4, s5, s6, s7, s8⟩ := s
  exact ⟨y_ps_fr s1 e rfl rfl, ⟨iI, (y_fe e rfl).trans s2, s3⟩, s4, (y_ae e rfl).trans s5, a, (y_ae e rfl).trans s7, (y_ae e rfl).trans s8⟩
theorem y_rs_hr (s : y_rs h tp t p o i kd nu be fi) : w_hr z_D h ∧ p ≤ t ∧ t ≤ 40 ∧ 0 ≤ o ∧ o ≤ 5 ∧ i ≤ 11 ∧ kd.length = 26 ∧ nu.length = 52 ∧ be.length = 52 ∧ fi.length = 52 := by
  obtain ⟨s1, s2, s4, s5, s6, s7, s8⟩ := s
  obtain ⟨hr, a, b, c, e⟩ := y_ps_hr s1
  obtain ⟨l1, z1, z2, -⟩ := w_arrI hr (o := 166) (t := 0) (n := 26) (lo := 0) (hi := 2) (by decide) rfl
  obtain ⟨l2, z3, z4, -⟩ := w_arrL hr (o := 167) (n := 52) (lo := -9223372036854775808) (hi := 9223372036854775807) rfl
  obtain ⟨l3, z5, z6, -⟩ := w_arrI hr (o := 168) (t := 0) (n := 52) (lo := 0) (hi := 40) (by decide) rfl
  obtain ⟨l4, z7, z8, -⟩ := w_arrI hr (o := 169) (t := 0) (n := 52) (lo := 0) (hi := 40) (by decide) rfl
  obtain rfl := y_ai s5 (w_a_at z1)
  obtain rfl := y_al s6 (w_a_at z3)
  obtain rfl := y_ai s7 (w_a_at z5)
  obtain rfl := y_ai s8 (w_a_at z7)
  exact ⟨hr, a, b, c, e, s4, z2, z4, z6, z8⟩
theorem y_readsTerm (s : y_rs h tp t p o i kd nu be fi) {sI : Int32} {sd : Nat} (hs : sI.toInt = sd) (hs2 : sd < 2)
    (yes : ∀ (H : aH) (q : Nat) (kd' : List Int32) (nu' : List Int64) (be' fi' : List Int32), y_fr h H [19613, 19615] [166, 167, 168, 169] → y_rs H tp t q o i kd' nu' be' fi' → y_rt (2 * i + sd) kd kd' nu nu' be be' fi fi' → y_tm (y_N tp) t (2 * i + sd) kd' nu' be' fi' → K0 (some (.int (Int32.ofInt 1))) H C S)
    (no : ∀ (H : aH) (q : Nat) (o' : Int) (kd' : List Int32) (nu' : List Int64) (be' fi' : List Int32), y_fr h H [19613, 19615] [166, 167, 168, 169] → y_rs H tp t q o' i kd' nu' be' fi' → y_rt (2 * i + sd) kd kd' nu nu' be be' fi fi' → K0 (some (.int (Int32.ofInt 0))) H C S) :
    aOK s_P X (d + 167) a_m223 0 [some (.ref 155), some (.int sI), none] [] h C S K0 := by
  obtain ⟨hr, pt, t40, o0, o5, i11, lk, ln, lb, lf⟩ := y_rs_hr s
  obtain ⟨s1, ⟨iI, s2, s3⟩, s4, s5, s6, s7, s8⟩ := id s
  have hk := y_2k s3 hs (by omega) (by omega)
  generalize hkI : Int32.ofInt 2 * iI + sI = kI at hk
  have ck := y_cl1 hk
  have hk2 : (Int32.ofInt 2 * kI).toInt = ((2 * (2 * i + sd) : Nat) : Int) := y_mulS (m := 2) _ (by decide) hk rfl (by omega)
  have hk3 : (Int32.ofInt 2 * kI + Int32.ofInt 1).toInt = ((2 * (2 * i + sd) + 1 : Nat) : Int) := y_addS _ hk2 (n := 1) (by decide) rfl (by omega)
  have c2 := y_cl1 hk2
  have c3 := y_cl1 hk3
  have b1 : 0 ≤ kI.toInt ∧ kI.toInt < ((26 : Nat) : Int) := by omega
  have b2 : 0 ≤ (Int32.ofInt 2 * kI).toInt ∧ (Int32.ofInt 2 * kI).toInt < ((52 : Nat) : Int) := by omega
  have b3 : 0 ≤ (Int32.ofInt 2 * kI + Int32.ofInt 1).toInt ∧ (Int32.ofInt 2 * kI + Int32.ofInt 1).toInt < ((52 : Nat) : Int) := by omega
  have T61 : ∀ {G : aH} {q : Nat} {kd' : List Int32} {nu' : List Int64} {be' fi' : List Int32} {r : Int64}, y_fr h G [19613, 19615] [166, 167, 168, 169] → y_rs G tp t q o i kd' nu' be' fi' → y_rt (2 * i + sd) kd kd' nu nu' be be' fi fi' → y_N kd' (2 * i + sd) = 0 → -1 ≤ y_Nl nu' (2 * (2 * i + sd)) → aOK s_P X (d + 167) a_m223 61 [some (.ref 155), some (.int sI), some (.int kI)] [.long r, .int (Int32.ofInt 2 * kI + Int32.ofInt 1), .ref 169] G C S K0 := by
    intro G q kd' nu' be' fi' r e rs rt hk0 hn0
    obtain ⟨-, -, -, -, -, -, lk', ln', lb', lf'⟩ := y_rs_hr rs
    refine w_go z_hl [] [] 40 e.1 ?_
    refine ⟨b3, y_l64 r, fun l hl len bb => ?_⟩
    obtain rfl := y_al rs.2.2.2.2.1 hl
    refine ⟨b3, ⟨fun _ => ⟨by decide, fun H hH => ?_⟩, fun q2 => ⟨by decide, fun H hH => ?_⟩⟩⟩
    · have f : y_fr G H [] [167] := y_st (y_mo (y_rf e.1) rfl rfl) hH (by repeat (first | exact w_nil | refine w_cons (Or.inl (y_m rfl)) ?_ | refine w_cons (Or.inr (by assumption)) ?_)) (by repeat (first | exact w_nil | refine w_cons (Or.inl (y_m rfl)) ?_ | refine w_cons (Or.inr (by assumption)) ?_))
      have A := hH.2.2.1 167 _ rfl
      rw [c3] at A
      exact no H q o _ _ _ _ (y_sq e f rfl rfl) (y_rs_nu rs f A) (y_rt_tr rt (y_rt_nu (by omega) (by omega)))
    · have f : y_fr G H [] [167] := y_st (y_mo (y_rf e.1) rfl rfl) hH (by repeat (first | exact w_nil | refine w_cons (Or.inl (y_m rfl)) ?_ | refine w_cons (Or.inr (by assumption)) ?_)) (by repeat (first | exact w_nil | refine w_cons (Or.inl (y_m rfl)) ?_ | refine w_cons (Or.inr (by assumption)) ?_))
      have A := hH.2.2.1 167 _ rfl
      rw [c3] at A
      have q3 : ¬ (((nu'.set (Int32.ofInt 2 * kI + Int32.ofInt 1).toNatClampNeg r).getD (Int32.ofInt 2 * kI + Int32.ofInt 1).toNatClampNeg 0).toInt ≤ (Int64.ofNat 0).toInt) := y_clf q2
      rw [c3, y_gset (by omega), if_pos rfl, show (Int64.ofNat 0).toInt = 0 by decide] at q3
      refine yes H q _ _ _ _ (y_sq e f rfl rfl) (y_rs_nu rs f A) (y_rt_tr rt (y_rt_nu (by omega) (by omega))) ⟨fun _ => ?_, fun q4 => absurd hk0 q4, fun q4 => ?_⟩
      · rw [y_Nlset (by omega), y_Nlset (by omega), if_pos rfl, if_neg (by omega)]
        exact ⟨hn0, by omega⟩
      · rw [hk0] at q4
        omega
  have T42y : ∀ {G : aH} {q : Nat} {kd' : List Int32} {nu' : List Int64} {be' fi' : List Int32}, y_fr h G [19613, 19615] [166, 167, 168, 169] → y_rs G tp t q o i kd' nu' be' fi' → y_rt (2 * i + sd) kd kd' nu nu' be be' fi fi' → y_N kd' (2 * i + sd) = 0 → -1 ≤ y_Nl nu' (2 * (2 * i + sd)) → aOK s_P X (d + 167) a_m223 42 [some (.ref 155), some (.int sI), some (.int kI)] [.int (Int32.ofInt 1)] G C S K0 := by
    intro G q kd' nu' be' fi' e rs rt hk0 hn0
    refine w_go z_hl [] [225] 40 e.1 ?_
    refine ⟨fun _ => fun H hH => ?_, fun q => absurd q (by decide)⟩
    have f : y_fr G H [] [] := y_st (y_rf e.1) hH (by repeat (first | exact w_nil | refine w_cons (Or.inl (y_m rfl)) ?_ | refine w_cons (Or.inr (by assumption)) ?_)) (by repeat (first | exact w_nil | refine w_cons (Or.inl (y_m rfl)) ?_ | refine w_cons (Or.inr (by assumption)) ?_))
    have rs2 := y_rs_fr rs f
    refine y_digits rs2.1 (fun H2 q2 r f2 ps2 _ _ => ⟨fun n e => (by cases e), ?_⟩)
    exact T61 (y_sq (y_sq e f rfl rfl) f2 rfl rfl) (y_rs_ps rs2 (y_mo f2 rfl rfl) ps2) rt hk0 hn0
  have T42n : ∀ {G : aH} {q : Nat} {kd' : List Int32} {nu' : List Int64} {be' fi' : List Int32}, y_fr h G [19613, 19615] [166, 167, 168, 169] → y_rs G tp t q o i kd' nu' be' fi' → y_rt (2 * i + sd) kd kd' nu nu' be be' fi fi' → aOK s_P X (d + 167) a_m223 42 [some (.ref 155), some (.int sI), some (.int kI)] [.int (Int32.ofInt 0)] G C S K0 := by
    intro G q kd' nu' be' fi' e rs rt
    refine w_go z_hl [] [] 40 e.1 ?_
    refine ⟨fun q => absurd q (by decide), fun _ => ⟨by decide, fun H hH => ?_⟩⟩
    have f : y_fr G H [] [] := y_st (y_rf e.1) hH (by repeat (first | exact w_nil | refine w_cons (Or.inl (y_m rfl)) ?_ | refine w_cons (Or.inr (by assumption)) ?_)) (by repeat (first | exact w_nil | refine w_cons (Or.inl (y_m rfl)) ?_ | refine w_cons (Or.inr (by assumption)) ?_))
    exact no H q o _ _ _ _ (y_sq e f rfl rfl) (y_rs_fr rs f) rt
  have T35 : ∀ {G : aH} {q : Nat} {kd' : List Int32} {r : Int64}, y_fr h G [19613, 19615] [166] → y_rs G tp t q o i kd' nu be fi → y_rt (2 * i + sd) kd kd' nu nu be be fi fi → y_N kd' (2 * i + sd) = 0 → -1 ≤ r.toInt → aOK s_P X (d + 167) a_m223 35 [some (.ref 155), some (.int sI), some (.int kI)] [.long r, .int (Int32.ofInt 2 * kI), .ref 169] G C S K0 := by
    intro G q kd' r e rs rt hk0 hr0
    refine w_go z_hl [] [226] 40 e.1 ?_
    refine ⟨b2, y_l64 r, fun l hl len bb => fun H hH => ?_⟩
    obtain rfl := y_al rs.2.2.2.2.1 hl
    have f : y_fr G H [] [167] := y_st (y_mo (y_rf e.1) rfl rfl) hH (by repeat (first | exact w_nil | refine w_cons (Or.inl (y_m rfl)) ?_ | refine w_cons (Or.inr (by assumption)) ?_)) (by repeat (first | exact w_nil | refine w_cons (Or.inl (y_m rfl)) ?_ | refine w_cons (Or.inr (by assumption)) ?_))
    have A := hH.2.2.1 167 _ rfl
    rw [c2] at A
    have e2 : y_fr h H [19613, 19615] [166, 167, 168, 169] := y_sq (y_mo e rfl rfl) f rfl rfl
    have rs2 := y_rs_nu rs f A
    have rt2 := y_rt_tr rt (y_rt_nu (x := r) (m := 2 * (2 * i + sd)) (kd := kd') (nu := nu) (be := be) (fi := fi) (by omega) (by omega))
    have n2 : -1 ≤ y_Nl (nu.set (2 * (2 * i + sd)) r) (2 * (2 * i + sd)) := by
      rw [y_Nlset (by omega), if_pos rfl]
      exact hr0
    refine y_comes rs2.1 (fun H2 f2 ps2 _ _ => ⟨fun n e => (by cases e), ?_⟩) (fun H2 f2 ps2 _ => ⟨fun n e => (by cases e), ?_⟩)
    · exact T42y (y_sq e2 f2 rfl rfl) (y_rs_ps rs2 (y_mo f2 rfl rfl) ps2) rt2 hk0 n2
    · exact T42n (y_sq e2 f2 rfl rfl) (y_rs_ps rs2 (y_mo f2 rfl rfl) ps2) rt2
  have T13y : ∀ {G : aH}, y_fr h G [] [] → aOK s_P X (d + 167) a_m223 13 [some (.ref 155), some (.int sI), some (.int kI)] [.int (Int32.ofInt 1)] G C S K0 := by
    intro G e
    have rs := y_rs_fr s e
    refine w_go z_hl [] [225] 40 e.1 ?_
    refine ⟨fun q => absurd q (by decide), fun _ => ⟨b1, by decide, fun l hl len bb => fun H hH => ?_⟩⟩
    obtain rfl := y_ai rs.2.2.2.1 hl
    have f : y_fr G H [] [166] := y_st (y_mo (y_rf e.1) rfl rfl) hH (by repeat (first | exact w_nil | refine w_cons (Or.inl (y_m rfl)) ?_ | refine w_cons (Or.inr (by assumption)) ?_)) (by repeat (first | exact w_nil | refine w_cons (Or.inl (y_m rfl)) ?_ | refine w_cons (Or.inr (by assumption)) ?_))
    have A := hH.2.2.1 166 _ rfl
    rw [ck] at A
    have e2 : y_fr h H [19613, 19615] [166] := y_sq (y_mo e rfl rfl) f rfl rfl
    have rs2 := y_rs_kd rs f A
    refine y_digits rs2.1 (fun H2 q2 r f2 ps2 r0 _ => ⟨fun n e => (by cases e), ?_⟩)
    exact T35 (y_sq e2 f2 rfl rfl) (y_rs_ps rs2 (y_mo f2 rfl rfl) ps2) (y_rt_kd (by omega)) (by rw [y_Nset (by omega), if_pos rfl]; decide) r0
  have T123y : ∀ {G : aH} {q : Nat} {kd' : List Int32} {nu' : List Int64} {be' fi' : List Int32}, y_fr h G [19613, 19615] [166, 167, 168, 169] → y_rs G tp t q o i kd' nu' be' fi' → y_rt (2 * i + sd) kd kd' nu nu' be be' fi fi' → y_tm (y_N tp) t (2 * i + sd) kd' nu' be' fi' → aOK s_P X (d + 167) a_m223 123 [some (.ref 155), some (.int sI), some (.int kI)] [.int (Int32.ofInt 1)] G C S K0 := by
    intro G q kd' nu' be' fi' e rs rt tm
    refine w_go z_hl [] [] 40 e.1 ?_
    refine ⟨by decide, fun H hH => ?_⟩
    have f : y_fr G H [] [] := y_st (y_rf e.1) hH (by repeat (first | exact w_nil | refine w_cons (Or.inl (y_m rfl)) ?_ | refine w_cons (Or.inr (by assumption)) ?_)) (by repeat (first | exact w_nil | refine w_cons (Or.inl (y_m rfl)) ?_ | refine w_cons (Or.inr (by assumption)) ?_))
    exact yes H q _ _ _ _ (y_sq e f rfl rfl) (y_rs_fr rs f) rt tm
  have T123n : ∀ {G : aH} {q : Nat} {o' : Int} {kd' : List Int32} {nu' : List Int64} {be' fi' : List Int32}, y_fr h G [19613, 19615] [166, 167, 168, 169] → y_rs G tp t q o' i kd' nu' be' fi' → y_rt (2 * i + sd) kd kd' nu nu' be be' fi fi' → aOK s_P X (d + 167) a_m223 123 [some (.ref 155), some (.int sI), some (.int kI)] [.int (Int32.ofInt 0)] G C S K0 := by
    intro G q o' kd' nu' be' fi' e rs rt
    refine w_go z_hl [] [] 40 e.1 ?_
    refine ⟨by decide, fun H hH => ?_⟩
    have f : y_fr G H [] [] := y_st (y_rf e.1) hH (by repeat (first | exact w_nil | refine w_cons (Or.inl (y_m rfl)) ?_ | refine w_cons (Or.inr (by assumption)) ?_)) (by repeat (first | exact w_nil | refine w_cons (Or.inl (y_m rfl)) ?_ | refine w_cons (Or.inr (by assumption)) ?_))
    exact no H q o' _ _ _ _ (y_sq e f rfl rfl) (y_rs_fr rs f) rt
  have T107n : ∀ {G : aH} {q : Nat} {kd' : List Int32} {nu' : List Int64} {be' fi' : List Int32}, y_fr h G [19613, 19615] [166, 167, 168, 169] → y_rs G tp t q o i kd' nu' be' fi' → y_rt (2 * i + sd) kd kd' nu nu' be be' fi fi' → y_tm (y_N tp) t (2 * i + sd) kd' nu' be' fi' → aOK s_P X (d + 167) a_m223 107 [some (.ref 155), some (.int sI), some (.int kI)] [.int (Int32.ofInt 0)] G C S K0 := by
    intro G q kd' nu' be' fi' e rs rt tm
    refine w_go z_hl [] [] 40 e.1 ?_
    refine ⟨fun _ => ⟨by decide, fun H hH => ?_⟩, fun q => absurd q (by decide)⟩
    have f : y_fr G H [] [] := y_st (y_rf e.1) hH (by repeat (first | exact w_nil | refine w_cons (Or.inl (y_m rfl)) ?_ | refine w_cons (Or.inr (by assumption)) ?_)) (by repeat (first | exact w_nil | refine w_cons (Or.inl (y_m rfl)) ?_ | refine w_cons (Or.inr (by assumption)) ?_))
    exact yes H q _ _ _ _ (y_sq e f rfl rfl) (y_rs_fr rs f) rt tm
  have T107y : ∀ {G : aH} {q : Nat} {kd' : List Int32} {nu' : List Int64} {be' fi' : List Int32}, y_fr h G [19613, 19615] [166, 167, 168, 169] → y_rs G tp t q o i kd' nu' be' fi' → y_rt (2 * i + sd) kd kd' nu nu' be be' fi fi' → y_ok1 (y_N tp) t (y_N be' (2 * (2 * i + sd))) (y_N fi' (2 * (2 * i + sd))) → aOK s_P X (d + 167) a_m223 107 [some (.ref 155), some (.int sI), some (.int kI)] [.int (Int32.ofInt 1)] G C S K0 := by
    intro G q kd' nu' be' fi' e rs rt ok
    obtain ⟨-, -, -, -, -, -, lk', ln', lb', lf'⟩ := y_rs_hr rs
    refine w_go z_hl [] [228] 40 e.1 ?_
    refine ⟨fun q => absurd q (by decide), fun _ => ⟨b1, by decide, fun l hl len bb => fun H hH => ?_⟩⟩
    obtain rfl := y_ai rs.2.2.2.1 hl
    have f : y_fr G H [] [166] := y_st (y_mo (y_rf e.1) rfl rfl) hH (by repeat (first | exact w_nil | refine w_cons (Or.inl (y_m rfl)) ?_ | refine w_cons (Or.inr (by assumption)) ?_)) (by repeat (first | exact w_nil | refine w_cons (Or.inl (y_m rfl)) ?_ | refine w_cons (Or.inr (by assumption)) ?_))
    have A := hH.2.2.1 166 _ rfl
    rw [ck] at A
    have e2 : y_fr h H [19613, 19615] [166, 167, 168, 169] := y_sq e f rfl rfl
    have rs2 := y_rs_kd rs f A
    have rt2 : y_rt (2 * i + sd) kd (kd'.set (2 * i + sd) (Int32.ofInt 2)) nu nu' be be' fi fi' := y_rt_tr rt (y_rt_kd (by omega))
    refine y_notes (g := 1) rs2 hs hs2 (by decide) (by decide) (fun H2 q2 be2 fi2 f2 rs3 rt3 same ok2 => ⟨fun n e => (by cases e), ?_⟩) (fun H2 q2 o2 be2 fi2 f2 rs3 rt3 => ⟨fun n e => (by cases e), ?_⟩)
    · refine T123y (y_sq e2 f2 rfl rfl) rs3 (y_rt_tr rt2 rt3) ?_
      have kk : y_N (kd'.set (2 * i + sd) (Int32.ofInt 2)) (2 * i + sd) = 2 := by
        rw [y_Nset (by omega), if_pos rfl]
        decide
      refine ⟨fun q4 => ?_, fun _ => ?_, fun _ => ?_⟩
      · rw [kk] at q4
        omega
      · rw [(same (2 * (2 * i + sd)) (by omega)).1, (same (2 * (2 * i + sd)) (by omega)).2]
        exact ok
      · rw [show 2 * (2 * i + sd) + 1 = 4 * i + 2 * sd + 1 by omega]
        exact ok2
    · exact T123n (y_sq e2 f2 rfl rfl) rs3 (y_rt_tr rt2 rt3)
  have T96n : ∀ {G : aH} {q : Nat} {o' : Int} {kd' : List Int32} {nu' : List Int64} {be' fi' : List Int32}, y_fr h G [19613, 19615] [166, 167, 168, 169] → y_rs G tp t q o' i kd' nu' be' fi' → y_rt (2 * i + sd) kd kd' nu nu' be be' fi fi' → aOK s_P X (d + 167) a_m223 96 [some (.ref 155), some (.int sI), some (.int kI)] [.int (Int32.ofInt 0)] G C S K0 := by
    intro G q o' kd' nu' be' fi' e rs rt
    refine w_go z_hl [] [] 40 e.1 ?_
    refine ⟨fun q => absurd q (by decide), fun _ => ⟨by decide, fun H hH => ?_⟩⟩
    have f : y_fr G H [] [] := y_st (y_rf e.1) hH (by repeat (first | exact w_nil | refine w_cons (Or.inl (y_m rfl)) ?_ | refine w_cons (Or.inr (by assumption)) ?_)) (by repeat (first | exact w_nil | refine w_cons (Or.inl (y_m rfl)) ?_ | refine w_cons (Or.inr (by assumption)) ?_))
    exact no H q o' _ _ _ _ (y_sq e f rfl rfl) (y_rs_fr rs f) rt
  have T96y : ∀ {G : aH} {q : Nat} {kd' : List Int32} {nu' : List Int64} {be' fi' : List Int32}, y_fr h G [19613, 19615] [166, 167, 168, 169] → y_rs G tp t q o i kd' nu' be' fi' → y_rt (2 * i + sd) kd kd' nu nu' be be' fi fi' → y_N kd' (2 * i + sd) = 1 → y_ok1 (y_N tp) t (y_N be' (2 * (2 * i + sd))) (y_N fi' (2 * (2 * i + sd))) → aOK s_P X (d + 167) a_m223 96 [some (.ref 155), some (.int sI), some (.int kI)] [.int (Int32.ofInt 1)] G C S K0 := by
    intro G q kd' nu' be' fi' e rs rt hk1 ok
    refine w_go z_hl [] [226] 40 e.1 ?_
    refine ⟨fun _ => fun H hH => ?_, fun q => absurd q (by decide)⟩
    have f : y_fr G H [] [] := y_st (y_rf e.1) hH (by repeat (first | exact w_nil | refine w_cons (Or.inl (y_m rfl)) ?_ | refine w_cons (Or.inr (by assumption)) ?_)) (by repeat (first | exact w_nil | refine w_cons (Or.inl (y_m rfl)) ?_ | refine w_cons (Or.inr (by assumption)) ?_))
    have rs2 := y_rs_fr rs f
    refine y_comes rs2.1 (fun H2 f2 ps2 _ _ => ⟨fun n e => (by cases e), ?_⟩) (fun H2 f2 ps2 _ => ⟨fun n e => (by cases e), ?_⟩)
    · exact T107y (y_sq (y_sq e f rfl rfl) f2 rfl rfl) (y_rs_ps rs2 (y_mo f2 rfl rfl) ps2) rt ok
    · exact T107n (y_sq (y_sq e f rfl rfl) f2 rfl rfl) (y_rs_ps rs2 (y_mo f2 rfl rfl) ps2) rt ⟨fun q => by omega, fun _ => ok, fun q => by omega⟩
  have T13n : ∀ {G : aH}, y_fr h G [] [] → aOK s_P X (d + 167) a_m223 13 [some (.ref 155), some (.int sI), some (.int kI)] [.int (Int32.ofInt 0)] G C S K0 := by
    intro G e
    have rs := y_rs_fr s e
    refine w_go z_hl [] [228] 40 e.1 ?_
    refine ⟨fun _ => ⟨b1, by decide, fun l hl len bb => fun H hH => ?_⟩, fun q => absurd q (by decide)⟩
    obtain rfl := y_ai rs.2.2.2.1 hl
    have f : y_fr G H [] [166] := y_st (y_mo (y_rf e.1) rfl rfl) hH (by repeat (first | exact w_nil | refine w_cons (Or.inl (y_m rfl)) ?_ | refine w_cons (Or.inr (by assumption)) ?_)) (by repeat (first | exact w_nil | refine w_cons (Or.inl (y_m rfl)) ?_ | refine w_cons (Or.inr (by assumption)) ?_))
    have A := hH.2.2.1 166 _ rfl
    rw [ck] at A
    have e2 : y_fr h H [19613, 19615] [166, 167, 168, 169] := y_sq (y_mo e rfl rfl) f rfl rfl
    have rs2 := y_rs_kd rs f A
    have rt2 : y_rt (2 * i + sd) kd (kd.set (2 * i + sd) (Int32.ofInt 1)) nu nu be be fi fi := y_rt_kd (by omega)
    refine y_notes (g := 0) rs2 hs hs2 (by decide) (by decide) (fun H2 q2 be2 fi2 f2 rs3 rt3 same ok2 => ⟨fun n e => (by cases e), ?_⟩) (fun H2 q2 o2 be2 fi2 f2 rs3 rt3 => ⟨fun n e => (by cases e), ?_⟩)
    · refine T96y (y_sq e2 f2 rfl rfl) rs3 (y_rt_tr rt2 rt3) (by rw [y_Nset (by omega), if_pos rfl]; decide) ?_
      rw [show 2 * (2 * i + sd) = 4 * i + 2 * sd + 0 by omega]
      exact ok2
    · exact T96n (y_sq e2 f2 rfl rfl) rs3 (y_rt_tr rt2 rt3)
  refine w_go z_hl [] [224] 40 hr ?_
  intro x hx _ _
  obtain rfl := y_fi s2 hx
  intro H hH
  have f : y_fr h H [] [] := y_st (y_rf hr) hH (by repeat (first | exact w_nil | refine w_cons (Or.inl (y_m rfl)) ?_ | refine w_cons (Or.inr (by assumption)) ?_)) (by repeat (first | exact w_nil | refine w_cons (Or.inl (y_m rfl)) ?_ | refine w_cons (Or.inr (by assumption)) ?_))
  refine y_isDigit (y_ps_fr s1 f rfl rfl) (fun H2 e2 hp c1 c2 => ⟨fun n e => (by cases e), ?_⟩) (fun H2 e2 => ⟨fun n e => (by cases e), ?_⟩)
  · have := T13y (y_sq f e2 rfl rfl)
    rw [← hkI] at this
    exact this
  · have := T13n (y_sq f e2 rfl rfl)
    rw [← hkI] at this
    exact this
end WG
end PT29d
section PT29e
/-! ===== v3: the reference's readsSaying ===== -/
theorem y_l32 (x : Int32) : -2147483648 ≤ x.toInt ∧ x.toInt ≤ 2147483647 := ⟨x.le_toInt, by have := x.toInt_lt; omega⟩
def y_rw (i : Nat) (kd kd' : List Int32) (nu nu' : List Int64) (be be' fi fi' : List Int32) : Prop := (∀ j, j / 2 ≠ i → y_N kd' j = y_N kd j) ∧ (∀ j, j / 4 ≠ i → y_Nl nu' j = y_Nl nu j) ∧ (∀ j, j / 4 ≠ i → y_N be' j = y_N be j) ∧ ∀ j, j / 4 ≠ i → y_N fi' j = y_N fi j
theorem y_rw_rt {i sd : Nat} {kd kd' be be' fi fi' : List Int32} {nu nu' : List Int64} (hs : sd < 2) (a : y_rt (2 * i + sd) kd kd' nu nu' be be' fi fi') : y_rw i kd kd' nu nu' be be' fi fi' := ⟨fun j hj => a.1 j (by omega), fun j hj => a.2.1 j (by omega), fun j hj => a.2.2.1 j (by omega), fun j hj => a.2.2.2 j (by omega)⟩
theorem y_rw_tr {i : Nat} {kd kd' kd'' be be' be'' fi fi' fi'' : List Int32} {nu nu' nu'' : List Int64} (a : y_rw i kd kd' nu nu' be be' fi fi') (b : y_rw i kd' kd'' nu' nu'' be' be'' fi' fi'') : y_rw i kd kd'' nu nu'' be be'' fi fi'' := ⟨fun j hj => (b.1 j hj).trans (a.1 j hj), fun j hj => (b.2.1 j hj).trans (a.2.1 j hj), fun j hj => (b.2.2.1 j hj).trans (a.2.2.1 j hj), fun j hj => (b.2.2.2 j hj).trans (a.2.2.2 j hj)⟩
theorem y_tm_rw {T : Nat → Int} {t k i : Nat} {kd kd' be be' fi fi' : List Int32} {nu nu' : List Int64} (h : y_tm T t k kd nu be fi) (r : y_rw i kd kd' nu nu' be be' fi fi') (hne : k / 2 ≠ i) : y_tm T t k kd' nu' be' fi' := by
  obtain ⟨r1, r2, r3, r4⟩ := r
  unfold y_tm
  rw [r1 k hne, r2 (2 * k) (by omega), r2 (2 * k + 1) (by omega), r3 (2 * k) (by omega), r3 (2 * k + 1) (by omega), r4 (2 * k) (by omega), r4 (2 * k + 1) (by omega)]
  exact h
section WG
variable {X : aX} {C S d : Nat} {K0 : Option Value → aH → Nat → Nat → Prop} {h : aH} {tp : List Int32} {t p : Nat} {o : Int} {i : Nat} {kd : List Int32} {nu : List Int64} {be fi ac : List Int32}
theorem y_rs_ac {H : aH} (s : y_rs h tp t p o i kd nu be fi) (e : y_fr h H [] [165]) : y_rs H tp t p o i kd nu be fi := by
  obtain ⟨s1, ⟨iI, s2, s3⟩, s4, s5, s6, s7, s8⟩ := s
  exact ⟨y_ps_fr s1 e rfl rfl, ⟨iI, (y_fe e rfl).trans s2, s3⟩, s4, (y_ae e rfl).trans s5, (y_ae e rfl).trans s6, (y_ae e rfl).trans s7, (y_ae e rfl).trans s8⟩
/-- on the way through a saying -/
def y_sg (h G : aH) (tp : List Int32) (t q : Nat) (o : Int) (i : Nat) (kd : List Int32) (nu : List Int64) (be fi ac kd' : List Int32) (nu' : List Int64) (be' fi' ac' : List Int32) : Prop := y_fr h G [19613, 19615] [165, 166, 167, 168, 169] ∧ y_rs G tp t q o i kd' nu' be' fi' ∧ y_rw i kd kd' nu nu' be be' fi fi' ∧ w_a G 165 = some (0, .inl ac') ∧ ac'.length = 13 ∧ ∀ j, j ≠ i → y_N ac' j = y_N ac j
theorem y_sg_fr {G H : aH} {q : Nat} {kd' be' fi' ac' : List Int32} {nu' : List Int64} (s : y_sg h G tp t q o i kd nu be fi ac kd' nu' be' fi' ac') (f : y_fr G H [] []) : y_sg h H tp t q o i kd nu be fi ac kd' nu' be' fi' ac' := ⟨y_sq s.1 f rfl rfl, y_rs_fr s.2.1 f, s.2.2.1, (y_ae f rfl).trans s.2.2.2.1, s.2.2.2.2⟩
theorem y_sg_ps {G H : aH} {q q' : Nat} {o' : Int} {kd' be' fi' ac' : List Int32} {nu' : List Int64} (s : y_sg h G tp t q o i kd nu be fi ac kd' nu' be' fi' ac') (f : y_fr G H [19613, 19615] []) (ps : y_ps H tp t q' o') : y_sg h H tp t q' o' i kd nu be fi ac kd' nu' be' fi' ac' := ⟨y_sq s.1 f rfl rfl, y_rs_ps s.2.1 f ps, s.2.2.1, (y_ae f rfl).trans s.2.2.2.1, s.2.2.2.2⟩
theorem y_sg_nt {G H : aH} {q q' : Nat} {o' : Int} {kd' be' fi' ac' be2 fi2 : List Int32} {nu' : List Int64} {sd : Nat} (hs : sd < 2) (s : y_sg h G tp t q o i kd nu be fi ac kd' nu' be' fi' ac') (f : y_fr G H [19613, 19615] [168, 169]) (rs : y_rs H tp t q' o' i kd' nu' be2 fi2) (rt : y_rt (2 * i + sd) kd' kd' nu' nu' be' be2 fi' fi2) : y_sg h H tp t q' o' i kd nu be fi ac kd' nu' be2 fi2 ac' := ⟨y_sq s.1 f rfl rfl, rs, y_rw_tr s.2.2.1 (y_rw_rt hs rt), (y_ae f rfl).trans s.2.2.2.1, s.2.2.2.2⟩
theorem y_sg_tm {G H : aH} {q q' : Nat} {o' : Int} {kd' be' fi' ac' kd2 be2 fi2 : List Int32} {nu' nu2 : List Int64} {sd : Nat} (hs : sd < 2) (s : y_sg h G tp t q o i kd nu be fi ac kd' nu' be' fi' ac') (f : y_fr G H [19613, 19615] [166, 167, 168, 169]) (rs : y_rs H tp t q' o' i kd2 nu2 be2 fi2) (rt : y_rt (2 * i + sd) kd' kd2 nu' nu2 be' be2 fi' fi2) : y_sg h H tp t q' o' i kd nu be fi ac kd2 nu2 be2 fi2 ac' := ⟨y_sq s.1 f rfl rfl, rs, y_rw_tr s.2.2.1 (y_rw_rt hs rt), (y_ae f rfl).trans s.2.2.2.1, s.2.2.2.2⟩
theorem y_readsSaying (s : y_rs h tp t p o i kd nu be fi) (hac : w_a h 165 = some (0, .inl ac))
    (yes : ∀ (H : aH) (q : Nat) (kd' : List Int32) (nu' : List Int64) (be' fi' ac' : List Int32), y_sg h H tp t q o i kd nu be fi ac kd' nu' be' fi' ac' → y_tm (y_N tp) t (2 * i) kd' nu' be' fi' → y_tm (y_N tp) t (2 * i + 1) kd' nu' be' fi' → (y_N ac' i = 126 → y_N kd' (2 * i) ≠ 0 ∧ y_N kd' (2 * i + 1) ≠ 0) → K0 (some (.int (Int32.ofInt 1))) H C S)
    (no : ∀ (H : aH) (q : Nat) (o' : Int) (kd' : List Int32) (nu' : List Int64) (be' fi' ac' : List Int32), y_sg h H tp t q o' i kd nu be fi ac kd' nu' be' fi' ac' → K0 (some (.int (Int32.ofInt 0))) H C S) :
    aOK s_P X (d + 168) a_m222 0 [some (.ref 155)] [] h C S K0 := by
  obtain ⟨hr, pt, t40, o0, o5, i11, lk, ln, lb, lf⟩ := y_rs_hr s
  obtain ⟨s1, ⟨iI, s2, s3⟩, s4, s5, s6, s7, s8⟩ := id s
  have ci := y_cl1 s3
  have h2i : (Int32.ofInt 2 * iI).toInt = ((2 * i : Nat) : Int) := y_mulS (m := 2) _ (by decide) s3 rfl (by omega)
  have h2i1 : (Int32.ofInt 2 * iI + Int32.ofInt 1).toInt = ((2 * i + 1 : Nat) : Int) := y_addS _ h2i (n := 1) (by decide) rfl (by omega)
  have c2 := y_cl1 h2i
  have c21 := y_cl1 h2i1
  have b0 : 0 ≤ iI.toInt ∧ iI.toInt < ((13 : Nat) : Int) := by omega
  have b2 : 0 ≤ (Int32.ofInt 2 * iI).toInt ∧ (Int32.ofInt 2 * iI).toInt < ((26 : Nat) : Int) := by omega
  have b21 : 0 ≤ (Int32.ofInt 2 * iI + Int32.ofInt 1).toInt ∧ (Int32.ofInt 2 * iI + Int32.ofInt 1).toInt < ((26 : Nat) : Int) := by omega
  -- ends
  have Y : ∀ {G : aH} {pc q : Nat} {kd' : List Int32} {nu' : List Int64} {be' fi' ac' : List Int32}, (pc = 99 ∨ pc = 164) → y_sg h G tp t q o i kd nu be fi ac kd' nu' be' fi' ac' → y_tm (y_N tp) t (2 * i) kd' nu' be' fi' → y_tm (y_N tp) t (2 * i + 1) kd' nu' be' fi' → (y_N ac' i = 126 → y_N kd' (2 * i) ≠ 0 ∧ y_N kd' (2 * i + 1) ≠ 0) → aOK s_P X (d + 168) a_m222 pc [some (.ref 155)] [.int (Int32.ofInt 1)] G C S K0 := by
    intro G pc q kd' nu' be' fi' ac' hpc sg t0 t1 ha
    rcases hpc with rfl | rfl
    · refine w_go z_hl [] [] 40 sg.1.1 ?_
      refine ⟨by decide, fun H hH => ?_⟩
      exact yes H q _ _ _ _ _ (y_sg_fr sg (y_st (y_rf sg.1.1) hH (by repeat (first | exact w_nil | refine w_cons (Or.inl (y_m rfl)) ?_ | refine w_cons (Or.inr (by assumption)) ?_)) (by repeat (first | exact w_nil | refine w_cons (Or.inl (y_m rfl)) ?_ | refine w_cons (Or.inr (by assumption)) ?_)))) t0 t1 ha
    · refine w_go z_hl [] [] 40 sg.1.1 ?_
      refine ⟨by decide, fun H hH => ?_⟩
      exact yes H q _ _ _ _ _ (y_sg_fr sg (y_st (y_rf sg.1.1) hH (by repeat (first | exact w_nil | refine w_cons (Or.inl (y_m rfl)) ?_ | refine w_cons (Or.inr (by assumption)) ?_)) (by repeat (first | exact w_nil | refine w_cons (Or.inl (y_m rfl)) ?_ | refine w_cons (Or.inr (by assumption)) ?_)))) t0 t1 ha
  have N : ∀ {G : aH} {pc q : Nat} {o' : Int} {kd' : List Int32} {nu' : List Int64} {be' fi' ac' : List Int32}, (pc = 99 ∨ pc = 164) → y_sg h G tp t q o' i kd nu be fi ac kd' nu' be' fi' ac' → aOK s_P X (d + 168) a_m222 pc [some (.ref 155)] [.int (Int32.ofInt 0)] G C S K0 := by
    intro G pc q o' kd' nu' be' fi' ac' hpc sg
    rcases hpc with rfl | rfl
    · refine w_go z_hl [] [] 40 sg.1.1 ?_
      refine ⟨by decide, fun H hH => ?_⟩
      exact no H q o' _ _ _ _ _ (y_sg_fr sg (y_st (y_rf sg.1.1) hH (by repeat (first | exact w_nil | refine w_cons (Or.inl (y_m rfl)) ?_ | refine w_cons (Or.inr (by assumption)) ?_)) (by repeat (first | exact w_nil | refine w_cons (Or.inl (y_m rfl)) ?_ | refine w_cons (Or.inr (by assumption)) ?_))))
    · refine w_go z_hl [] [] 40 sg.1.1 ?_
      refine ⟨by decide, fun H hH => ?_⟩
      exact no H q o' _ _ _ _ _ (y_sg_fr sg (y_st (y_rf sg.1.1) hH (by repeat (first | exact w_nil | refine w_cons (Or.inl (y_m rfl)) ?_ | refine w_cons (Or.inr (by assumption)) ?_)) (by repeat (first | exact w_nil | refine w_cons (Or.inl (y_m rfl)) ?_ | refine w_cons (Or.inr (by assumption)) ?_))))
  have iAt : ∀ {G : aH} {q : Nat} {o' : Int} {kd' : List Int32} {nu' : List Int64} {be' fi' ac' : List Int32}, y_sg h G tp t q o' i kd nu be fi ac kd' nu' be' fi' ac' → w_f G 19610 = some (.int iI) := by
    intro G q o' kd' nu' be' fi' ac' sg
    exact (y_fe sg.1 rfl).trans s2
  -- a sign of comparing
  have T131 : ∀ {G : aH} {q : Nat} {kd' : List Int32} {nu' : List Int64} {be' fi' ac' : List Int32}, y_sg h G tp t q o i kd nu be fi ac kd' nu' be' fi' ac' → y_tm (y_N tp) t (2 * i) kd' nu' be' fi' → q < t → y_N tp q ≠ 126 → aOK s_P X (d + 168) a_m222 131 [some (.ref 155)] [] G C S K0 := by
    intro G q kd' nu' be' fi' ac' sg t0 hq h126
    obtain ⟨sg1, sg2, sg3, sg4, sg5, sg6⟩ := id sg
    obtain ⟨toI, atI, opI, nd, hr', a1, a2, a3, a4, a5, a6, a7, a8, pt', -, o0', o5'⟩ := id sg2.1
    have ac' := y_cl1 a5
    have inc : (atI + Int32.ofInt 1).toInt = ((q + 1 : Nat) : Int) := by rw [y_inc (by omega), a5]; rfl
    refine w_go z_hl [] [223] 60 hr' ?_
    intro x hx _ _
    obtain rfl := y_fi (iAt sg) hx
    intro y hy _ _
    obtain rfl := y_fi a4 hy
    refine ⟨⟨by omega, by omega⟩, fun l hl len bb => ?_⟩
    obtain rfl := y_ai a1 hl
    refine ⟨b0, y_l32 _, fun l2 hl2 len2 bb2 => ?_⟩
    obtain rfl := y_ai sg4 hl2
    refine ⟨rfl, y_zini (by show 0 ≤ (atI + Int32.ofInt 1).toInt; omega) (by show (atI + Int32.ofInt 1).toInt ≤ 40; omega), ?_⟩
    intro H hH
    have f : y_fr G H [19613] [165] := y_st (y_mo (y_rf hr') rfl rfl) hH (by repeat (first | exact w_nil | refine w_cons (Or.inl (y_m rfl)) ?_ | refine w_cons (Or.inr (by assumption)) ?_)) (by repeat (first | exact w_nil | refine w_cons (Or.inl (y_m rfl)) ?_ | refine w_cons (Or.inr (by assumption)) ?_))
    have A := hH.2.2.1 165 _ rfl
    rw [ci] at A
    have e2 : y_fr h H [19613, 19615] [165, 166, 167, 168, 169] := y_sq sg1 f rfl rfl
    have ps2 : y_ps H tp t (q + 1) o := ⟨toI, _, opI, nd, f.1, (y_ae f rfl).trans a1, (y_fe f rfl).trans a2, a3, hH.2.1 19613 _ rfl, inc, (y_fe f rfl).trans a6, a7, (y_fe f rfl).trans a8, by omega, t40, o0, o5⟩
    obtain ⟨r1, ⟨jI, r2, r3⟩, r4, r5, r6, r7, r8⟩ := sg2
    have rs2 : y_rs H tp t (q + 1) o i kd' nu' be' fi' := ⟨ps2, ⟨jI, (y_fe f rfl).trans r2, r3⟩, r4, (y_ae f rfl).trans r5, (y_ae f rfl).trans r6, (y_ae f rfl).trans r7, (y_ae f rfl).trans r8⟩
    have sg' : y_sg h H tp t (q + 1) o i kd nu be fi ac kd' nu' be' fi' _ := ⟨e2, rs2, sg3, A, by rw [List.length_set]; exact sg5, fun j hj => by rw [y_Nset (by omega), if_neg hj]; exact sg6 j hj⟩
    refine y_readsTerm (sd := 1) rs2 (by decide) (by decide) (fun H2 q2 kd2 nu2 be2 fi2 f2 rs3 rt3 tm3 => ⟨fun n e => (by cases e), ?_⟩) (fun H2 q2 o2 kd2 nu2 be2 fi2 f2 rs3 rt3 => ⟨fun n e => (by cases e), ?_⟩)
    · refine Y (Or.inr rfl) (y_sg_tm (sd := 1) (by decide) sg' f2 rs3 rt3) (y_tm_rt t0 rt3 (by omega)) tm3 (fun q3 => ?_)
      rw [y_Nset (by omega), if_pos rfl, ac'] at q3
      exact absurd q3 h126
    · exact N (Or.inr rfl) (y_sg_tm (sd := 1) (by decide) sg' f2 rs3 rt3)
  have T126 : ∀ {G : aH} {q : Nat} {kd' : List Int32} {nu' : List Int64} {be' fi' ac' : List Int32} {b : Bool}, y_sg h G tp t q o i kd nu be fi ac kd' nu' be' fi' ac' → y_tm (y_N tp) t (2 * i) kd' nu' be' fi' → (b = true → q < t ∧ y_N tp q ≠ 126) → aOK s_P X (d + 168) a_m222 126 [some (.ref 155)] [.int (y_01 b)] G C S K0 := by
    intro G q kd' nu' be' fi' ac' b sg t0 hb
    refine w_go z_hl [131] [] 40 sg.1.1 ?_
    refine ⟨fun q1 => fun H hH => ?_, fun q1 => ⟨by decide, fun H hH => ?_⟩⟩
    · cases b with
      | true => exact T131 (y_sg_fr sg (y_st (y_rf sg.1.1) hH (by repeat (first | exact w_nil | refine w_cons (Or.inl (y_m rfl)) ?_ | refine w_cons (Or.inr (by assumption)) ?_)) (by repeat (first | exact w_nil | refine w_cons (Or.inl (y_m rfl)) ?_ | refine w_cons (Or.inr (by assumption)) ?_)))) t0 (hb rfl).1 (hb rfl).2
      | false => exact absurd q1 (by decide)
    · exact no H q o _ _ _ _ _ (y_sg_fr sg (y_st (y_rf sg.1.1) hH (by repeat (first | exact w_nil | refine w_cons (Or.inl (y_m rfl)) ?_ | refine w_cons (Or.inr (by assumption)) ?_)) (by repeat (first | exact w_nil | refine w_cons (Or.inl (y_m rfl)) ?_ | refine w_cons (Or.inr (by assumption)) ?_))))
  have T117 : ∀ {G : aH} {q : Nat} {kd' : List Int32} {nu' : List Int64} {be' fi' ac' : List Int32} {b : Bool}, y_sg h G tp t q o i kd nu be fi ac kd' nu' be' fi' ac' → y_tm (y_N tp) t (2 * i) kd' nu' be' fi' → (b = true → q < t ∧ y_N tp q ≠ 126) → aOK s_P X (d + 168) a_m222 117 [some (.ref 155)] [.int (y_01 b)] G C S K0 := by
    intro G q kd' nu' be' fi' ac' b sg t0 hb
    refine w_go z_hl [131] [227] 40 sg.1.1 ?_
    refine ⟨fun q1 => fun H hH => ?_, fun q1 => fun H hH => ?_⟩
    · cases b with
      | true => exact T131 (y_sg_fr sg (y_st (y_rf sg.1.1) hH (by repeat (first | exact w_nil | refine w_cons (Or.inl (y_m rfl)) ?_ | refine w_cons (Or.inr (by assumption)) ?_)) (by repeat (first | exact w_nil | refine w_cons (Or.inl (y_m rfl)) ?_ | refine w_cons (Or.inr (by assumption)) ?_)))) t0 (hb rfl).1 (hb rfl).2
      | false => exact absurd q1 (by decide)
    · have sg' := y_sg_fr sg (y_st (y_rf sg.1.1) hH (by repeat (first | exact w_nil | refine w_cons (Or.inl (y_m rfl)) ?_ | refine w_cons (Or.inr (by assumption)) ?_)) (by repeat (first | exact w_nil | refine w_cons (Or.inl (y_m rfl)) ?_ | refine w_cons (Or.inr (by assumption)) ?_)))
      refine y_isAt sg'.2.1.1 (fun H2 e2 hp hc => ⟨fun n e => (by cases e), ?_⟩) (fun H2 e2 hn => ⟨fun n e => (by cases e), ?_⟩)
      · refine T126 (b := true) (y_sg_fr sg' e2) t0 (fun _ => ⟨hp, ?_⟩)
        rw [hc]
        decide
      · exact T126 (b := false) (y_sg_fr sg' e2) t0 (fun q => by cases q)
  have T108 : ∀ {G : aH} {q : Nat} {kd' : List Int32} {nu' : List Int64} {be' fi' ac' : List Int32} {b : Bool}, y_sg h G tp t q o i kd nu be fi ac kd' nu' be' fi' ac' → y_tm (y_N tp) t (2 * i) kd' nu' be' fi' → (b = true → q < t ∧ y_N tp q ≠ 126) → aOK s_P X (d + 168) a_m222 108 [some (.ref 155)] [.int (y_01 b)] G C S K0 := by
    intro G q kd' nu' be' fi' ac' b sg t0 hb
    refine w_go z_hl [131] [227] 40 sg.1.1 ?_
    refine ⟨fun q1 => fun H hH => ?_, fun q1 => fun H hH => ?_⟩
    · cases b with
      | true => exact T131 (y_sg_fr sg (y_st (y_rf sg.1.1) hH (by repeat (first | exact w_nil | refine w_cons (Or.inl (y_m rfl)) ?_ | refine w_cons (Or.inr (by assumption)) ?_)) (by repeat (first | exact w_nil | refine w_cons (Or.inl (y_m rfl)) ?_ | refine w_cons (Or.inr (by assumption)) ?_)))) t0 (hb rfl).1 (hb rfl).2
      | false => exact absurd q1 (by decide)
    · have sg' := y_sg_fr sg (y_st (y_rf sg.1.1) hH (by repeat (first | exact w_nil | refine w_cons (Or.inl (y_m rfl)) ?_ | refine w_cons (Or.inr (by assumption)) ?_)) (by repeat (first | exact w_nil | refine w_cons (Or.inl (y_m rfl)) ?_ | refine w_cons (Or.inr (by assumption)) ?_)))
      refine y_isAt sg'.2.1.1 (fun H2 e2 hp hc => ⟨fun n e => (by cases e), ?_⟩) (fun H2 e2 hn => ⟨fun n e => (by cases e), ?_⟩)
      · refine T117 (b := true) (y_sg_fr sg' e2) t0 (fun _ => ⟨hp, ?_⟩)
        rw [hc]
        decide
      · exact T117 (b := false) (y_sg_fr sg' e2) t0 (fun q => by cases q)
  have T102 : ∀ {G : aH} {q : Nat} {kd' : List Int32} {nu' : List Int64} {be' fi' ac' : List Int32}, y_sg h G tp t q o i kd nu be fi ac kd' nu' be' fi' ac' → y_tm (y_N tp) t (2 * i) kd' nu' be' fi' → aOK s_P X (d + 168) a_m222 102 [some (.ref 155)] [] G C S K0 := by
    intro G q kd' nu' be' fi' ac' sg t0
    refine w_go z_hl [131] [227] 40 sg.1.1 ?_
    intro H hH
    have sg' := y_sg_fr sg (y_st (y_rf sg.1.1) hH (by repeat (first | exact w_nil | refine w_cons (Or.inl (y_m rfl)) ?_ | refine w_cons (Or.inr (by assumption)) ?_)) (by repeat (first | exact w_nil | refine w_cons (Or.inl (y_m rfl)) ?_ | refine w_cons (Or.inr (by assumption)) ?_)))
    refine y_isAt sg'.2.1.1 (fun H2 e2 hp hc => ⟨fun n e => (by cases e), ?_⟩) (fun H2 e2 hn => ⟨fun n e => (by cases e), ?_⟩)
    · refine T108 (b := true) (y_sg_fr sg' e2) t0 (fun _ => ⟨hp, ?_⟩)
      rw [hc]
      decide
    · exact T108 (b := false) (y_sg_fr sg' e2) t0 (fun q => by cases q)
  -- together
  have T76y : ∀ {G : aH} {q : Nat} {kd' : List Int32} {nu' : List Int64} {be' fi' ac' : List Int32}, y_sg h G tp t q o i kd nu be fi ac kd' nu' be' fi' ac' → y_tm (y_N tp) t (2 * i) kd' nu' be' fi' → y_N kd' (2 * i) ≠ 0 → y_ok1 (y_N tp) t (y_N be' (2 * (2 * i + 1))) (y_N fi' (2 * (2 * i + 1))) → aOK s_P X (d + 168) a_m222 76 [some (.ref 155)] [.int (Int32.ofInt 1)] G C S K0 := by
    intro G q kd' nu' be' fi' ac' sg t0 hk0 ok
    obtain ⟨sg1, sg2, sg3, sg4, sg5, sg6⟩ := id sg
    obtain ⟨-, -, -, -, -, -, lk', ln', lb', lf'⟩ := y_rs_hr sg2
    refine w_go z_hl [] [228] 40 sg.1.1 ?_
    refine ⟨fun q => absurd q (by decide), fun _ => ?_⟩
    intro x hx _ _
    obtain rfl := y_fi (iAt sg) hx
    refine ⟨b21, by decide, fun l hl len bb => fun H hH => ?_⟩
    obtain rfl := y_ai sg2.2.2.2.1 hl
    have f : y_fr G H [] [166] := y_st (y_mo (y_rf sg.1.1) rfl rfl) hH (by repeat (first | exact w_nil | refine w_cons (Or.inl (y_m rfl)) ?_ | refine w_cons (Or.inr (by assumption)) ?_)) (by repeat (first | exact w_nil | refine w_cons (Or.inl (y_m rfl)) ?_ | refine w_cons (Or.inr (by assumption)) ?_))
    have A := hH.2.2.1 166 _ rfl
    rw [c21] at A
    have rs2 := y_rs_kd sg2 f A
    have rt2 : y_rt (2 * i + 1) kd' (kd'.set (2 * i + 1) (Int32.ofInt 2)) nu' nu' be' be' fi' fi' := y_rt_kd (by omega)
    have sg' := y_sg_tm (sd := 1) (by decide) sg (y_mo f rfl rfl) rs2 rt2
    refine y_notes (sd := 1) (g := 1) rs2 (by decide) (by decide) (by decide) (by decide) (fun H2 q2 be2 fi2 f2 rs3 rt3 same ok2 => ⟨fun n e => (by cases e), ?_⟩) (fun H2 q2 o2 be2 fi2 f2 rs3 rt3 => ⟨fun n e => (by cases e), ?_⟩)
    · have kk : y_N (kd'.set (2 * i + 1) (Int32.ofInt 2)) (2 * i + 1) = 2 := by
        rw [y_Nset (by omega), if_pos rfl]
        decide
      refine Y (Or.inl rfl) (y_sg_nt (sd := 1) (by decide) sg' f2 rs3 rt3) (y_tm_rt (y_tm_rt t0 rt2 (by omega)) rt3 (by omega)) ⟨fun q4 => ?_, fun _ => ?_, fun _ => ?_⟩ (fun _ => ⟨?_, ?_⟩)
      · rw [kk] at q4
        omega
      · rw [(same (2 * (2 * i + 1)) (by omega)).1, (same (2 * (2 * i + 1)) (by omega)).2]
        exact ok
      · rw [show 2 * (2 * i + 1) + 1 = 4 * i + 2 * 1 + 1 by omega]
        exact ok2
      · rw [y_Nset (by omega), if_neg (by omega)]
        exact hk0
      · rw [kk]
        decide
    · exact N (Or.inl rfl) (y_sg_nt (sd := 1) (by decide) sg' f2 rs3 rt3)
  have T76n : ∀ {G : aH} {q : Nat} {kd' : List Int32} {nu' : List Int64} {be' fi' ac' : List Int32}, y_sg h G tp t q o i kd nu be fi ac kd' nu' be' fi' ac' → y_tm (y_N tp) t (2 * i) kd' nu' be' fi' → y_N kd' (2 * i) ≠ 0 → y_N kd' (2 * i + 1) = 1 → y_ok1 (y_N tp) t (y_N be' (2 * (2 * i + 1))) (y_N fi' (2 * (2 * i + 1))) → aOK s_P X (d + 168) a_m222 76 [some (.ref 155)] [.int (Int32.ofInt 0)] G C S K0 := by
    intro G q kd' nu' be' fi' ac' sg t0 hk0 hk1 ok
    refine w_go z_hl [] [] 40 sg.1.1 ?_
    refine ⟨fun _ => ⟨by decide, fun H hH => ?_⟩, fun q => absurd q (by decide)⟩
    exact yes H q _ _ _ _ _ (y_sg_fr sg (y_st (y_rf sg.1.1) hH (by repeat (first | exact w_nil | refine w_cons (Or.inl (y_m rfl)) ?_ | refine w_cons (Or.inr (by assumption)) ?_)) (by repeat (first | exact w_nil | refine w_cons (Or.inl (y_m rfl)) ?_ | refine w_cons (Or.inr (by assumption)) ?_)))) t0 ⟨fun q => by omega, fun _ => ok, fun q => by omega⟩ (fun _ => ⟨hk0, by omega⟩)
  have T65y : ∀ {G : aH} {q : Nat} {kd' : List Int32} {nu' : List Int64} {be' fi' ac' : List Int32}, y_sg h G tp t q o i kd nu be fi ac kd' nu' be' fi' ac' → y_tm (y_N tp) t (2 * i) kd' nu' be' fi' → y_N kd' (2 * i) ≠ 0 → y_N kd' (2 * i + 1) = 1 → y_ok1 (y_N tp) t (y_N be' (2 * (2 * i + 1))) (y_N fi' (2 * (2 * i + 1))) → aOK s_P X (d + 168) a_m222 65 [some (.ref 155)] [.int (Int32.ofInt 1)] G C S K0 := by
    intro G q kd' nu' be' fi' ac' sg t0 hk0 hk1 ok
    refine w_go z_hl [] [226] 40 sg.1.1 ?_
    refine ⟨fun _ => fun H hH => ?_, fun q => absurd q (by decide)⟩
    have sg' := y_sg_fr sg (y_st (y_rf sg.1.1) hH (by repeat (first | exact w_nil | refine w_cons (Or.inl (y_m rfl)) ?_ | refine w_cons (Or.inr (by assumption)) ?_)) (by repeat (first | exact w_nil | refine w_cons (Or.inl (y_m rfl)) ?_ | refine w_cons (Or.inr (by assumption)) ?_)))
    refine y_comes sg'.2.1.1 (fun H2 f2 ps2 _ _ => ⟨fun n e => (by cases e), ?_⟩) (fun H2 f2 ps2 _ => ⟨fun n e => (by cases e), ?_⟩)
    · exact T76y (y_sg_ps sg' (y_mo f2 rfl rfl) ps2) t0 hk0 ok
    · exact T76n (y_sg_ps sg' (y_mo f2 rfl rfl) ps2) t0 hk0 hk1 ok
  have T65n : ∀ {G : aH} {q : Nat} {o' : Int} {kd' : List Int32} {nu' : List Int64} {be' fi' ac' : List Int32}, y_sg h G tp t q o' i kd nu be fi ac kd' nu' be' fi' ac' → aOK s_P X (d + 168) a_m222 65 [some (.ref 155)] [.int (Int32.ofInt 0)] G C S K0 := by
    intro G q o' kd' nu' be' fi' ac' sg
    refine w_go z_hl [] [] 40 sg.1.1 ?_
    refine ⟨fun q => absurd q (by decide), fun _ => ⟨by decide, fun H hH => ?_⟩⟩
    exact no H q o' _ _ _ _ _ (y_sg_fr sg (y_st (y_rf sg.1.1) hH (by repeat (first | exact w_nil | refine w_cons (Or.inl (y_m rfl)) ?_ | refine w_cons (Or.inr (by assumption)) ?_)) (by repeat (first | exact w_nil | refine w_cons (Or.inl (y_m rfl)) ?_ | refine w_cons (Or.inr (by assumption)) ?_))))
  have T31y : ∀ {G : aH} {q : Nat} {kd' : List Int32} {nu' : List Int64} {be' fi' ac' : List Int32}, y_sg h G tp t q o i kd nu be fi ac kd' nu' be' fi' ac' → y_tm (y_N tp) t (2 * i) kd' nu' be' fi' → y_N kd' (2 * i) ≠ 0 → aOK s_P X (d + 168) a_m222 31 [some (.ref 155)] [.int (Int32.ofInt 1)] G C S K0 := by
    intro G q kd' nu' be' fi' ac' sg t0 hk0
    obtain ⟨sg1, sg2, sg3, sg4, sg5, sg6⟩ := id sg
    obtain ⟨-, -, -, -, -, -, lk', ln', lb', lf'⟩ := y_rs_hr sg2
    refine w_go z_hl [] [228] 40 sg.1.1 ?_
    refine ⟨fun q => absurd q (by decide), fun _ => ?_⟩
    intro x hx _ _
    obtain rfl := y_fi (iAt sg) hx
    refine ⟨b0, by decide, fun l2 hl2 len2 bb2 => ?_⟩
    obtain rfl := y_ai sg4 hl2
    refine ⟨b21, by decide, fun l hl len bb => fun H hH => ?_⟩
    obtain rfl := y_ai sg2.2.2.2.1 hl
    have f : y_fr G H [] [165, 166] := y_st (y_mo (y_rf sg.1.1) rfl rfl) hH (by repeat (first | exact w_nil | refine w_cons (Or.inl (y_m rfl)) ?_ | refine w_cons (Or.inr (by assumption)) ?_)) (by repeat (first | exact w_nil | refine w_cons (Or.inl (y_m rfl)) ?_ | refine w_cons (Or.inr (by assumption)) ?_))
    have A := hH.2.2.1 166 _ rfl
    rw [c21] at A
    have B := hH.2.2.1 165 _ rfl
    rw [ci] at B
    obtain ⟨r1, ⟨jI, r2, r3⟩, r4, r5, r6, r7, r8⟩ := sg2
    have rs2 : y_rs H tp t q o i (kd'.set (2 * i + 1) (Int32.ofInt 1)) nu' be' fi' := ⟨y_ps_fr r1 f rfl rfl, ⟨jI, (y_fe f rfl).trans r2, r3⟩, r4, A, (y_ae f rfl).trans r6, (y_ae f rfl).trans r7, (y_ae f rfl).trans r8⟩
    have rt2 : y_rt (2 * i + 1) kd' (kd'.set (2 * i + 1) (Int32.ofInt 1)) nu' nu' be' be' fi' fi' := y_rt_kd (by omega)
    have sg' : y_sg h H tp t q o i kd nu be fi ac (kd'.set (2 * i + 1) (Int32.ofInt 1)) nu' be' fi' _ := ⟨y_sq sg1 f rfl rfl, rs2, y_rw_tr sg3 (y_rw_rt (sd := 1) (by decide) rt2), B, by rw [List.length_set]; exact sg5, fun j hj => by rw [y_Nset (by omega), if_neg hj]; exact sg6 j hj⟩
    refine y_notes (sd := 1) (g := 0) rs2 (by decide) (by decide) (by decide) (by decide) (fun H2 q2 be2 fi2 f2 rs3 rt3 same ok2 => ⟨fun n e => (by cases e), ?_⟩) (fun H2 q2 o2 be2 fi2 f2 rs3 rt3 => ⟨fun n e => (by cases e), ?_⟩)
    · refine T65y (y_sg_nt (sd := 1) (by decide) sg' f2 rs3 rt3) (y_tm_rt (y_tm_rt t0 rt2 (by omega)) rt3 (by omega)) ?_ ?_ ?_
      · rw [y_Nset (by omega), if_neg (by omega)]
        exact hk0
      · rw [y_Nset (by omega), if_pos rfl]
        decide
      · rw [show 2 * (2 * i + 1) = 4 * i + 2 * 1 + 0 by omega]
        exact ok2
    · exact T65n (y_sg_nt (sd := 1) (by decide) sg' f2 rs3 rt3)
  have T31n : ∀ {G : aH} {q : Nat} {kd' : List Int32} {nu' : List Int64} {be' fi' ac' : List Int32}, y_sg h G tp t q o i kd nu be fi ac kd' nu' be' fi' ac' → y_tm (y_N tp) t (2 * i) kd' nu' be' fi' → aOK s_P X (d + 168) a_m222 31 [some (.ref 155)] [.int (Int32.ofInt 0)] G C S K0 := by
    intro G q kd' nu' be' fi' ac' sg t0
    refine w_go z_hl [102] [] 40 sg.1.1 ?_
    refine ⟨fun _ => fun H hH => ?_, fun q => absurd q (by decide)⟩
    exact T102 (y_sg_fr sg (y_st (y_rf sg.1.1) hH (by repeat (first | exact w_nil | refine w_cons (Or.inl (y_m rfl)) ?_ | refine w_cons (Or.inr (by assumption)) ?_)) (by repeat (first | exact w_nil | refine w_cons (Or.inl (y_m rfl)) ?_ | refine w_cons (Or.inr (by assumption)) ?_)))) t0
  have T5y : ∀ {G : aH} {q : Nat} {kd' : List Int32} {nu' : List Int64} {be' fi' ac' : List Int32}, y_sg h G tp t q o i kd nu be fi ac kd' nu' be' fi' ac' → y_tm (y_N tp) t (2 * i) kd' nu' be' fi' → aOK s_P X (d + 168) a_m222 5 [some (.ref 155)] [.int (Int32.ofInt 1)] G C S K0 := by
    intro G q kd' nu' be' fi' ac' sg t0
    refine w_go z_hl [102] [226] 40 sg.1.1 ?_
    refine ⟨fun _ => ?_, fun q => absurd q (by decide)⟩
    intro x hx _ _
    obtain rfl := y_fi (iAt sg) hx
    refine ⟨b2, fun l hl len bb => ?_⟩
    obtain rfl := y_ai sg.2.1.2.2.2.1 hl
    refine ⟨fun _ => fun H hH => T102 (y_sg_fr sg (y_st (y_rf sg.1.1) hH (by repeat (first | exact w_nil | refine w_cons (Or.inl (y_m rfl)) ?_ | refine w_cons (Or.inr (by assumption)) ?_)) (by repeat (first | exact w_nil | refine w_cons (Or.inl (y_m rfl)) ?_ | refine w_cons (Or.inr (by assumption)) ?_)))) t0, fun q1 => fun H hH => ?_⟩
    have q2 : ¬ ((kd'.getD (Int32.ofInt 2 * iI).toNatClampNeg 0).toInt ≠ (Int32.ofInt 1).toInt) := y_cif q1
    rw [c2, show (Int32.ofInt 1).toInt = 1 by decide] at q2
    have hk1 : y_N kd' (2 * i) = 1 := Decidable.not_not.mp q2
    have sg' := y_sg_fr sg (y_st (y_rf sg.1.1) hH (by repeat (first | exact w_nil | refine w_cons (Or.inl (y_m rfl)) ?_ | refine w_cons (Or.inr (by assumption)) ?_)) (by repeat (first | exact w_nil | refine w_cons (Or.inl (y_m rfl)) ?_ | refine w_cons (Or.inr (by assumption)) ?_)))
    refine y_comes sg'.2.1.1 (fun H2 f2 ps2 _ _ => ⟨fun n e => (by cases e), ?_⟩) (fun H2 f2 ps2 _ => ⟨fun n e => (by cases e), ?_⟩)
    · exact T31y (y_sg_ps sg' (y_mo f2 rfl rfl) ps2) t0 (by omega)
    · exact T31n (y_sg_ps sg' (y_mo f2 rfl rfl) ps2) t0
  have T5n : ∀ {G : aH} {q : Nat} {o' : Int} {kd' : List Int32} {nu' : List Int64} {be' fi' ac' : List Int32}, y_sg h G tp t q o' i kd nu be fi ac kd' nu' be' fi' ac' → aOK s_P X (d + 168) a_m222 5 [some (.ref 155)] [.int (Int32.ofInt 0)] G C S K0 := by
    intro G q o' kd' nu' be' fi' ac' sg
    refine w_go z_hl [] [] 40 sg.1.1 ?_
    refine ⟨fun q => absurd q (by decide), fun _ => ⟨by decide, fun H hH => ?_⟩⟩
    exact no H q o' _ _ _ _ _ (y_sg_fr sg (y_st (y_rf sg.1.1) hH (by repeat (first | exact w_nil | refine w_cons (Or.inl (y_m rfl)) ?_ | refine w_cons (Or.inr (by assumption)) ?_)) (by repeat (first | exact w_nil | refine w_cons (Or.inl (y_m rfl)) ?_ | refine w_cons (Or.inr (by assumption)) ?_))))
  obtain ⟨la, z1, z2, -⟩ := w_arrI hr (o := 165) (t := 0) (n := 13) (lo := -2147483648) (hi := 2147483647) (by decide) rfl
  obtain rfl := y_ai hac (w_a_at z1)
  refine w_go z_hl [] [223] 40 hr ?_
  intro H hH
  have f : y_fr h H [] [] := y_st (y_rf hr) hH (by repeat (first | exact w_nil | refine w_cons (Or.inl (y_m rfl)) ?_ | refine w_cons (Or.inr (by assumption)) ?_)) (by repeat (first | exact w_nil | refine w_cons (Or.inl (y_m rfl)) ?_ | refine w_cons (Or.inr (by assumption)) ?_))
  have sg0 : y_sg h H tp t p o i kd nu be fi ac kd nu be fi ac := ⟨y_mo f rfl rfl, y_rs_fr s f, ⟨fun _ _ => rfl, fun _ _ => rfl, fun _ _ => rfl, fun _ _ => rfl⟩, (y_ae f rfl).trans hac, z2, fun _ _ => rfl⟩
  refine y_readsTerm (sd := 0) sg0.2.1 (by decide) (by decide) (fun H2 q2 kd2 nu2 be2 fi2 f2 rs3 rt3 tm3 => ⟨fun n e => (by cases e), ?_⟩) (fun H2 q2 o2 kd2 nu2 be2 fi2 f2 rs3 rt3 => ⟨fun n e => (by cases e), ?_⟩)
  · exact T5y (y_sg_tm (sd := 0) (by decide) sg0 f2 rs3 rt3) tm3
  · exact T5n (y_sg_tm (sd := 0) (by decide) sg0 f2 rs3 rt3)
end WG
end PT29e
section PT29f
/-! ===== v3: the reference's say ===== -/
def y_tx (sg : List Int32) (s j : Nat) : Int := y_N sg (40 * s + j)
def y_s1 (acl kdl : List Int32) (nul : List Int64) (bel fil sgl : List Int32) (s : Nat) : Prop := y_tm (y_tx sgl s) 40 (2 * s) kdl nul bel fil ∧ y_tm (y_tx sgl s) 40 (2 * s + 1) kdl nul bel fil ∧ (y_N acl s = 126 → y_N kdl (2 * s) ≠ 0 ∧ y_N kdl (2 * s + 1) ≠ 0)
def j_say0 (a : Option Value) (ac kd nu be fi sg : Option (Nat × aA)) : Prop := ∃ sy acl kdl nul bel fil sgl, a = some (.int sy) ∧ ac = some (0, .inl acl) ∧ kd = some (0, .inl kdl) ∧ nu = some (1, .inr (.inl nul)) ∧ be = some (0, .inl bel) ∧ fi = some (0, .inl fil) ∧ sg = some (0, .inl sgl) ∧ ∀ s : Nat, (s : Int) < sy.toInt → y_s1 acl kdl nul bel fil sgl s
def j_say (H : aH) : Prop := j_say0 (w_f H 19603) (w_a H 165) (w_a H 166) (w_a H 167) (w_a H 168) (w_a H 169) (w_a H 170)
theorem j_say_e {h H : aH} {fs as : List Nat} (e : y_fr h H fs as) (h1 : fs.elem 19603 = false) (h2 : [165, 166, 167, 168, 169, 170].all (fun x => !as.elem x) = true) (q : j_say h) : j_say H := by
  have k : ∀ x, [165, 166, 167, 168, 169, 170].elem x = true → as.elem x = false := fun x hx => by
    have := List.all_eq_true.mp h2 x (List.elem_iff.mp hx)
    cases q : as.elem x with
    | true => rw [q] at this; cases this
    | false => rfl
  unfold j_say
  rw [y_fe e h1, y_ae e (k 165 rfl), y_ae e (k 166 rfl), y_ae e (k 167 rfl), y_ae e (k 168 rfl), y_ae e (k 169 rfl), y_ae e (k 170 rfl)]
  exact q
/-- what is told of the reference's heap, sayings too -/
def y_JS (H : aH) : Prop := y_J H ∧ j_say H
theorem y_JS_x : y_jx y_JS := by
  intro H H' hf ha q
  refine ⟨y_J_x H H' hf ha q.1, ?_⟩
  have f : ∀ k, z_jc.elem k = true → w_f H' k = w_f H k := fun k hk => hf k (List.elem_iff.mp hk)
  have a : ∀ o, z_jc.elem (o * 128) = true → w_a H' o = w_a H o := fun o ho => ha o (List.elem_iff.mp ho)
  unfold j_say
  rw [f 19603 rfl, a 165 rfl, a 166 rfl, a 167 rfl, a 168 rfl, a 169 rfl, a 170 rfl]
  exact q.2
section WG
variable {X : aX} {C S d : Nat} {K0 : Option Value → aH → Nat → Nat → Prop}
theorem y_say_copy {nI gI toI iI : Int32} {tp : List Int32} {t i : Nat} (ht : toI.toInt = t) (t40 : t ≤ 40) (hi : iI.toInt = i) (i11 : i ≤ 11) : ∀ (m : Nat) (h : aH) (kI : Int32) (k : Nat) (sg : List Int32), w_hr z_D h → w_f h 19614 = some (.int toI) → w_f h 19610 = some (.int iI) → w_a h 171 = some (0, .inl tp) → w_a h 170 = some (0, .inl sg) → kI.toInt = k → k + m = t → (∀ j, j < k → y_N sg (40 * i + j) = y_N tp j) →
    (∀ (H : aH) (k' : Int32) (sg' : List Int32), y_fr h H [] [170] → w_a H 170 = some (0, .inl sg') → (∀ j, j < t → y_N sg' (40 * i + j) = y_N tp j) → (∀ j, j / 40 ≠ i → y_N sg' j = y_N sg j) → aOK s_P X d a_m221 148 [some (.ref 155), some (.int nI), some (.int gI), some (.int k')] [] H C S K0) →
    aOK s_P X d a_m221 114 [some (.ref 155), some (.int nI), some (.int gI), some (.int kI)] [] h C S K0 := by
  intro m
  induction m with
  | zero =>
    intro h kI k sg hr g1 g2 g3 g4 hk hm hs hK
    refine w_go z_hl [114, 148] [] 40 hr ?_
    intro x hx _ _
    obtain rfl := y_fi g1 hx
    refine ⟨fun _ => fun H hH => ?_, fun q => ?_⟩
    · have f : y_fr h H [] [] := y_st (y_rf hr) hH (by repeat (first | exact w_nil | refine w_cons (Or.inl (y_m rfl)) ?_ | refine w_cons (Or.inr (by assumption)) ?_)) (by repeat (first | exact w_nil | refine w_cons (Or.inl (y_m rfl)) ?_ | refine w_cons (Or.inr (by assumption)) ?_))
      exact hK H kI sg (y_mo f rfl rfl) ((y_ae f rfl).trans g4) (fun j hj => hs j (by omega)) (fun _ _ => rfl)
    · have : ¬ (toI.toInt ≤ kI.toInt) := y_cif q
      omega
  | succ m ih =>
    intro h kI k sg hr g1 g2 g3 g4 hk hm hs hK
    have ink : (kI + Int32.ofInt 1).toInt = ((k + 1 : Nat) : Int) := by rw [y_inc (by omega), hk]; rfl
    have c40 : ((Int8.ofInt 40).toInt32).toInt = ((40 : Nat) : Int) := by decide
    have ix : ((Int8.ofInt 40).toInt32 * iI + kI).toInt = ((40 * i + k : Nat) : Int) := y_addS _ (y_mulS _ c40 hi rfl (by omega)) hk rfl (by omega)
    have cx := y_cl1 ix
    have bx : 0 ≤ ((Int8.ofInt 40).toInt32 * iI + kI).toInt ∧ ((Int8.ofInt 40).toInt32 * iI + kI).toInt < ((520 : Nat) : Int) := by omega
    have kc := y_cl1 hk
    refine w_go z_hl [114, 148] [] 40 hr ?_
    intro x hx _ _
    obtain rfl := y_fi g1 hx
    refine ⟨fun q => ?_, fun _ => ?_⟩
    · have : toI.toInt ≤ kI.toInt := (y_ci .ge _ _).mp q
      omega
    · intro y hy _ _
      obtain rfl := y_fi g2 hy
      refine ⟨⟨by omega, by omega⟩, fun l hl len bb => ?_⟩
      obtain rfl := y_ai g3 hl
      refine ⟨bx, bb _ (z_gd (0 : Int32) (show kI.toNatClampNeg < tp.length by omega)), fun l2 hl2 len2 bb2 => fun H hH => ?_⟩
      obtain rfl := y_ai g4 hl2
      have f : y_fr h H [] [170] := y_st (y_mo (y_rf hr) rfl rfl) hH (by repeat (first | exact w_nil | refine w_cons (Or.inl (y_m rfl)) ?_ | refine w_cons (Or.inr (by assumption)) ?_)) (by repeat (first | exact w_nil | refine w_cons (Or.inl (y_m rfl)) ?_ | refine w_cons (Or.inr (by assumption)) ?_))
      have A := hH.2.2.1 170 _ rfl
      rw [cx, kc] at A
      refine ih H _ (k + 1) _ f.1 ((y_fe f rfl).trans g1) ((y_fe f rfl).trans g2) ((y_ae f rfl).trans g3) A ink (by omega) (fun j hj => ?_) (fun H' k' sg' f1 f2 f3 f4 => hK H' k' sg' (y_sq f f1 rfl rfl) f2 f3 (fun j hj => (f4 j hj).trans ?_))
      · rw [y_Nset (by omega)]
        split
        · rename_i e
          rw [show j = k by omega]
          rfl
        · exact hs j (by omega)
      · rw [y_Nset (by omega), if_neg (by omega)]
theorem p_say {h : aH} (hr : w_hr z_D h) (hJ : y_J h) (hS : j_say h) (hk : ∀ (r : Int32) (H : aH), y_fr h H [19584, 19603, 19610, 19612, 19613, 19614, 19615] [165, 166, 167, 168, 169, 170] → y_J H → j_say H → K0 (some (.int r)) H C S) : aOK s_P X (d + 169) a_m221 0 [some (.ref 155), none, none, none] [] h C S K0 := by
  obtain ⟨q1, q2, q3, q4, q5, q6, q7⟩ := id hJ
  obtain ⟨sy, acl, kdl, nul, bel, fil, sgl, y1, y2, y3, y4, y5, y6, y7, y8⟩ := id hS
  obtain ⟨y0, y12⟩ := y_syb hr y1
  obtain ⟨tp, z1, z2, -⟩ := w_arrI hr (o := 171) (t := 0) (n := 60) (lo := 0) (hi := 255) (by decide) rfl
  have g171 := w_a_at z1
  obtain ⟨nd, le, de, ta, n1, n2, n3, n4, c1, c2, c3, c4, c5⟩ := id q1
  have keep : ∀ {G : aH}, y_fr h G [19584, 19603, 19610, 19612, 19613, 19614, 19615] [165, 166, 167, 168, 169, 170] → y_J G := fun e => ⟨j_net_e (y_fe e rfl) (y_ae e rfl) (y_ae e rfl) (y_ae e rfl) q1, j_dp_e (y_fe e rfl) (y_fe e rfl) (y_ae e rfl) q2, j_old_e (y_ae e rfl) (y_ae e rfl) (y_ae e rfl) (y_ae e rfl) (y_ae e rfl) (y_ae e rfl) q3, j_w_e (y_fe e rfl) (y_ae e rfl) q4, j_seen_e (y_fe e rfl) (y_fe e rfl) (y_ae e rfl) (y_ae e rfl) q5, j_kept_e (y_fe e rfl) (y_ae e rfl) (y_ae e rfl) (y_ae e rfl) (y_ae e rfl) q6, j_land_e (y_fe e rfl) (y_ae e rfl) q7⟩
  -- nothing new told
  have sayO : ∀ {G : aH} {kd' : List Int32} {nu' : List Int64} {be' fi' ac' sg' : List Int32}, w_f G 19603 = some (.int sy) → w_a G 165 = some (0, .inl ac') → w_a G 166 = some (0, .inl kd') → w_a G 167 = some (1, .inr (.inl nu')) → w_a G 168 = some (0, .inl be') → w_a G 169 = some (0, .inl fi') → w_a G 170 = some (0, .inl sg') → y_rw sy.toInt.toNat kdl kd' nul nu' bel be' fil fi' → (∀ j, j ≠ sy.toInt.toNat → y_N ac' j = y_N acl j) → (∀ j, j / 40 ≠ sy.toInt.toNat → y_N sg' j = y_N sgl j) → ∀ s : Nat, (s : Int) < sy.toInt → y_s1 ac' kd' nu' be' fi' sg' s := by
    intro G kd' nu' be' fi' ac' sg' e1 e2 e3 e4 e5 e6 e7 rw' ha hsg s hs
    obtain ⟨t0, t1, t2⟩ := y8 s hs
    have hT : ∀ j, j < 40 → y_tx sg' s j = y_tx sgl s j := fun j hj => hsg _ (by omega)
    refine ⟨y_tm_c (y_tm_rw t0 rw' (by omega)) hT (Nat.le_refl _), y_tm_c (y_tm_rw t1 rw' (by omega)) hT (Nat.le_refl _), fun q => ?_⟩
    rw [ha s (by omega)] at q
    rw [rw'.1 (2 * s) (by omega), rw'.1 (2 * s + 1) (by omega)]
    exact t2 q
  have T148 : ∀ {G : aH} {nI gI k' : Int32} {t q : Nat} {o : Int} {kd' : List Int32} {nu' : List Int64} {be' fi' ac' sg' : List Int32}, y_fr h G [19584, 19610, 19612, 19613, 19614, 19615] [165, 166, 167, 168, 169, 170] → y_rs G tp t q o sy.toInt.toNat kd' nu' be' fi' → w_a G 165 = some (0, .inl ac') → w_a G 170 = some (0, .inl sg') → y_rw sy.toInt.toNat kdl kd' nul nu' bel be' fil fi' → (∀ j, j ≠ sy.toInt.toNat → y_N ac' j = y_N acl j) → (∀ j, j / 40 ≠ sy.toInt.toNat → y_N sg' j = y_N sgl j) → (∀ j, j < t → y_N sg' (40 * sy.toInt.toNat + j) = y_N tp j) → y_tm (y_N tp) t (2 * sy.toInt.toNat) kd' nu' be' fi' → y_tm (y_N tp) t (2 * sy.toInt.toNat + 1) kd' nu' be' fi' → (y_N ac' sy.toInt.toNat = 126 → y_N kd' (2 * sy.toInt.toNat) ≠ 0 ∧ y_N kd' (2 * sy.toInt.toNat + 1) ≠ 0) → sy.toInt ≤ 11 → aOK s_P X (d + 169) a_m221 148 [some (.ref 155), some (.int nI), some (.int gI), some (.int k')] [] G C S K0 := by
    intro G nI gI k' t q o kd' nu' be' fi' ac' sg' e rs a1 a2 rw' ha hsg hT t0 t1 t2 s11
    obtain ⟨hr', -, t40, -⟩ := y_rs_hr rs
    obtain ⟨r1, r2, r4, r5, r6, r7, r8⟩ := rs
    have hinc : (sy + Int32.ofInt 1).toInt = sy.toInt + 1 := y_inc (by omega)
    refine w_go z_hl [] [] 40 e.1 ?_
    intro x hx _ _
    obtain rfl := y_fi ((y_fe e rfl).trans y1) hx
    refine ⟨rfl, y_zini (by show 0 ≤ (sy + Int32.ofInt 1).toInt; omega) (by show (sy + Int32.ofInt 1).toInt ≤ 12; omega), ?_⟩
    intro H hH
    have f : y_fr G H [19603] [] := y_st (y_mo (y_rf e.1) rfl rfl) hH (by repeat (first | exact w_nil | refine w_cons (Or.inl (y_m rfl)) ?_ | refine w_cons (Or.inr (by assumption)) ?_)) (by repeat (first | exact w_nil | refine w_cons (Or.inl (y_m rfl)) ?_ | refine w_cons (Or.inr (by assumption)) ?_))
    have e2 : y_fr h H [19584, 19603, 19610, 19612, 19613, 19614, 19615] [165, 166, 167, 168, 169, 170] := y_sq (y_mo e rfl rfl) f rfl rfl
    refine hk _ H e2 (keep e2) ⟨_, ac', kd', nu', be', fi', sg', hH.2.1 19603 _ rfl, (y_ae f rfl).trans a1, (y_ae f rfl).trans r5, (y_ae f rfl).trans r6, (y_ae f rfl).trans r7, (y_ae f rfl).trans r8, (y_ae f rfl).trans a2, fun s hs => ?_⟩
    have hs2 : (s : Int) < (sy + Int32.ofInt 1).toInt := hs
    by_cases qs : (s : Int) < sy.toInt
    · exact sayO ((y_fe e rfl).trans y1) a1 r5 r6 r7 r8 a2 rw' ha hsg s qs
    · have es : s = sy.toInt.toNat := by omega
      subst es
      exact ⟨y_tm_c t0 hT t40, y_tm_c t1 hT t40, t2⟩
  have out : ∀ {G : aH} {r : Int32} {t q : Nat} {o : Int} {kd' : List Int32} {nu' : List Int64} {be' fi' ac' : List Int32}, y_fr h G [19584, 19610, 19612, 19613, 19614, 19615] [165, 166, 167, 168, 169] → y_rs G tp t q o sy.toInt.toNat kd' nu' be' fi' → w_a G 165 = some (0, .inl ac') → y_rw sy.toInt.toNat kdl kd' nul nu' bel be' fil fi' → (∀ j, j ≠ sy.toInt.toNat → y_N ac' j = y_N acl j) → K0 (some (.int r)) G C S := by
    intro G r t q o kd' nu' be' fi' ac' e rs a1 rw' ha
    have e2 : y_fr h G [19584, 19603, 19610, 19612, 19613, 19614, 19615] [165, 166, 167, 168, 169, 170] := y_mo e rfl rfl
    obtain ⟨r1, r2, r4, r5, r6, r7, r8⟩ := rs
    exact hk _ G e2 (keep e2) ⟨sy, ac', kd', nu', be', fi', sgl, (y_fe e rfl).trans y1, a1, r5, r6, r7, r8, (y_ae e rfl).trans y7, sayO ((y_fe e rfl).trans y1) a1 r5 r6 r7 r8 ((y_ae e rfl).trans y7) rw' ha (fun _ _ => rfl)⟩
  -- behind the reading
  have T78 : ∀ {G : aH} {nI gI : Int32} {t q : Nat} {o : Int} {kd' : List Int32} {nu' : List Int64} {be' fi' ac' : List Int32}, y_fr h G [19584, 19610, 19612, 19613, 19614, 19615] [165, 166, 167, 168, 169] → y_rs G tp t q o sy.toInt.toNat kd' nu' be' fi' → w_a G 165 = some (0, .inl ac') → y_rw sy.toInt.toNat kdl kd' nul nu' bel be' fil fi' → (∀ j, j ≠ sy.toInt.toNat → y_N ac' j = y_N acl j) → sy.toInt ≤ 11 → (gI ≠ 0 → y_tm (y_N tp) t (2 * sy.toInt.toNat) kd' nu' be' fi' ∧ y_tm (y_N tp) t (2 * sy.toInt.toNat + 1) kd' nu' be' fi' ∧ (y_N ac' sy.toInt.toNat = 126 → y_N kd' (2 * sy.toInt.toNat) ≠ 0 ∧ y_N kd' (2 * sy.toInt.toNat + 1) ≠ 0)) → aOK s_P X (d + 169) a_m221 78 [some (.ref 155), some (.int nI), none, none] [.int gI] G C S K0 := by
    intro G nI gI t q o kd' nu' be' fi' ac' e rs a1 rw' ha s11 hg
    have fin : ∀ {H : aH} {r : Int32}, y_fr G H [] [] → K0 (some (.int r)) H C S := fun f => out (y_sq e f rfl rfl) (y_rs_fr rs f) ((y_ae f rfl).trans a1) rw' ha
    obtain ⟨toI, atI, opI, nd', hr', b1, b2, b3, b4, b5, b6, b7, b8, pt', t40, o0', o5'⟩ := id rs.1
    obtain ⟨iI, i1, i2⟩ := id rs.2.1
    have T112 : ∀ {H : aH}, y_fr G H [] [] → gI ≠ 0 → aOK s_P X (d + 169) a_m221 112 [some (.ref 155), some (.int nI), some (.int gI), none] [] H C S K0 := by
      intro H f hg0
      refine w_go z_hl [114] [] 40 f.1 ?_
      intro H2 h2
      have f2 := y_st f h2 (by repeat (first | exact w_nil | refine w_cons (Or.inl (y_m rfl)) ?_ | refine w_cons (Or.inr (by assumption)) ?_)) (by repeat (first | exact w_nil | refine w_cons (Or.inl (y_m rfl)) ?_ | refine w_cons (Or.inr (by assumption)) ?_))
      have e2 := y_sq e f2 rfl rfl
      refine y_say_copy b3 t40 i2 (by omega) t H2 _ 0 sgl f2.1 ((y_fe f2 rfl).trans b2) ((y_fe f2 rfl).trans i1) ((y_ae f2 rfl).trans b1) ((y_ae e2 rfl).trans y7) rfl (by omega) (fun j hj => absurd hj (by omega)) (fun H3 k' sg' f3 a3 hT hsg => ?_)
      obtain ⟨t0, t1, t2⟩ := hg hg0
      obtain ⟨r1, ⟨jI, r2, r3⟩, r4, r5, r6, r7, r8⟩ := y_rs_fr rs f2
      exact T148 (y_sq (y_mo e2 rfl rfl) f3 rfl rfl) ⟨y_ps_fr r1 f3 rfl rfl, ⟨jI, (y_fe f3 rfl).trans r2, r3⟩, r4, (y_ae f3 rfl).trans r5, (y_ae f3 rfl).trans r6, (y_ae f3 rfl).trans r7, (y_ae f3 rfl).trans r8⟩ ((y_ae f3 rfl).trans ((y_ae f2 rfl).trans a1)) a3 rw' ha hsg hT t0 t1 t2 s11
    have T101 : ∀ {H : aH}, y_fr G H [] [] → aOK s_P X (d + 169) a_m221 101 [some (.ref 155), some (.int nI), some (.int gI), none] [] H C S K0 := by
      intro H f
      refine w_go z_hl [112] [] 40 f.1 ?_
      refine ⟨fun q => fun H2 h2 => ?_, fun _ => ?_⟩
      · have q2 : gI.toInt ≠ (0 : Int32).toInt := (y_ci .ne _ _).mp q
        exact T112 (y_st f h2 (by repeat (first | exact w_nil | refine w_cons (Or.inl (y_m rfl)) ?_ | refine w_cons (Or.inr (by assumption)) ?_)) (by repeat (first | exact w_nil | refine w_cons (Or.inl (y_m rfl)) ?_ | refine w_cons (Or.inr (by assumption)) ?_))) (fun e => q2 (by rw [e]))
      · intro x hx _ _
        exact fun H2 h2 => fin (y_st f h2 (by repeat (first | exact w_nil | refine w_cons (Or.inl (y_m rfl)) ?_ | refine w_cons (Or.inr (by assumption)) ?_)) (by repeat (first | exact w_nil | refine w_cons (Or.inl (y_m rfl)) ?_ | refine w_cons (Or.inr (by assumption)) ?_)))
    refine w_go z_hl [101] [] 40 e.1 ?_
    refine ⟨fun _ => fun H hH => T101 (y_st (y_rf e.1) hH (by repeat (first | exact w_nil | refine w_cons (Or.inl (y_m rfl)) ?_ | refine w_cons (Or.inr (by assumption)) ?_)) (by repeat (first | exact w_nil | refine w_cons (Or.inl (y_m rfl)) ?_ | refine w_cons (Or.inr (by assumption)) ?_))), fun _ => ⟨fun _ => fun H hH => fin (y_st (y_rf e.1) hH (by repeat (first | exact w_nil | refine w_cons (Or.inl (y_m rfl)) ?_ | refine w_cons (Or.inr (by assumption)) ?_)) (by repeat (first | exact w_nil | refine w_cons (Or.inl (y_m rfl)) ?_ | refine w_cons (Or.inr (by assumption)) ?_))), fun _ => ?_⟩⟩
    intro x hx _ _
    exact ⟨fun _ => fun H hH => T101 (y_st (y_rf e.1) hH (by repeat (first | exact w_nil | refine w_cons (Or.inl (y_m rfl)) ?_ | refine w_cons (Or.inr (by assumption)) ?_)) (by repeat (first | exact w_nil | refine w_cons (Or.inl (y_m rfl)) ?_ | refine w_cons (Or.inr (by assumption)) ?_))), fun _ => fun H hH => fin (y_st (y_rf e.1) hH (by repeat (first | exact w_nil | refine w_cons (Or.inl (y_m rfl)) ?_ | refine w_cons (Or.inr (by assumption)) ?_)) (by repeat (first | exact w_nil | refine w_cons (Or.inl (y_m rfl)) ?_ | refine w_cons (Or.inr (by assumption)) ?_)))⟩
  have T59y : ∀ {G : aH} {nI : Int32} {t q : Nat} {o : Int} {kd' : List Int32} {nu' : List Int64} {be' fi' ac' : List Int32}, y_fr h G [19584, 19610, 19612, 19613, 19614, 19615] [165, 166, 167, 168, 169] → y_rs G tp t q o sy.toInt.toNat kd' nu' be' fi' → w_a G 165 = some (0, .inl ac') → y_rw sy.toInt.toNat kdl kd' nul nu' bel be' fil fi' → (∀ j, j ≠ sy.toInt.toNat → y_N ac' j = y_N acl j) → sy.toInt ≤ 11 → y_tm (y_N tp) t (2 * sy.toInt.toNat) kd' nu' be' fi' → y_tm (y_N tp) t (2 * sy.toInt.toNat + 1) kd' nu' be' fi' → (y_N ac' sy.toInt.toNat = 126 → y_N kd' (2 * sy.toInt.toNat) ≠ 0 ∧ y_N kd' (2 * sy.toInt.toNat + 1) ≠ 0) → aOK s_P X (d + 169) a_m221 59 [some (.ref 155), some (.int nI), none, none] [.int (Int32.ofInt 1)] G C S K0 := by
    intro G nI t q o kd' nu' be' fi' ac' e rs a1 rw' ha s11 t0 t1 t2
    refine w_go z_hl [78] [] 40 e.1 ?_
    refine ⟨fun q => absurd q (by decide), fun _ => ?_⟩
    intro x hx _ _
    intro y hy _ _
    refine ⟨fun _ => fun H hH => ?_, fun _ => fun H hH => ?_⟩
    · have f : y_fr G H [] [] := y_st (y_rf e.1) hH (by repeat (first | exact w_nil | refine w_cons (Or.inl (y_m rfl)) ?_ | refine w_cons (Or.inr (by assumption)) ?_)) (by repeat (first | exact w_nil | refine w_cons (Or.inl (y_m rfl)) ?_ | refine w_cons (Or.inr (by assumption)) ?_))
      exact T78 (y_sq e f rfl rfl) (y_rs_fr rs f) ((y_ae f rfl).trans a1) rw' ha s11 (fun q => absurd rfl q)
    · have f : y_fr G H [] [] := y_st (y_rf e.1) hH (by repeat (first | exact w_nil | refine w_cons (Or.inl (y_m rfl)) ?_ | refine w_cons (Or.inr (by assumption)) ?_)) (by repeat (first | exact w_nil | refine w_cons (Or.inl (y_m rfl)) ?_ | refine w_cons (Or.inr (by assumption)) ?_))
      exact T78 (y_sq e f rfl rfl) (y_rs_fr rs f) ((y_ae f rfl).trans a1) rw' ha s11 (fun _ => ⟨t0, t1, t2⟩)
  have T59n : ∀ {G : aH} {nI : Int32} {t q : Nat} {o : Int} {kd' : List Int32} {nu' : List Int64} {be' fi' ac' : List Int32}, y_fr h G [19584, 19610, 19612, 19613, 19614, 19615] [165, 166, 167, 168, 169] → y_rs G tp t q o sy.toInt.toNat kd' nu' be' fi' → w_a G 165 = some (0, .inl ac') → y_rw sy.toInt.toNat kdl kd' nul nu' bel be' fil fi' → (∀ j, j ≠ sy.toInt.toNat → y_N ac' j = y_N acl j) → sy.toInt ≤ 11 → aOK s_P X (d + 169) a_m221 59 [some (.ref 155), some (.int nI), none, none] [.int (Int32.ofInt 0)] G C S K0 := by
    intro G nI t q o kd' nu' be' fi' ac' e rs a1 rw' ha s11
    refine w_go z_hl [78] [] 40 e.1 ?_
    refine ⟨fun _ => fun H hH => ?_, fun q => absurd q (by decide)⟩
    have f : y_fr G H [] [] := y_st (y_rf e.1) hH (by repeat (first | exact w_nil | refine w_cons (Or.inl (y_m rfl)) ?_ | refine w_cons (Or.inr (by assumption)) ?_)) (by repeat (first | exact w_nil | refine w_cons (Or.inl (y_m rfl)) ?_ | refine w_cons (Or.inr (by assumption)) ?_))
    exact T78 (y_sq e f rfl rfl) (y_rs_fr rs f) ((y_ae f rfl).trans a1) rw' ha s11 (fun q => absurd rfl q)
  have T52 : ∀ {G : aH} {nI mI : Int32}, y_fr h G [19584, 19610, 19612, 19613, 19615] [] → w_f G 19610 = some (.int sy) → w_f G 19613 = some (.int (Int32.ofInt 0)) → w_f G 19615 = some (.int (Int32.ofInt 0)) → sy.toInt ≤ 11 → 0 ≤ mI.toInt → mI.toInt ≤ 40 → aOK s_P X (d + 169) a_m221 52 [some (.ref 155), some (.int nI), none, none] [.int mI, .ref 155] G C S K0 := by
    intro G nI mI e f1 f2 f3 s11 m0 m40
    refine w_go z_hl [] [222] 40 e.1 ?_
    refine ⟨rfl, y_zini m0 m40, fun H hH => ?_⟩
    have f : y_fr G H [19614] [] := y_st (y_mo (y_rf e.1) rfl rfl) hH (by repeat (first | exact w_nil | refine w_cons (Or.inl (y_m rfl)) ?_ | refine w_cons (Or.inr (by assumption)) ?_)) (by repeat (first | exact w_nil | refine w_cons (Or.inl (y_m rfl)) ?_ | refine w_cons (Or.inr (by assumption)) ?_))
    have e2 : y_fr h H [19584, 19610, 19612, 19613, 19614, 19615] [] := y_sq (y_mo e rfl rfl) f rfl rfl
    have ps : y_ps H tp mI.toInt.toNat 0 0 := ⟨mI, _, _, nd, f.1, (y_ae e2 rfl).trans g171, hH.2.1 19614 _ rfl, by omega, (y_fe f rfl).trans f2, rfl, (y_fe f rfl).trans f3, rfl, (y_fe e2 rfl).trans n1, by omega, by omega, by decide, by decide⟩
    have rs : y_rs H tp mI.toInt.toNat 0 0 sy.toInt.toNat kdl nul bel fil := ⟨ps, ⟨sy, (y_fe f rfl).trans f1, by omega⟩, by omega, (y_ae e2 rfl).trans y3, (y_ae e2 rfl).trans y4, (y_ae e2 rfl).trans y5, (y_ae e2 rfl).trans y6⟩
    refine y_readsSaying rs ((y_ae e2 rfl).trans y2) (fun H2 q kd' nu' be' fi' ac' sg t0 t1 t2 => ⟨fun n e => (by cases e), ?_⟩) (fun H2 q o' kd' nu' be' fi' ac' sg => ⟨fun n e => (by cases e), ?_⟩)
    · exact T59y (y_sq (y_mo e2 rfl rfl) sg.1 rfl rfl) sg.2.1 sg.2.2.2.1 sg.2.2.1 sg.2.2.2.2.2 s11 t0 t1 t2
    · exact T59n (y_sq (y_mo e2 rfl rfl) sg.1 rfl rfl) sg.2.1 sg.2.2.2.1 sg.2.2.1 sg.2.2.2.2.2 s11
  refine w_go z_hl [52] [] 40 hr ?_
  refine ⟨rfl, y_zini (by decide) (by decide), ?_⟩
  intro x hx x0 x60
  refine ⟨rfl, y_zini (by decide) (by decide), ?_⟩
  intro y hy _ _
  obtain rfl := y_fi y1 hy
  refine ⟨fun q => ?_, fun _ => fun H hH => ?_⟩
  · have q2 : sy.toInt ≠ ((Int8.ofInt 12).toInt32).toInt := (y_ci .ne _ _).mp q
    rw [show ((Int8.ofInt 12).toInt32).toInt = 12 by decide] at q2
    refine ⟨rfl, y_zini (by show 0 ≤ sy.toInt; omega) (by show sy.toInt ≤ 12; omega), rfl, y_zini (by decide) (by decide), rfl, y_zini (by decide) (by decide), ?_⟩
    have c40 : ((Int8.ofInt 40).toInt32).toInt = 40 := by decide
    refine ⟨fun q3 => fun H hH => ?_, fun q3 => fun H hH => ?_⟩
    · have e2 : y_fr h H [19584, 19610, 19612, 19613, 19615] [] := y_st (y_mo (y_rf hr) rfl rfl) hH (by repeat (first | exact w_nil | refine w_cons (Or.inl (y_m rfl)) ?_ | refine w_cons (Or.inr (by assumption)) ?_)) (by repeat (first | exact w_nil | refine w_cons (Or.inl (y_m rfl)) ?_ | refine w_cons (Or.inr (by assumption)) ?_))
      exact T52 e2 (hH.2.1 19610 _ rfl) (hH.2.1 19613 _ rfl) (hH.2.1 19615 _ rfl) (by omega) (by rw [c40]; decide) (by rw [c40]; decide)
    · have q4 : ¬ (((Int8.ofInt 40).toInt32).toInt < x.toInt) := y_cif q3
      rw [c40] at q4
      have e2 : y_fr h H [19584, 19610, 19612, 19613, 19615] [] := y_st (y_mo (y_rf hr) rfl rfl) hH (by repeat (first | exact w_nil | refine w_cons (Or.inl (y_m rfl)) ?_ | refine w_cons (Or.inr (by assumption)) ?_)) (by repeat (first | exact w_nil | refine w_cons (Or.inl (y_m rfl)) ?_ | refine w_cons (Or.inr (by assumption)) ?_))
      exact T52 e2 (hH.2.1 19610 _ rfl) (hH.2.1 19613 _ rfl) (hH.2.1 19615 _ rfl) (by omega) x0 (by omega)
  · have e2 : y_fr h H [19584, 19612] [] := y_st (y_mo (y_rf hr) rfl rfl) hH (by repeat (first | exact w_nil | refine w_cons (Or.inl (y_m rfl)) ?_ | refine w_cons (Or.inr (by assumption)) ?_)) (by repeat (first | exact w_nil | refine w_cons (Or.inl (y_m rfl)) ?_ | refine w_cons (Or.inr (by assumption)) ?_))
    exact hk _ H (y_mo e2 rfl rfl) (y_J_fr e2 rfl rfl hJ) (j_say_e e2 rfl rfl hS)
end WG
end PT29f
section PT29g
/-! ===== v3: the reference's thingOf, everyOf, eventOf, isOf ===== -/
def y_es (h : aH) (sg : List Int32) (r p st : Nat) : Prop := ∃ rI pI sI : Int32, w_hr z_D h ∧ w_a h 170 = some (0, .inl sg) ∧ w_f h 19616 = some (.int rI) ∧ rI.toInt = r ∧ w_f h 19617 = some (.int pI) ∧ pI.toInt = p ∧ w_f h 19618 = some (.int sI) ∧ sI.toInt = st ∧ r ≤ 11 ∧ p ≤ 40
theorem y_es_fr {h H : aH} {sg : List Int32} {r p st : Nat} (s : y_es h sg r p st) (e : y_fr h H [] []) : y_es H sg r p st := by
  obtain ⟨rI, pI, sI, hr, a1, a2, a3, a4, a5, a6, a7⟩ := s
  exact ⟨rI, pI, sI, e.1, (y_ae e rfl).trans a1, (y_fe e rfl).trans a2, a3, (y_fe e rfl).trans a4, a5, (y_fe e rfl).trans a6, a7⟩
theorem y_es_hr {h : aH} {sg : List Int32} {r p st : Nat} (s : y_es h sg r p st) : w_hr z_D h ∧ r ≤ 11 ∧ p ≤ 40 := by
  obtain ⟨rI, pI, sI, hr, a1, a2, a3, a4, a5, a6, a7, a8, a9⟩ := s
  exact ⟨hr, a8, a9⟩
theorem y_es_at {h H : aH} {sg : List Int32} {r p p' st : Nat} {pI' : Int32} (s : y_es h sg r p st) (e : y_fr h H [19617] []) (a : w_f H 19617 = some (.int pI')) (hp : pI'.toInt = p') (h40 : p' ≤ 40) : y_es H sg r p' st := by
  obtain ⟨rI, pI, sI, hr, a1, a2, a3, a4, a5, a6, a7, a8, a9⟩ := s
  exact ⟨rI, pI', sI, e.1, (y_ae e rfl).trans a1, (y_fe e rfl).trans a2, a3, a, hp, (y_fe e rfl).trans a6, a7, a8, h40⟩
def y_em (k : Nat) : aM := match k with
  | 0 => a_m240
  | 1 => a_m239
  | 2 => a_m238
  | 3 => a_m239
  | _ => a_m238
def y_epc (k : Nat) : Nat := match k with
  | 0 => 0
  | 1 => 0
  | 2 => 0
  | _ => 6
def y_el (k : Nat) (way : Int32) (b : Bool) (o3 : Option Value) : aL := match k with
  | 0 => [some (.ref 155), some (.int way), none, none]
  | 1 => [some (.ref 155), some (.int way), none, none]
  | 2 => [some (.ref 155), some (.int way), none, none]
  | _ => [some (.ref 155), some (.int way), some (.int (y_01 b)), o3]
def y_EV (X : aX) (C S d n : Nat) : Prop := ∀ (k : Nat) (h : aH) (K0 : Option Value → aH → Nat → Nat → Prop) (sg : List Int32) (r p q st : Nat) (way : Int32) (b : Bool) (o3 : Option Value), k < 5 → y_es h sg r p st → y_E (y_tx sg r) st n k p q → q ≤ 40 →
  (∀ (b' : Bool) (H : aH), y_fr h H [19617] [] → y_es H sg r q st → K0 (some (.int (y_01 b'))) H C S) →
  aOK s_P X (n + d + 2) (y_em k) (y_epc k) (y_el k way b o3) [] h C S K0
theorem y_c40 : ((Int8.ofInt 40).toInt32).toInt = ((40 : Nat) : Int) := by decide
theorem y_01b (b : Bool) : 0 ≤ (y_01 b).toInt ∧ (y_01 b).toInt ≤ 1 := by cases b <;> decide
section WG
variable {X : aX} {C S d n : Nat} {K0 : Option Value → aH → Nat → Nat → Prop} {h : aH} {sg : List Int32} {r p q st : Nat} {way : Int32}
theorem y_ev_thing (ih : y_EV X C S d n) (s : y_es h sg r p st) (hE : y_E (y_tx sg r) st (n + 1) 0 p q) (q40 : q ≤ 40) (hK : ∀ (b' : Bool) (H : aH), y_fr h H [19617] [] → y_es H sg r q st → K0 (some (.int (y_01 b'))) H C S) : aOK s_P X (n + 1 + d + 2) a_m240 0 [some (.ref 155), some (.int way), none, none] [] h C S K0 := by
  have lt := (y_E_lt (T := y_tx sg r) (st := st) (n + 1)).1 0 (by decide) hE
  have T47 : ∀ {G : aH} {c : Int32} {b : Bool}, y_fr h G [19617] [] → y_es G sg r q st → aOK s_P X (n + 1 + d + 2) a_m240 39 [some (.ref 155), some (.int way), some (.int c), none] [.int (y_01 b)] G C S K0 := by
    intro G c b e s2
    refine w_go z_hl [] [] 40 e.1 ?_
    refine ⟨fun _ => ⟨by decide, fun H hH => ?_⟩, fun _ => ⟨by decide, fun H hH => ?_⟩⟩
    · have f : y_fr G H [] [] := y_st (y_rf e.1) hH (by repeat (first | exact w_nil | refine w_cons (Or.inl (y_m rfl)) ?_ | refine w_cons (Or.inr (by assumption)) ?_)) (by repeat (first | exact w_nil | refine w_cons (Or.inl (y_m rfl)) ?_ | refine w_cons (Or.inr (by assumption)) ?_))
      exact hK false H (y_sq e f rfl rfl) (y_es_fr s2 f)
    · have f : y_fr G H [] [] := y_st (y_rf e.1) hH (by repeat (first | exact w_nil | refine w_cons (Or.inl (y_m rfl)) ?_ | refine w_cons (Or.inr (by assumption)) ?_)) (by repeat (first | exact w_nil | refine w_cons (Or.inl (y_m rfl)) ?_ | refine w_cons (Or.inr (by assumption)) ?_))
      exact hK true H (y_sq e f rfl rfl) (y_es_fr s2 f)
  have T59 : ∀ {G : aH} {c : Int32} {b : Bool} {r1 : Nat}, y_fr h G [19617] [] → y_es G sg r r1 st → q = r1 + 1 → aOK s_P X (n + 1 + d + 2) a_m240 59 [some (.ref 155), some (.int way), some (.int c), none] [.int (y_01 b)] G C S K0 := by
    intro G c b r1 e s2 hq
    obtain ⟨rI, pI, sI, hr, a1, a2, a3, a4, a5, a6, a7, a8, a9⟩ := id s2
    have inc : (pI + Int32.ofInt 1).toInt = ((r1 + 1 : Nat) : Int) := by rw [y_inc (by omega), a5]; rfl
    refine w_go z_hl [] [] 40 e.1 ?_
    intro x hx _ _
    obtain rfl := y_fi a4 hx
    refine ⟨rfl, y_zini (by show 0 ≤ (pI + Int32.ofInt 1).toInt; omega) (by show (pI + Int32.ofInt 1).toInt ≤ 40; omega), y_01b b, fun H hH => ?_⟩
    have f : y_fr G H [19617] [] := y_st (y_mo (y_rf e.1) rfl rfl) hH (by repeat (first | exact w_nil | refine w_cons (Or.inl (y_m rfl)) ?_ | refine w_cons (Or.inr (by assumption)) ?_)) (by repeat (first | exact w_nil | refine w_cons (Or.inl (y_m rfl)) ?_ | refine w_cons (Or.inr (by assumption)) ?_))
    subst hq
    exact hK b H (y_sq e f rfl rfl) (y_es_at s2 f (hH.2.1 19617 _ rfl) inc (by omega))
  obtain ⟨rI, pI, sI, hr, a1, a2, a3, a4, a5, a6, a7, a8, a9⟩ := id s
  have ix : ((Int8.ofInt 40).toInt32 * rI + pI).toInt = ((40 * r + p : Nat) : Int) := y_addS _ (y_mulS _ y_c40 a3 rfl (by omega)) a5 rfl (by omega)
  have cx := y_cl1 ix
  have bx : 0 ≤ ((Int8.ofInt 40).toInt32 * rI + pI).toInt ∧ ((Int8.ofInt 40).toInt32 * rI + pI).toInt < ((520 : Nat) : Int) := by omega
  have inc : (pI + Int32.ofInt 1).toInt = ((p + 1 : Nat) : Int) := by rw [y_inc (by omega), a5]; rfl
  have T28 : ∀ {G : aH} {c : Int32}, y_fr h G [19617] [] → y_es G sg r (p + 1) st → c.toInt = y_tx sg r p → aOK s_P X (n + 1 + d + 2) a_m240 28 [some (.ref 155), some (.int way), some (.int c), none] [] G C S K0 := by
    intro G c e s2 hc
    have c33 : ((Int8.ofInt 33).toInt32).toInt = 33 := by decide
    have c40 : ((Int8.ofInt 40).toInt32).toInt = 40 := by decide
    refine w_go z_hl [] [240, 238] 40 e.1 ?_
    refine ⟨fun q1 => ⟨fun q2 => ?_, fun q2 => fun H hH => ?_⟩, fun q1 => fun H hH => ?_⟩
    · -- a letter
      have h1 : c.toInt ≠ ((Int8.ofInt 33).toInt32).toInt := (y_ci .ne _ _).mp q1
      have h2 : c.toInt ≠ ((Int8.ofInt 40).toInt32).toInt := (y_ci .ne _ _).mp q2
      rw [c33] at h1
      rw [c40] at h2
      have hq : q = p + 1 := by
        rcases hE with ⟨x, -⟩ | ⟨-, x⟩ | ⟨x, -⟩
        · omega
        · exact x
        · omega
      subst hq
      refine ⟨fun _ => ⟨by decide, by decide, fun H hH => ?_⟩, fun _ => ⟨by decide, by decide, fun H hH => ?_⟩⟩
      · have f : y_fr G H [] [] := y_st (y_rf e.1) hH (by repeat (first | exact w_nil | refine w_cons (Or.inl (y_m rfl)) ?_ | refine w_cons (Or.inr (by assumption)) ?_)) (by repeat (first | exact w_nil | refine w_cons (Or.inl (y_m rfl)) ?_ | refine w_cons (Or.inr (by assumption)) ?_))
        exact hK false H (y_sq e f rfl rfl) (y_es_fr s2 f)
      · have f : y_fr G H [] [] := y_st (y_rf e.1) hH (by repeat (first | exact w_nil | refine w_cons (Or.inl (y_m rfl)) ?_ | refine w_cons (Or.inr (by assumption)) ?_)) (by repeat (first | exact w_nil | refine w_cons (Or.inl (y_m rfl)) ?_ | refine w_cons (Or.inr (by assumption)) ?_))
        exact hK true H (y_sq e f rfl rfl) (y_es_fr s2 f)
    · -- in brackets
      have h2 : ¬ (c.toInt ≠ ((Int8.ofInt 40).toInt32).toInt) := y_cif q2
      rw [c40] at h2
      obtain ⟨r1, hE1, hq⟩ : ∃ r1, y_E (y_tx sg r) st n 2 (p + 1) r1 ∧ q = r1 + 1 := by
        rcases hE with ⟨x, -⟩ | ⟨x, -⟩ | ⟨-, r1, x, -, y⟩
        · omega
        · omega
        · exact ⟨r1, x, y⟩
      have f : y_fr G H [] [] := y_st (y_rf e.1) hH (by repeat (first | exact w_nil | refine w_cons (Or.inl (y_m rfl)) ?_ | refine w_cons (Or.inr (by assumption)) ?_)) (by repeat (first | exact w_nil | refine w_cons (Or.inl (y_m rfl)) ?_ | refine w_cons (Or.inr (by assumption)) ?_))
      refine aOK_deep (d := n + d + 2) (by omega) (ih 2 H _ sg r (p + 1) r1 st way true none (by decide) (y_es_fr s2 f) hE1 (by omega) (fun b' H2 f2 s3 => ⟨fun n e => (by cases e), ?_⟩))
      exact T59 (y_sq (y_sq e f rfl rfl) f2 rfl rfl) s3 hq
    · -- not
      have h1 : ¬ (c.toInt ≠ ((Int8.ofInt 33).toInt32).toInt) := y_cif q1
      rw [c33] at h1
      have hE1 : y_E (y_tx sg r) st n 0 (p + 1) q := by
        rcases hE with ⟨-, x⟩ | ⟨x, -⟩ | ⟨x, -⟩
        · exact x
        · omega
        · omega
      have f : y_fr G H [] [] := y_st (y_rf e.1) hH (by repeat (first | exact w_nil | refine w_cons (Or.inl (y_m rfl)) ?_ | refine w_cons (Or.inr (by assumption)) ?_)) (by repeat (first | exact w_nil | refine w_cons (Or.inl (y_m rfl)) ?_ | refine w_cons (Or.inr (by assumption)) ?_))
      refine aOK_deep (d := n + d + 2) (by omega) (ih 0 H _ sg r (p + 1) q st way true none (by decide) (y_es_fr s2 f) hE1 q40 (fun b' H2 f2 s3 => ⟨fun n e => (by cases e), ?_⟩))
      exact T47 (y_sq (y_sq e f rfl rfl) f2 rfl rfl) s3
  refine w_go z_hl [28] [] 40 hr ?_
  intro x hx _ _
  obtain rfl := y_fi a2 hx
  intro y hy _ _
  obtain rfl := y_fi a4 hy
  refine ⟨bx, fun l hl len bb => ?_⟩
  obtain rfl := y_ai a1 hl
  refine ⟨rfl, y_zini (by show 0 ≤ (pI + Int32.ofInt 1).toInt; omega) (by show (pI + Int32.ofInt 1).toInt ≤ 40; omega), fun H hH => ?_⟩
  have f : y_fr h H [19617] [] := y_st (y_mo (y_rf hr) rfl rfl) hH (by repeat (first | exact w_nil | refine w_cons (Or.inl (y_m rfl)) ?_ | refine w_cons (Or.inr (by assumption)) ?_)) (by repeat (first | exact w_nil | refine w_cons (Or.inl (y_m rfl)) ?_ | refine w_cons (Or.inr (by assumption)) ?_))
  refine T28 f (y_es_at s f (hH.2.1 19617 _ rfl) inc (by omega)) ?_
  rw [cx]
  rfl
theorem y_ev_every (ih : y_EV X C S d n) (s : y_es h sg r p st) (hE : y_E (y_tx sg r) st (n + 1) 1 p q) (q40 : q ≤ 40) (hK : ∀ (b' : Bool) (H : aH), y_fr h H [19617] [] → y_es H sg r q st → K0 (some (.int (y_01 b'))) H C S) : aOK s_P X (n + 1 + d + 2) a_m239 0 [some (.ref 155), some (.int way), none, none] [] h C S K0 := by
  obtain ⟨r1, hE1, hE2⟩ := hE
  have le := (y_E_lt (T := y_tx sg r) (st := st) n).2.1 hE2
  obtain ⟨hr, -, -⟩ := y_es_hr s
  have T5 : ∀ {G : aH} {b : Bool}, y_fr h G [19617] [] → y_es G sg r r1 st → aOK s_P X (n + 1 + d + 2) a_m239 5 [some (.ref 155), some (.int way), none, none] [.int (y_01 b)] G C S K0 := by
    intro G b e s2
    refine w_go z_hl [6] [] 40 e.1 ?_
    intro H hH
    have f : y_fr G H [] [] := y_st (y_rf e.1) hH (by repeat (first | exact w_nil | refine w_cons (Or.inl (y_m rfl)) ?_ | refine w_cons (Or.inr (by assumption)) ?_)) (by repeat (first | exact w_nil | refine w_cons (Or.inl (y_m rfl)) ?_ | refine w_cons (Or.inr (by assumption)) ?_))
    exact aOK_deep (d := n + d + 2) (by omega) (ih 3 H _ sg r r1 q st way b none (by decide) (y_es_fr s2 f) hE2 q40 (fun b' H2 f2 s3 => hK b' H2 (y_sq (y_sq e f rfl rfl) f2 rfl rfl) s3))
  refine w_go z_hl [] [240] 40 hr ?_
  intro H hH
  have f : y_fr h H [] [] := y_st (y_rf hr) hH (by repeat (first | exact w_nil | refine w_cons (Or.inl (y_m rfl)) ?_ | refine w_cons (Or.inr (by assumption)) ?_)) (by repeat (first | exact w_nil | refine w_cons (Or.inl (y_m rfl)) ?_ | refine w_cons (Or.inr (by assumption)) ?_))
  refine aOK_deep (d := n + d + 2) (by omega) (ih 0 H _ sg r p r1 st way true none (by decide) (y_es_fr s f) hE1 (by omega) (fun b' H2 f2 s3 => ⟨fun n e => (by cases e), ?_⟩))
  exact T5 (y_sq (y_mo f rfl rfl) f2 rfl rfl) s3
theorem y_ev_and (ih : y_EV X C S d n) {b : Bool} {o3 : Option Value} (s : y_es h sg r p st) (hE : y_E (y_tx sg r) st (n + 1) 3 p q) (q40 : q ≤ 40) (hK : ∀ (b' : Bool) (H : aH), y_fr h H [19617] [] → y_es H sg r q st → K0 (some (.int (y_01 b'))) H C S) : aOK s_P X (n + 1 + d + 2) a_m239 6 [some (.ref 155), some (.int way), some (.int (y_01 b)), o3] [] h C S K0 := by
  obtain ⟨rI, pI, sI, hr, a1, a2, a3, a4, a5, a6, a7, a8, a9⟩ := id s
  have ix : ((Int8.ofInt 40).toInt32 * rI + pI).toInt = ((40 * r + p : Nat) : Int) := y_addS _ (y_mulS _ y_c40 a3 rfl (by omega)) a5 rfl (by omega)
  have cx := y_cl1 ix
  have bx : 0 ≤ ((Int8.ofInt 40).toInt32 * rI + pI).toInt ∧ ((Int8.ofInt 40).toInt32 * rI + pI).toInt < ((520 : Nat) : Int) := by omega
  have c38 : ((Int8.ofInt 38).toInt32).toInt = 38 := by decide
  have T72 : ∀ {G : aH}, y_fr h G [] [] → ¬ (y_tx sg r p = 38 ∧ p < st) → aOK s_P X (n + 1 + d + 2) a_m239 72 [some (.ref 155), some (.int way), some (.int (y_01 b)), o3] [] G C S K0 := by
    intro G e hne
    have hq : q = p := by
      rcases hE with ⟨-, x⟩ | ⟨x, y, -⟩
      · exact x
      · exact absurd ⟨x, y⟩ hne
    subst hq
    refine w_go z_hl [] [] 40 e.1 ?_
    exact ⟨y_01b b, fun H hH => hK b H (y_mo (y_st e hH (by repeat (first | exact w_nil | refine w_cons (Or.inl (y_m rfl)) ?_ | refine w_cons (Or.inr (by assumption)) ?_)) (by repeat (first | exact w_nil | refine w_cons (Or.inl (y_m rfl)) ?_ | refine w_cons (Or.inr (by assumption)) ?_))) rfl rfl) (y_es_fr s (y_st e hH (by repeat (first | exact w_nil | refine w_cons (Or.inl (y_m rfl)) ?_ | refine w_cons (Or.inr (by assumption)) ?_)) (by repeat (first | exact w_nil | refine w_cons (Or.inl (y_m rfl)) ?_ | refine w_cons (Or.inr (by assumption)) ?_))))⟩
  have T39 : ∀ {G : aH}, y_fr h G [] [] → y_tx sg r p = 38 → p < st → aOK s_P X (n + 1 + d + 2) a_m239 39 [some (.ref 155), some (.int way), some (.int (y_01 b)), o3] [] G C S K0 := by
    intro G e hc hst
    obtain ⟨s1, hE1, hE2⟩ : ∃ s1, y_E (y_tx sg r) st n 0 (p + 1) s1 ∧ y_E (y_tx sg r) st n 3 s1 q := by
      rcases hE with ⟨x, -⟩ | ⟨-, -, s1, x, y⟩
      · exact absurd ⟨hc, hst⟩ x
      · exact ⟨s1, x, y⟩
    have lt := (y_E_lt (T := y_tx sg r) (st := st) n).1 0 (by decide) hE1
    have le := (y_E_lt (T := y_tx sg r) (st := st) n).2.1 hE2
    have inc : (pI + Int32.ofInt 1).toInt = ((p + 1 : Nat) : Int) := by rw [y_inc (by omega), a5]; rfl
    have go : ∀ {G : aH} {b2 : Bool} {x3 : Int32}, y_fr h G [19617] [] → y_es G sg r s1 st → aOK s_P X (n + 1 + d + 2) a_m239 6 [some (.ref 155), some (.int way), some (.int (y_01 b2)), some (.int x3)] [] G C S K0 := by
      intro G b2 x3 e2 s2
      exact aOK_deep (d := n + d + 2) (by omega) (ih 3 G _ sg r s1 q st way b2 _ (by decide) s2 hE2 q40 (fun b' H2 f2 s3 => hK b' H2 (y_sq e2 f2 rfl rfl) s3))
    have T54 : ∀ {G : aH} {b2 : Bool}, y_fr h G [19617] [] → y_es G sg r s1 st → aOK s_P X (n + 1 + d + 2) a_m239 54 [some (.ref 155), some (.int way), some (.int (y_01 b)), o3] [.int (y_01 b2)] G C S K0 := by
      intro G b2 e2 s2
      refine w_go z_hl [6] [] 40 e2.1 ?_
      refine ⟨fun _ => fun H hH => ?_, fun _ => ⟨fun _ => fun H hH => ?_, fun _ => fun H hH => ?_⟩⟩
      · have f : y_fr G H [] [] := y_st (y_rf e2.1) hH (by repeat (first | exact w_nil | refine w_cons (Or.inl (y_m rfl)) ?_ | refine w_cons (Or.inr (by assumption)) ?_)) (by repeat (first | exact w_nil | refine w_cons (Or.inl (y_m rfl)) ?_ | refine w_cons (Or.inr (by assumption)) ?_))
        exact go (b2 := false) (y_sq e2 f rfl rfl) (y_es_fr s2 f)
      · have f : y_fr G H [] [] := y_st (y_rf e2.1) hH (by repeat (first | exact w_nil | refine w_cons (Or.inl (y_m rfl)) ?_ | refine w_cons (Or.inr (by assumption)) ?_)) (by repeat (first | exact w_nil | refine w_cons (Or.inl (y_m rfl)) ?_ | refine w_cons (Or.inr (by assumption)) ?_))
        exact go (b2 := false) (y_sq e2 f rfl rfl) (y_es_fr s2 f)
      · have f : y_fr G H [] [] := y_st (y_rf e2.1) hH (by repeat (first | exact w_nil | refine w_cons (Or.inl (y_m rfl)) ?_ | refine w_cons (Or.inr (by assumption)) ?_)) (by repeat (first | exact w_nil | refine w_cons (Or.inl (y_m rfl)) ?_ | refine w_cons (Or.inr (by assumption)) ?_))
        exact go (b2 := true) (y_sq e2 f rfl rfl) (y_es_fr s2 f)
    refine w_go z_hl [] [240] 40 e.1 ?_
    intro x hx _ _
    obtain rfl := y_fi ((y_fe e rfl).trans a4) hx
    refine ⟨rfl, y_zini (by show 0 ≤ (pI + Int32.ofInt 1).toInt; omega) (by show (pI + Int32.ofInt 1).toInt ≤ 40; omega), fun H hH => ?_⟩
    have f : y_fr G H [19617] [] := y_st (y_mo (y_rf e.1) rfl rfl) hH (by repeat (first | exact w_nil | refine w_cons (Or.inl (y_m rfl)) ?_ | refine w_cons (Or.inr (by assumption)) ?_)) (by repeat (first | exact w_nil | refine w_cons (Or.inl (y_m rfl)) ?_ | refine w_cons (Or.inr (by assumption)) ?_))
    have e2 : y_fr h H [19617] [] := y_sq (y_mo e rfl rfl) f rfl rfl
    refine aOK_deep (d := n + d + 2) (by omega) (ih 0 H _ sg r (p + 1) s1 st way true none (by decide) (y_es_at s e2 (hH.2.1 19617 _ rfl) inc (by omega)) hE1 (by omega) (fun b' H2 f2 s3 => ⟨fun n e => (by cases e), ?_⟩))
    exact T54 (y_sq e2 f2 rfl rfl) s3
  refine w_go z_hl [39, 72] [] 40 hr ?_
  intro x hx _ _
  obtain rfl := y_fi a2 hx
  intro y hy _ _
  obtain rfl := y_fi a4 hy
  refine ⟨bx, fun l hl len bb => ?_⟩
  obtain rfl := y_ai a1 hl
  refine ⟨fun q1 => fun H hH => ?_, fun q1 => ?_⟩
  · have h1 : (sg.getD ((Int8.ofInt 40).toInt32 * rI + pI).toNatClampNeg 0).toInt ≠ ((Int8.ofInt 38).toInt32).toInt := (y_ci .ne _ _).mp q1
    rw [cx, c38] at h1
    exact T72 (y_st (y_rf hr) hH (by repeat (first | exact w_nil | refine w_cons (Or.inl (y_m rfl)) ?_ | refine w_cons (Or.inr (by assumption)) ?_)) (by repeat (first | exact w_nil | refine w_cons (Or.inl (y_m rfl)) ?_ | refine w_cons (Or.inr (by assumption)) ?_))) (fun x => h1 x.1)
  · have h1 : ¬ ((sg.getD ((Int8.ofInt 40).toInt32 * rI + pI).toNatClampNeg 0).toInt ≠ ((Int8.ofInt 38).toInt32).toInt) := y_cif q1
    rw [cx, c38] at h1
    intro z hz _ _
    obtain rfl := y_fi a6 hz
    refine ⟨fun q2 => fun H hH => ?_, fun q2 => fun H hH => ?_⟩
    · have h2 : sI.toInt ≤ pI.toInt := (y_ci .ge _ _).mp q2
      exact T72 (y_st (y_rf hr) hH (by repeat (first | exact w_nil | refine w_cons (Or.inl (y_m rfl)) ?_ | refine w_cons (Or.inr (by assumption)) ?_)) (by repeat (first | exact w_nil | refine w_cons (Or.inl (y_m rfl)) ?_ | refine w_cons (Or.inr (by assumption)) ?_))) (fun x => by have := x.2; omega)
    · have h2 : ¬ (sI.toInt ≤ pI.toInt) := y_cif q2
      exact T39 (y_st (y_rf hr) hH (by repeat (first | exact w_nil | refine w_cons (Or.inl (y_m rfl)) ?_ | refine w_cons (Or.inr (by assumption)) ?_)) (by repeat (first | exact w_nil | refine w_cons (Or.inl (y_m rfl)) ?_ | refine w_cons (Or.inr (by assumption)) ?_))) (Decidable.not_not.mp h1) (by omega)
theorem y_ev_event (ih : y_EV X C S d n) (s : y_es h sg r p st) (hE : y_E (y_tx sg r) st (n + 1) 2 p q) (q40 : q ≤ 40) (hK : ∀ (b' : Bool) (H : aH), y_fr h H [19617] [] → y_es H sg r q st → K0 (some (.int (y_01 b'))) H C S) : aOK s_P X (n + 1 + d + 2) a_m238 0 [some (.ref 155), some (.int way), none, none] [] h C S K0 := by
  obtain ⟨r1, hE1, hE2⟩ := hE
  have le := (y_E_lt (T := y_tx sg r) (st := st) n).2.2 hE2
  obtain ⟨hr, -, -⟩ := y_es_hr s
  have T5 : ∀ {G : aH} {b : Bool}, y_fr h G [19617] [] → y_es G sg r r1 st → aOK s_P X (n + 1 + d + 2) a_m238 5 [some (.ref 155), some (.int way), none, none] [.int (y_01 b)] G C S K0 := by
    intro G b e s2
    refine w_go z_hl [6] [] 40 e.1 ?_
    intro H hH
    have f : y_fr G H [] [] := y_st (y_rf e.1) hH (by repeat (first | exact w_nil | refine w_cons (Or.inl (y_m rfl)) ?_ | refine w_cons (Or.inr (by assumption)) ?_)) (by repeat (first | exact w_nil | refine w_cons (Or.inl (y_m rfl)) ?_ | refine w_cons (Or.inr (by assumption)) ?_))
    exact aOK_deep (d := n + d + 2) (by omega) (ih 4 H _ sg r r1 q st way b none (by decide) (y_es_fr s2 f) hE2 q40 (fun b' H2 f2 s3 => hK b' H2 (y_sq (y_sq e f rfl rfl) f2 rfl rfl) s3))
  refine w_go z_hl [] [239] 40 hr ?_
  intro H hH
  have f : y_fr h H [] [] := y_st (y_rf hr) hH (by repeat (first | exact w_nil | refine w_cons (Or.inl (y_m rfl)) ?_ | refine w_cons (Or.inr (by assumption)) ?_)) (by repeat (first | exact w_nil | refine w_cons (Or.inl (y_m rfl)) ?_ | refine w_cons (Or.inr (by assumption)) ?_))
  refine aOK_deep (d := n + d + 2) (by omega) (ih 1 H _ sg r p r1 st way true none (by decide) (y_es_fr s f) hE1 (by omega) (fun b' H2 f2 s3 => ⟨fun n e => (by cases e), ?_⟩))
  exact T5 (y_sq (y_mo f rfl rfl) f2 rfl rfl) s3
theorem y_ev_or (ih : y_EV X C S d n) {b : Bool} {o3 : Option Value} (s : y_es h sg r p st) (hE : y_E (y_tx sg r) st (n + 1) 4 p q) (q40 : q ≤ 40) (hK : ∀ (b' : Bool) (H : aH), y_fr h H [19617] [] → y_es H sg r q st → K0 (some (.int (y_01 b'))) H C S) : aOK s_P X (n + 1 + d + 2) a_m238 6 [some (.ref 155), some (.int way), some (.int (y_01 b)), o3] [] h C S K0 := by
  obtain ⟨rI, pI, sI, hr, a1, a2, a3, a4, a5, a6, a7, a8, a9⟩ := id s
  have ix : ((Int8.ofInt 40).toInt32 * rI + pI).toInt = ((40 * r + p : Nat) : Int) := y_addS _ (y_mulS _ y_c40 a3 rfl (by omega)) a5 rfl (by omega)
  have cx := y_cl1 ix
  have bx : 0 ≤ ((Int8.ofInt 40).toInt32 * rI + pI).toInt ∧ ((Int8.ofInt 40).toInt32 * rI + pI).toInt < ((520 : Nat) : Int) := by omega
  have c124 : ((Int8.ofInt 124).toInt32).toInt = 124 := by decide
  have T72 : ∀ {G : aH}, y_fr h G [] [] → ¬ (y_tx sg r p = 124 ∧ p < st) → aOK s_P X (n + 1 + d + 2) a_m238 72 [some (.ref 155), some (.int way), some (.int (y_01 b)), o3] [] G C S K0 := by
    intro G e hne
    have hq : q = p := by
      rcases hE with ⟨-, x⟩ | ⟨x, y, -⟩
      · exact x
      · exact absurd ⟨x, y⟩ hne
    subst hq
    refine w_go z_hl [] [] 40 e.1 ?_
    exact ⟨y_01b b, fun H hH => hK b H (y_mo (y_st e hH (by repeat (first | exact w_nil | refine w_cons (Or.inl (y_m rfl)) ?_ | refine w_cons (Or.inr (by assumption)) ?_)) (by repeat (first | exact w_nil | refine w_cons (Or.inl (y_m rfl)) ?_ | refine w_cons (Or.inr (by assumption)) ?_))) rfl rfl) (y_es_fr s (y_st e hH (by repeat (first | exact w_nil | refine w_cons (Or.inl (y_m rfl)) ?_ | refine w_cons (Or.inr (by assumption)) ?_)) (by repeat (first | exact w_nil | refine w_cons (Or.inl (y_m rfl)) ?_ | refine w_cons (Or.inr (by assumption)) ?_))))⟩
  have T39 : ∀ {G : aH}, y_fr h G [] [] → y_tx sg r p = 124 → p < st → aOK s_P X (n + 1 + d + 2) a_m238 39 [some (.ref 155), some (.int way), some (.int (y_01 b)), o3] [] G C S K0 := by
    intro G e hc hst
    obtain ⟨s1, hE1, hE2⟩ : ∃ s1, y_E (y_tx sg r) st n 1 (p + 1) s1 ∧ y_E (y_tx sg r) st n 4 s1 q := by
      rcases hE with ⟨x, -⟩ | ⟨-, -, s1, x, y⟩
      · exact absurd ⟨hc, hst⟩ x
      · exact ⟨s1, x, y⟩
    have lt := (y_E_lt (T := y_tx sg r) (st := st) n).1 1 (by decide) hE1
    have le := (y_E_lt (T := y_tx sg r) (st := st) n).2.2 hE2
    have inc : (pI + Int32.ofInt 1).toInt = ((p + 1 : Nat) : Int) := by rw [y_inc (by omega), a5]; rfl
    have go : ∀ {G : aH} {b2 : Bool} {x3 : Int32}, y_fr h G [19617] [] → y_es G sg r s1 st → aOK s_P X (n + 1 + d + 2) a_m238 6 [some (.ref 155), some (.int way), some (.int (y_01 b2)), some (.int x3)] [] G C S K0 := by
      intro G b2 x3 e2 s2
      exact aOK_deep (d := n + d + 2) (by omega) (ih 4 G _ sg r s1 q st way b2 _ (by decide) s2 hE2 q40 (fun b' H2 f2 s3 => hK b' H2 (y_sq e2 f2 rfl rfl) s3))
    have T54 : ∀ {G : aH} {b2 : Bool}, y_fr h G [19617] [] → y_es G sg r s1 st → aOK s_P X (n + 1 + d + 2) a_m238 54 [some (.ref 155), some (.int way), some (.int (y_01 b)), o3] [.int (y_01 b2)] G C S K0 := by
      intro G b2 e2 s2
      refine w_go z_hl [6] [] 40 e2.1 ?_
      refine ⟨fun _ => fun H hH => ?_, fun _ => ⟨fun _ => fun H hH => ?_, fun _ => fun H hH => ?_⟩⟩
      · have f : y_fr G H [] [] := y_st (y_rf e2.1) hH (by repeat (first | exact w_nil | refine w_cons (Or.inl (y_m rfl)) ?_ | refine w_cons (Or.inr (by assumption)) ?_)) (by repeat (first | exact w_nil | refine w_cons (Or.inl (y_m rfl)) ?_ | refine w_cons (Or.inr (by assumption)) ?_))
        exact go (b2 := true) (y_sq e2 f rfl rfl) (y_es_fr s2 f)
      · have f : y_fr G H [] [] := y_st (y_rf e2.1) hH (by repeat (first | exact w_nil | refine w_cons (Or.inl (y_m rfl)) ?_ | refine w_cons (Or.inr (by assumption)) ?_)) (by repeat (first | exact w_nil | refine w_cons (Or.inl (y_m rfl)) ?_ | refine w_cons (Or.inr (by assumption)) ?_))
        exact go (b2 := false) (y_sq e2 f rfl rfl) (y_es_fr s2 f)
      · have f : y_fr G H [] [] := y_st (y_rf e2.1) hH (by repeat (first | exact w_nil | refine w_cons (Or.inl (y_m rfl)) ?_ | refine w_cons (Or.inr (by assumption)) ?_)) (by repeat (first | exact w_nil | refine w_cons (Or.inl (y_m rfl)) ?_ | refine w_cons (Or.inr (by assumption)) ?_))
        exact go (b2 := true) (y_sq e2 f rfl rfl) (y_es_fr s2 f)
    refine w_go z_hl [] [239] 40 e.1 ?_
    intro x hx _ _
    obtain rfl := y_fi ((y_fe e rfl).trans a4) hx
    refine ⟨rfl, y_zini (by show 0 ≤ (pI + Int32.ofInt 1).toInt; omega) (by show (pI + Int32.ofInt 1).toInt ≤ 40; omega), fun H hH => ?_⟩
    have f : y_fr G H [19617] [] := y_st (y_mo (y_rf e.1) rfl rfl) hH (by repeat (first | exact w_nil | refine w_cons (Or.inl (y_m rfl)) ?_ | refine w_cons (Or.inr (by assumption)) ?_)) (by repeat (first | exact w_nil | refine w_cons (Or.inl (y_m rfl)) ?_ | refine w_cons (Or.inr (by assumption)) ?_))
    have e2 : y_fr h H [19617] [] := y_sq (y_mo e rfl rfl) f rfl rfl
    refine aOK_deep (d := n + d + 2) (by omega) (ih 1 H _ sg r (p + 1) s1 st way true none (by decide) (y_es_at s e2 (hH.2.1 19617 _ rfl) inc (by omega)) hE1 (by omega) (fun b' H2 f2 s3 => ⟨fun n e => (by cases e), ?_⟩))
    exact T54 (y_sq e2 f2 rfl rfl) s3
  refine w_go z_hl [39, 72] [] 40 hr ?_
  intro x hx _ _
  obtain rfl := y_fi a2 hx
  intro y hy _ _
  obtain rfl := y_fi a4 hy
  refine ⟨bx, fun l hl len bb => ?_⟩
  obtain rfl := y_ai a1 hl
  refine ⟨fun q1 => fun H hH => ?_, fun q1 => ?_⟩
  · have h1 : (sg.getD ((Int8.ofInt 40).toInt32 * rI + pI).toNatClampNeg 0).toInt ≠ ((Int8.ofInt 124).toInt32).toInt := (y_ci .ne _ _).mp q1
    rw [cx, c124] at h1
    exact T72 (y_st (y_rf hr) hH (by repeat (first | exact w_nil | refine w_cons (Or.inl (y_m rfl)) ?_ | refine w_cons (Or.inr (by assumption)) ?_)) (by repeat (first | exact w_nil | refine w_cons (Or.inl (y_m rfl)) ?_ | refine w_cons (Or.inr (by assumption)) ?_))) (fun x => h1 x.1)
  · have h1 : ¬ ((sg.getD ((Int8.ofInt 40).toInt32 * rI + pI).toNatClampNeg 0).toInt ≠ ((Int8.ofInt 124).toInt32).toInt) := y_cif q1
    rw [cx, c124] at h1
    intro z hz _ _
    obtain rfl := y_fi a6 hz
    refine ⟨fun q2 => fun H hH => ?_, fun q2 => fun H hH => ?_⟩
    · have h2 : sI.toInt ≤ pI.toInt := (y_ci .ge _ _).mp q2
      exact T72 (y_st (y_rf hr) hH (by repeat (first | exact w_nil | refine w_cons (Or.inl (y_m rfl)) ?_ | refine w_cons (Or.inr (by assumption)) ?_)) (by repeat (first | exact w_nil | refine w_cons (Or.inl (y_m rfl)) ?_ | refine w_cons (Or.inr (by assumption)) ?_))) (fun x => by have := x.2; omega)
    · have h2 : ¬ (sI.toInt ≤ pI.toInt) := y_cif q2
      exact T39 (y_st (y_rf hr) hH (by repeat (first | exact w_nil | refine w_cons (Or.inl (y_m rfl)) ?_ | refine w_cons (Or.inr (by assumption)) ?_)) (by repeat (first | exact w_nil | refine w_cons (Or.inl (y_m rfl)) ?_ | refine w_cons (Or.inr (by assumption)) ?_))) (Decidable.not_not.mp h1) (by omega)
theorem y_evs : ∀ (n : Nat), y_EV X C S d n
  | 0 => fun k h K0 sg r p q st way b o3 _ _ hE => hE.elim
  | n + 1 => fun k h K0 sg r p q st way b o3 hk s hE q40 hK => by
    have ih := y_evs n
    match k, hk, hE with
    | 0, _, hE => exact y_ev_thing ih s hE q40 hK
    | 1, _, hE => exact y_ev_every ih s hE q40 hK
    | 2, _, hE => exact y_ev_event ih s hE q40 hK
    | 3, _, hE => exact y_ev_and ih s hE q40 hK
    | 4, _, hE => exact y_ev_or ih s hE q40 hK
theorem y_isOf {h : aH} (hr : w_hr z_D h) {rI fI tI way : Int32} {r b f : Nat} {sg : List Int32} (g : w_a h 170 = some (0, .inl sg)) (h1 : rI.toInt = r) (r11 : r ≤ 11) (h2 : fI.toInt = b) (h3 : tI.toInt = f) (f40 : f ≤ 40) (hE : y_E (y_tx sg r) f 163 2 b f) (hK : ∀ (b' : Bool) (H : aH), y_fr h H [19616, 19617, 19618] [] → K0 (some (.int (y_01 b'))) H C S) : aOK s_P X (d + 166) a_m237 0 [some (.ref 155), some (.int rI), some (.int fI), some (.int tI), some (.int way)] [] h C S K0 := by
  have lt := (y_E_lt (T := y_tx sg r) (st := f) 163).1 2 (by decide) hE
  have T21 : ∀ {G : aH} {b' : Bool}, y_fr h G [19616, 19617, 19618] [] → aOK s_P X (d + 166) a_m237 21 [some (.ref 155), some (.int rI), some (.int fI), some (.int tI), some (.int way)] [.int (y_01 b')] G C S K0 := by
    intro G b' e
    refine w_go z_hl [] [] 40 e.1 ?_
    exact ⟨y_01b b', fun H hH => hK b' H (y_st e hH (by repeat (first | exact w_nil | refine w_cons (Or.inl (y_m rfl)) ?_ | refine w_cons (Or.inr (by assumption)) ?_)) (by repeat (first | exact w_nil | refine w_cons (Or.inl (y_m rfl)) ?_ | refine w_cons (Or.inr (by assumption)) ?_)))⟩
  refine w_go z_hl [] [238] 40 hr ?_
  refine ⟨rfl, y_zini (by show 0 ≤ rI.toInt; omega) (by show rI.toInt ≤ 11; omega), rfl, y_zini (by show 0 ≤ fI.toInt; omega) (by show fI.toInt ≤ 40; omega), rfl, y_zini (by show -1 ≤ tI.toInt; omega) (by show tI.toInt ≤ 40; omega), fun H hH => ?_⟩
  have e : y_fr h H [19616, 19617, 19618] [] := y_st (y_mo (y_rf hr) rfl rfl) hH (by repeat (first | exact w_nil | refine w_cons (Or.inl (y_m rfl)) ?_ | refine w_cons (Or.inr (by assumption)) ?_)) (by repeat (first | exact w_nil | refine w_cons (Or.inl (y_m rfl)) ?_ | refine w_cons (Or.inr (by assumption)) ?_))
  refine aOK_deep (d := 163 + d + 2) (by omega) (y_evs 163 2 H _ sg r b f f way true none (by decide) ⟨rI, fI, tI, e.1, (y_ae e rfl).trans g, hH.2.1 19616 _ rfl, h1, hH.2.1 19617 _ rfl, h2, hH.2.1 19618 _ rfl, h3, r11, by omega⟩ hE f40 (fun b' H2 f2 s3 => ⟨fun n e => (by cases e), ?_⟩))
  exact T21 (y_sq e f2 rfl rfl)
end WG
end PT29g
section PT29h
/-! ===== v3: the reference's weightOfBoth, thingEnd, isJoined ===== -/
def y_sc (h : aH) (nd : Int32) (sg : List Int32) (wl : List Int64) : Prop := w_hr z_D h ∧ w_f h 19591 = some (.int nd) ∧ w_a h 170 = some (0, .inl sg) ∧ y_wl h wl
theorem y_sc_fr {h H : aH} {nd : Int32} {sg : List Int32} {wl : List Int64} {fs as : List Nat} (s : y_sc h nd sg wl) (e : y_fr h H fs as) (h1 : fs.elem 19591 = false) (h2 : as.elem 170 = false) (h3 : as.elem 163 = false) : y_sc H nd sg wl := ⟨e.1, (y_fe e h1).trans s.2.1, (y_ae e h2).trans s.2.2.1, y_wl_fr e (fun q => by rw [List.elem_iff.mpr q] at h3; cases h3) s.2.2.2⟩
section WG
variable {X : aX} {C S d : Nat} {K0 : Option Value → aH → Nat → Nat → Prop} {h : aH} {nd : Int32} {sg : List Int32} {wl : List Int64}
theorem y_isOf1 (s : y_sc h nd sg wl) {rI fI tI way : Int32} {r : Nat} (h1 : rI.toInt = r) (r11 : r ≤ 11) (ok : y_ok1 (y_tx sg r) 40 fI.toInt tI.toInt) (hK : ∀ (b' : Bool) (H : aH), y_fr h H [19616, 19617, 19618] [] → K0 (some (.int (y_01 b'))) H C S) : aOK s_P X (d + 166) a_m237 0 [some (.ref 155), some (.int rI), some (.int fI), some (.int tI), some (.int way)] [] h C S K0 := by
  obtain ⟨o1, o2, o3, o4⟩ := ok
  exact y_isOf s.1 s.2.2.1 h1 r11 (b := fI.toInt.toNat) (f := tI.toInt.toNat) (by omega) (by omega) o3 o4 hK
theorem y_wob_loop {rI fI tI gI uI : Int32} {r : Nat} (h1 : rI.toInt = r) (r11 : r ≤ 11) (okf : 0 ≤ fI.toInt → y_ok1 (y_tx sg r) 40 fI.toInt tI.toInt) (okg : 0 ≤ gI.toInt → y_ok1 (y_tx sg r) 40 gI.toInt uI.toInt) : ∀ (t : Nat) (h : aH) (sum : Int64) (wI : Int32) (k : Nat) (o9 : Option Value), y_sc h nd sg wl → wI.toInt = k → k + t = y_ways nd → 0 ≤ sum.toInt → sum.toInt ≤ y_tot wl k →
    (∀ (x : Int64) (H : aH), y_fr h H [19616, 19617, 19618] [] → 0 ≤ x.toInt → x.toInt ≤ 100000000 → K0 (some (.long x)) H C S) →
    aOK s_P X (d + 167) a_m236 6 [some (.ref 155), some (.int rI), some (.int fI), some (.int tI), some (.int gI), some (.int uI), some (.long sum), none, some (.int wI), o9] [] h C S K0 := by
  intro t
  induction t with
  | zero =>
    intro h sum wI k o9 s hk hkt s0 s1 hK
    obtain ⟨b1, b2⟩ := y_ndb s.1 s.2.1
    obtain ⟨ea, l1, l2⟩ := y_all b1 b2
    have tm := y_tot_m s.2.2.2.2.1 (show k ≤ 1024 by omega)
    have tt := s.2.2.2.2.2
    refine w_go z_hl [6] [] 40 s.1 ?_
    intro x hx _ _
    obtain rfl := y_fi s.2.1 hx
    refine ⟨fun _ => fun H hH => hK sum H (y_st (y_mo (y_rf s.1) rfl rfl) hH (by repeat (first | exact w_nil | refine w_cons (Or.inl (y_m rfl)) ?_ | refine w_cons (Or.inr (by assumption)) ?_)) (by repeat (first | exact w_nil | refine w_cons (Or.inl (y_m rfl)) ?_ | refine w_cons (Or.inr (by assumption)) ?_))) s0 (by omega), fun q => ?_⟩
    have : ¬ ((Int32.ofInt 1 <<< (nd &&& 31) - Int32.ofInt 1).toInt < wI.toInt) := y_cif q
    omega
  | succ t ih =>
    intro h sum wI k o9 s hk hkt s0 s1 hK
    obtain ⟨b1, b2⟩ := y_ndb s.1 s.2.1
    obtain ⟨ea, l1, l2⟩ := y_all b1 b2
    have tm := y_tot_m s.2.2.2.2.1 (show k + 1 ≤ 1024 by omega)
    have tt := s.2.2.2.2.2
    have t1 : y_tot wl (k + 1) = y_tot wl k + (wl.getD k 0).toInt := rfl
    have hg := y_getD s.2.2.2.2.1 k
    have kc := y_cl1 hk
    have ink : (wI + Int32.ofInt 1).toInt = ((k + 1 : Nat) : Int) := by rw [y_inc (by omega), hk]; rfl
    have next : ∀ {G : aH} {x : Int64} {o9 : Option Value}, y_fr h G [19616, 19617, 19618] [] → 0 ≤ x.toInt → x.toInt ≤ (wl.getD k 0).toInt → aOK s_P X (d + 167) a_m236 6 [some (.ref 155), some (.int rI), some (.int fI), some (.int tI), some (.int gI), some (.int uI), some (.long (sum + x)), none, some (.int (wI + Int32.ofInt 1)), o9] [] G C S K0 := by
      intro G x o9 e x0 x1
      have ad : (sum + x).toInt = sum.toInt + x.toInt := y_add (by omega) (by omega)
      exact ih G _ _ (k + 1) _ (y_sc_fr s e rfl rfl rfl) ink (by omega) (by omega) (by omega) (fun y H f y0 y1 => hK y H (y_sq e f rfl rfl) y0 y1)
    have T55 : ∀ {G : aH} {b : Bool}, y_fr h G [19616, 19617, 19618] [] → aOK s_P X (d + 167) a_m236 55 [some (.ref 155), some (.int rI), some (.int fI), some (.int tI), some (.int gI), some (.int uI), some (.long sum), none, some (.int wI), o9] [.int (y_01 b)] G C S K0 := by
      intro G b e
      refine w_go z_hl [6] [] 40 e.1 ?_
      refine ⟨fun _ => fun H hH => next (y_st e hH (by repeat (first | exact w_nil | refine w_cons (Or.inl (y_m rfl)) ?_ | refine w_cons (Or.inr (by assumption)) ?_)) (by repeat (first | exact w_nil | refine w_cons (Or.inl (y_m rfl)) ?_ | refine w_cons (Or.inr (by assumption)) ?_))) (by decide) hg, fun _ => ?_⟩
      refine ⟨⟨by omega, by omega⟩, fun l hl len bb => fun H hH => ?_⟩
      obtain rfl := y_al ((y_ae e rfl).trans s.2.2.2.1) hl
      have hgx : 0 ≤ (wl.getD wI.toNatClampNeg 0).toInt ∧ (wl.getD wI.toNatClampNeg 0).toInt ≤ (wl.getD k 0).toInt := by
        rw [kc]
        omega
      exact next (y_st e hH (by repeat (first | exact w_nil | refine w_cons (Or.inl (y_m rfl)) ?_ | refine w_cons (Or.inr (by assumption)) ?_)) (by repeat (first | exact w_nil | refine w_cons (Or.inl (y_m rfl)) ?_ | refine w_cons (Or.inr (by assumption)) ?_))) hgx.1 hgx.2
    have T47 : ∀ {G : aH} {b : Bool}, y_fr h G [19616, 19617, 19618] [] → aOK s_P X (d + 167) a_m236 47 [some (.ref 155), some (.int rI), some (.int fI), some (.int tI), some (.int gI), some (.int uI), some (.long sum), none, some (.int wI), o9] [.int (y_01 b)] G C S K0 := by
      intro G b e
      refine w_go z_hl [55] [] 40 e.1 ?_
      exact ⟨fun _ => fun H hH => T55 (b := false) (y_st e hH (by repeat (first | exact w_nil | refine w_cons (Or.inl (y_m rfl)) ?_ | refine w_cons (Or.inr (by assumption)) ?_)) (by repeat (first | exact w_nil | refine w_cons (Or.inl (y_m rfl)) ?_ | refine w_cons (Or.inr (by assumption)) ?_))), fun _ => fun H hH => T55 (b := true) (y_st e hH (by repeat (first | exact w_nil | refine w_cons (Or.inl (y_m rfl)) ?_ | refine w_cons (Or.inr (by assumption)) ?_)) (by repeat (first | exact w_nil | refine w_cons (Or.inl (y_m rfl)) ?_ | refine w_cons (Or.inr (by assumption)) ?_)))⟩
    have T31 : ∀ {G : aH}, y_fr h G [19616, 19617, 19618] [] → aOK s_P X (d + 167) a_m236 31 [some (.ref 155), some (.int rI), some (.int fI), some (.int tI), some (.int gI), some (.int uI), some (.long sum), none, some (.int wI), o9] [] G C S K0 := by
      intro G e
      refine w_go z_hl [55] [237] 40 e.1 ?_
      refine ⟨fun _ => fun H hH => T55 (b := true) (y_st e hH (by repeat (first | exact w_nil | refine w_cons (Or.inl (y_m rfl)) ?_ | refine w_cons (Or.inr (by assumption)) ?_)) (by repeat (first | exact w_nil | refine w_cons (Or.inl (y_m rfl)) ?_ | refine w_cons (Or.inr (by assumption)) ?_))), fun q => fun H hH => ?_⟩
      have q2 : ¬ (gI.toInt < (0 : Int32).toInt) := y_cif q
      rw [show (0 : Int32).toInt = 0 by decide] at q2
      have e2 := y_st e hH (by repeat (first | exact w_nil | refine w_cons (Or.inl (y_m rfl)) ?_ | refine w_cons (Or.inr (by assumption)) ?_)) (by repeat (first | exact w_nil | refine w_cons (Or.inl (y_m rfl)) ?_ | refine w_cons (Or.inr (by assumption)) ?_))
      refine y_isOf1 (y_sc_fr s e2 rfl rfl rfl) h1 r11 (okg (by omega)) (fun b' H2 f2 => ⟨fun n e => (by cases e), ?_⟩)
      exact T47 (y_sq e2 f2 rfl rfl)
    have T28 : ∀ {G : aH} {b : Bool}, y_fr h G [19616, 19617, 19618] [] → aOK s_P X (d + 167) a_m236 28 [some (.ref 155), some (.int rI), some (.int fI), some (.int tI), some (.int gI), some (.int uI), some (.long sum), none, some (.int wI), o9] [.int (y_01 b)] G C S K0 := by
      intro G b e
      refine w_go z_hl [55, 31] [] 40 e.1 ?_
      exact ⟨fun _ => fun H hH => T55 (b := false) (y_st e hH (by repeat (first | exact w_nil | refine w_cons (Or.inl (y_m rfl)) ?_ | refine w_cons (Or.inr (by assumption)) ?_)) (by repeat (first | exact w_nil | refine w_cons (Or.inl (y_m rfl)) ?_ | refine w_cons (Or.inr (by assumption)) ?_))), fun _ => fun H hH => T31 (y_st e hH (by repeat (first | exact w_nil | refine w_cons (Or.inl (y_m rfl)) ?_ | refine w_cons (Or.inr (by assumption)) ?_)) (by repeat (first | exact w_nil | refine w_cons (Or.inl (y_m rfl)) ?_ | refine w_cons (Or.inr (by assumption)) ?_)))⟩
    refine w_go z_hl [6, 31] [237] 40 s.1 ?_
    intro x hx _ _
    obtain rfl := y_fi s.2.1 hx
    refine ⟨fun q => ?_, fun _ => ⟨fun _ => fun H hH => T31 (y_st (y_mo (y_rf s.1) rfl rfl) hH (by repeat (first | exact w_nil | refine w_cons (Or.inl (y_m rfl)) ?_ | refine w_cons (Or.inr (by assumption)) ?_)) (by repeat (first | exact w_nil | refine w_cons (Or.inl (y_m rfl)) ?_ | refine w_cons (Or.inr (by assumption)) ?_))), fun q => fun H hH => ?_⟩⟩
    · have : (Int32.ofInt 1 <<< (nd &&& 31) - Int32.ofInt 1).toInt < wI.toInt := (y_ci .gt _ _).mp q
      omega
    · have q2 : ¬ (fI.toInt < (0 : Int32).toInt) := y_cif q
      rw [show (0 : Int32).toInt = 0 by decide] at q2
      have e2 : y_fr h H [19616, 19617, 19618] [] := y_st (y_mo (y_rf s.1) rfl rfl) hH (by repeat (first | exact w_nil | refine w_cons (Or.inl (y_m rfl)) ?_ | refine w_cons (Or.inr (by assumption)) ?_)) (by repeat (first | exact w_nil | refine w_cons (Or.inl (y_m rfl)) ?_ | refine w_cons (Or.inr (by assumption)) ?_))
      refine y_isOf1 (y_sc_fr s e2 rfl rfl rfl) h1 r11 (okf (by omega)) (fun b' H2 f2 => ⟨fun n e => (by cases e), ?_⟩)
      exact T28 (y_sq e2 f2 rfl rfl)
theorem y_wob (s : y_sc h nd sg wl) {rI fI tI gI uI : Int32} {r : Nat} (h1 : rI.toInt = r) (r11 : r ≤ 11) (okf : 0 ≤ fI.toInt → y_ok1 (y_tx sg r) 40 fI.toInt tI.toInt) (okg : 0 ≤ gI.toInt → y_ok1 (y_tx sg r) 40 gI.toInt uI.toInt) (hK : ∀ (x : Int64) (H : aH), y_fr h H [19616, 19617, 19618] [] → 0 ≤ x.toInt → x.toInt ≤ 100000000 → K0 (some (.long x)) H C S) : aOK s_P X (d + 167) a_m236 0 [some (.ref 155), some (.int rI), some (.int fI), some (.int tI), some (.int gI), some (.int uI), none, none, none, none] [] h C S K0 := by
  refine w_go z_hl [6] [] 40 s.1 ?_
  intro H hH
  have e : y_fr h H [19616, 19617, 19618] [] := y_st (y_mo (y_rf s.1) rfl rfl) hH (by repeat (first | exact w_nil | refine w_cons (Or.inl (y_m rfl)) ?_ | refine w_cons (Or.inr (by assumption)) ?_)) (by repeat (first | exact w_nil | refine w_cons (Or.inl (y_m rfl)) ?_ | refine w_cons (Or.inr (by assumption)) ?_))
  exact y_wob_loop h1 r11 okf okg (y_ways nd) H _ _ 0 _ (y_sc_fr s e rfl rfl rfl) rfl (by omega) (by decide) (Int.le_refl 0) (fun y H f y0 y1 => hK y H (y_sq e f rfl rfl) y0 y1)
end WG
/-- how deep in brackets -/
def y_dp (T : Nat → Int) (p : Nat) : Nat → Int
  | 0 => 0
  | n + 1 => y_dp T p n + (if T (p + n) = 40 then 1 else 0) - (if T (p + n) = 41 then 1 else 0)
theorem y_dp_s {T : Nat → Int} {p : Nat} : ∀ (n : Nat), y_dp T p (n + 1) = (if T p = 40 then 1 else 0) - (if T p = 41 then 1 else 0) + y_dp T (p + 1) n
  | 0 => by
    show (0 : Int) + (if T (p + 0) = 40 then 1 else 0) - (if T (p + 0) = 41 then 1 else 0) = (if T p = 40 then 1 else 0) - (if T p = 41 then 1 else 0) + 0
    rw [Nat.add_zero]
    omega
  | n + 1 => by
    show y_dp T p (n + 1) + (if T (p + (n + 1)) = 40 then 1 else 0) - (if T (p + (n + 1)) = 41 then 1 else 0) = _ + (y_dp T (p + 1) n + (if T (p + 1 + n) = 40 then 1 else 0) - (if T (p + 1 + n) = 41 then 1 else 0))
    rw [y_dp_s n, show p + (n + 1) = p + 1 + n by omega]
    omega
theorem y_dp_a {T : Nat → Int} {p : Nat} (m : Nat) : ∀ (n : Nat), y_dp T p (m + n) = y_dp T p m + y_dp T (p + m) n
  | 0 => by
    show y_dp T p m = y_dp T p m + 0
    omega
  | n + 1 => by
    show y_dp T p (m + n) + (if T (p + (m + n)) = 40 then 1 else 0) - (if T (p + (m + n)) = 41 then 1 else 0) = y_dp T p m + (y_dp T (p + m) n + (if T (p + m + n) = 40 then 1 else 0) - (if T (p + m + n) = 41 then 1 else 0))
    rw [y_dp_a m n, show p + (m + n) = p + m + n by omega]
    omega
/-- brackets close; what joins things lies in brackets inside a thing -/
theorem y_E_dp {T : Nat → Int} {st : Nat} : ∀ (n : Nat) {k p q : Nat}, k < 5 → y_E T st n k p q → y_dp T p (q - p) = 0 ∧ (∀ j, p + j ≤ q → 0 ≤ y_dp T p j) ∧ (k = 0 → ∀ j, p + j < q → T (p + j) = 38 → 1 ≤ y_dp T p j) := by
  intro n
  induction n with
  | zero => exact fun _ h => h.elim
  | succ n ih =>
    intro k p q hk h
    have lt := fun {p q : Nat} => y_E_lt (T := T) (st := st) n (p := p) (q := q)
    have seq : ∀ {a b : Nat} {p r q : Nat}, a < 5 → b < 5 → y_E T st n a p r → y_E T st n b r q → p ≤ r → r ≤ q → y_dp T p (q - p) = 0 ∧ ∀ j, p + j ≤ q → 0 ≤ y_dp T p j := by
      intro a b p r q ha hb h1 h2 hpr hrq
      have i1 := ih ha h1
      have i2 := ih hb h2
      refine ⟨?_, fun j hj => ?_⟩
      · rw [show q - p = (r - p) + (q - r) by omega, y_dp_a, i1.1, show p + (r - p) = r by omega, i2.1]
        rfl
      · rcases Nat.lt_or_ge j (r - p) with q1 | q1
        · exact i1.2.1 j (by omega)
        · rw [show j = (r - p) + (j - (r - p)) by omega, y_dp_a, i1.1, show p + (r - p) = r by omega]
          have := i2.2.1 (j - (r - p)) (by omega)
          omega
    have one : ∀ {a : Nat} {p s : Nat} {c : Int}, a < 5 → T p = c → c ≠ 40 → c ≠ 41 → y_E T st n a (p + 1) s → p + 1 ≤ s → y_dp T p (s - p) = 0 ∧ ∀ j, p + j ≤ s → 0 ≤ y_dp T p j := by
      intro a p s c ha hc h40 h41 h1 hps
      have i1 := ih ha h1
      have e : ∀ j, y_dp T p (j + 1) = y_dp T (p + 1) j := fun j => by
        rw [y_dp_s, hc, if_neg h40, if_neg h41]
        omega
      refine ⟨?_, fun j hj => ?_⟩
      · rw [show s - p = (s - (p + 1)) + 1 by omega, e]
        exact i1.1
      · rcases Nat.eq_zero_or_pos j with q1 | q1
        · subst q1
          exact Int.le_refl 0
        · rw [show j = (j - 1) + 1 by omega, e]
          exact i1.2.1 (j - 1) (by omega)
    match k, hk, h with
    | 0, _, h =>
      rcases h with ⟨h0, h⟩ | ⟨h0, h⟩ | ⟨h0, r, h1, h3, h2⟩
      · have a := lt.1 0 (by decide) h
        have i1 := ih (by decide) h
        have o1 := one (by decide) h0 (by decide) (by decide) h (by omega)
        refine ⟨o1.1, o1.2, fun _ j hj h38 => ?_⟩
        rcases Nat.eq_zero_or_pos j with q1 | q1
        · subst q1
          rw [Nat.add_zero, h0] at h38
          omega
        · rw [show j = (j - 1) + 1 by omega, y_dp_s, h0, if_neg (by decide), if_neg (by decide)]
          have := i1.2.2 rfl (j - 1) (by omega) (by rw [show p + 1 + (j - 1) = p + j by omega]; exact h38)
          omega
      · subst h
        have e1 : y_dp T p 1 = 0 := by
          show (0 : Int) + (if T (p + 0) = 40 then 1 else 0) - (if T (p + 0) = 41 then 1 else 0) = 0
          rw [Nat.add_zero, if_neg (by omega), if_neg (by omega)]
          rfl
        refine ⟨by rw [show p + 1 - p = 1 by omega]; exact e1, fun j hj => ?_, fun _ j hj h38 => ?_⟩
        · have : j = 0 ∨ j = 1 := by omega
          rcases this with rfl | rfl
          · exact Int.le_refl 0
          · rw [e1]
            exact Int.le_refl 0
        · have : j = 0 := by omega
          subst this
          rw [Nat.add_zero] at h38
          omega
      · have a := lt.1 2 (by decide) h1
        have i1 := ih (by decide) h1
        have e : ∀ j, y_dp T p (j + 1) = 1 + y_dp T (p + 1) j := fun j => by
          rw [y_dp_s, h0, if_pos rfl, if_neg (by decide)]
          omega
        have er : y_dp T p (r - p) = 1 := by
          rw [show r - p = (r - (p + 1)) + 1 by omega, e, i1.1]
          rfl
        have eq : y_dp T p (q - p) = 0 := by
          rw [h2, show r + 1 - p = (r - p) + 1 by omega]
          show y_dp T p (r - p) + (if T (p + (r - p)) = 40 then 1 else 0) - (if T (p + (r - p)) = 41 then 1 else 0) = 0
          rw [show p + (r - p) = r by omega, er, h3, if_neg (by decide), if_pos rfl]
          rfl
        refine ⟨eq, fun j hj => ?_, fun _ j hj h38 => ?_⟩
        · rcases Nat.eq_zero_or_pos j with q1 | q1
          · subst q1
            exact Int.le_refl 0
          · by_cases q2 : j = q - p
            · rw [q2, eq]
              exact Int.le_refl 0
            · rw [show j = (j - 1) + 1 by omega, e]
              have := i1.2.1 (j - 1) (by omega)
              omega
        · rcases Nat.eq_zero_or_pos j with q1 | q1
          · subst q1
            rw [Nat.add_zero, h0] at h38
            omega
          · rw [show j = (j - 1) + 1 by omega, e]
            have := i1.2.1 (j - 1) (by omega)
            omega
    | 1, _, h =>
      obtain ⟨r, h1, h2⟩ := h
      have a := lt.1 0 (by decide) h1
      have b := lt.2.1 h2
      have := seq (by decide) (by decide) h1 h2 (by omega) b
      exact ⟨this.1, this.2, fun q => by omega⟩
    | 2, _, h =>
      obtain ⟨r, h1, h2⟩ := h
      have a := lt.1 1 (by decide) h1
      have b := lt.2.2 h2
      have := seq (by decide) (by decide) h1 h2 (by omega) b
      exact ⟨this.1, this.2, fun q => by omega⟩
    | 3, _, h =>
      rcases h with ⟨h0, h⟩ | ⟨h0, h3, s, h1, h2⟩
      · subst h
        refine ⟨by rw [Nat.sub_self]; rfl, fun j hj => ?_, fun q => by omega⟩
        rw [show j = 0 by omega]
        exact Int.le_refl 0
      · have a := lt.1 0 (by decide) h1
        have b := lt.2.1 h2
        have o1 := one (by decide) h0 (by decide) (by decide) h1 (by omega)
        have i2 := ih (by decide) h2
        refine ⟨?_, fun j hj => ?_, fun q => by omega⟩
        · rw [show q - p = (s - p) + (q - s) by omega, y_dp_a, o1.1, show p + (s - p) = s by omega, i2.1]
          rfl
        · rcases Nat.lt_or_ge j (s - p) with q1 | q1
          · exact o1.2 j (by omega)
          · rw [show j = (s - p) + (j - (s - p)) by omega, y_dp_a, o1.1, show p + (s - p) = s by omega]
            have := i2.2.1 (j - (s - p)) (by omega)
            omega
    | 4, _, h =>
      rcases h with ⟨h0, h⟩ | ⟨h0, h3, s, h1, h2⟩
      · subst h
        refine ⟨by rw [Nat.sub_self]; rfl, fun j hj => ?_, fun q => by omega⟩
        rw [show j = 0 by omega]
        exact Int.le_refl 0
      · have a := lt.1 1 (by decide) h1
        have b := lt.2.2 h2
        have o1 := one (by decide) h0 (by decide) (by decide) h1 (by omega)
        have i2 := ih (by decide) h2
        refine ⟨?_, fun j hj => ?_, fun q => by omega⟩
        · rw [show q - p = (s - p) + (q - s) by omega, y_dp_a, o1.1, show p + (s - p) = s by omega, i2.1]
          rfl
        · rcases Nat.lt_or_ge j (s - p) with q1 | q1
          · exact o1.2 j (by omega)
          · rw [show j = (s - p) + (j - (s - p)) by omega, y_dp_a, o1.1, show p + (s - p) = s by omega]
            have := i2.2.1 (j - (s - p)) (by omega)
            omega
end PT29h
section PT29i
/-! ===== v3: the reference's thingEnd, isJoined, alone ===== -/
section WG
variable {X : aX} {C S d : Nat} {K0 : Option Value → aH → Nat → Nat → Prop} {sg : List Int32}
theorem y_thingEnd_loop {rI fI tI : Int32} {r k0 till e0 : Nat} (h1 : rI.toInt = r) (r11 : r ≤ 11) (h3 : tI.toInt = till) (t40 : till ≤ 40) (ke : k0 ≤ e0) (et : e0 ≤ till) (no : ∀ j, k0 + j < e0 → y_tx sg r (k0 + j) = 38 → 1 ≤ y_dp (y_tx sg r) k0 j) (at0 : y_dp (y_tx sg r) k0 (e0 - k0) = 0) (ed : e0 = till ∨ y_tx sg r e0 = 38) : ∀ (m : Nat) (h : aH) (dI kI : Int32) (j : Nat) (o6 : Option Value), w_hr z_D h → w_a h 170 = some (0, .inl sg) → kI.toInt = ((k0 + j : Nat) : Int) → k0 + j + m = e0 → dI.toInt = y_dp (y_tx sg r) k0 j → -(j : Int) ≤ dI.toInt → dI.toInt ≤ j →
    (∀ (eI : Int32) (H : aH), y_fr h H [] [] → eI.toInt = e0 → K0 (some (.int eI)) H C S) →
    aOK s_P X (d + 1) a_m245 6 [some (.ref 155), some (.int rI), some (.int fI), some (.int tI), some (.int dI), some (.int kI), o6] [] h C S K0 := by
  have c40 : ((Int8.ofInt 40).toInt32).toInt = 40 := by decide
  have c41 : ((Int8.ofInt 41).toInt32).toInt = 41 := by decide
  have c38 : ((Int8.ofInt 38).toInt32).toInt = 38 := by decide
  have z0 : (0 : Int32).toInt = 0 := by decide
  intro m
  induction m with
  | zero =>
    intro h dI kI j o6 hr g hk hm hd d1 d2 hK
    have ej : e0 = k0 + j := by omega
    have dz : dI.toInt = 0 := by rw [hd, ← at0, show e0 - k0 = j by omega]
    refine w_go z_hl [6] [] 60 hr ?_
    refine ⟨fun _ => fun H hH => hK kI H (y_st (y_rf hr) hH (by repeat (first | exact w_nil | refine w_cons (Or.inl (y_m rfl)) ?_ | refine w_cons (Or.inr (by assumption)) ?_)) (by repeat (first | exact w_nil | refine w_cons (Or.inl (y_m rfl)) ?_ | refine w_cons (Or.inr (by assumption)) ?_))) (by omega), fun q => ?_⟩
    have q1 : ¬ (tI.toInt ≤ kI.toInt) := y_cif q
    have h38 : y_tx sg r e0 = 38 := by
      rcases ed with x | x
      · omega
      · exact x
    have ix : ((Int8.ofInt 40).toInt32 * rI + kI).toInt = ((40 * r + (k0 + j) : Nat) : Int) := y_addS _ (y_mulS _ y_c40 h1 rfl (by omega)) hk rfl (by omega)
    have cx := y_cl1 ix
    have bx : 0 ≤ ((Int8.ofInt 40).toInt32 * rI + kI).toInt ∧ ((Int8.ofInt 40).toInt32 * rI + kI).toInt < ((520 : Nat) : Int) := by omega
    refine ⟨fun q2 => ?_, fun q2 => ?_⟩
    · have q3 : (0 : Int32).toInt < dI.toInt := (y_ci .gt _ _).mp q2
      omega
    · refine ⟨bx, fun l hl len bb => ?_⟩
      obtain rfl := y_ai g hl
      refine ⟨fun _ => fun H hH => hK kI H (y_st (y_rf hr) hH (by repeat (first | exact w_nil | refine w_cons (Or.inl (y_m rfl)) ?_ | refine w_cons (Or.inr (by assumption)) ?_)) (by repeat (first | exact w_nil | refine w_cons (Or.inl (y_m rfl)) ?_ | refine w_cons (Or.inr (by assumption)) ?_))) (by omega), fun q3 => ?_⟩
      have q4 : ¬ ((sg.getD ((Int8.ofInt 40).toInt32 * rI + kI).toNatClampNeg 0).toInt = ((Int8.ofInt 38).toInt32).toInt) := y_cif q3
      rw [cx, c38] at q4
      rw [ej] at h38
      exact absurd h38 q4
  | succ m ih =>
    intro h dI kI j o6 hr g hk hm hd d1 d2 hK
    have ix : ((Int8.ofInt 40).toInt32 * rI + kI).toInt = ((40 * r + (k0 + j) : Nat) : Int) := y_addS _ (y_mulS _ y_c40 h1 rfl (by omega)) hk rfl (by omega)
    have cx := y_cl1 ix
    have bx : 0 ≤ ((Int8.ofInt 40).toInt32 * rI + kI).toInt ∧ ((Int8.ofInt 40).toInt32 * rI + kI).toInt < ((520 : Nat) : Int) := by omega
    have ink : (kI + Int32.ofInt 1).toInt = ((k0 + (j + 1) : Nat) : Int) := by rw [y_inc (by omega), hk]; omega
    have next : ∀ {G : aH} {d' : Int32} {o6 : Option Value}, y_fr h G [] [] → d'.toInt = dI.toInt + (if y_tx sg r (k0 + j) = 40 then 1 else 0) - (if y_tx sg r (k0 + j) = 41 then 1 else 0) → aOK s_P X (d + 1) a_m245 6 [some (.ref 155), some (.int rI), some (.int fI), some (.int tI), some (.int d'), some (.int (kI + Int32.ofInt 1)), o6] [] G C S K0 := by
      intro G d' o6 e hd'
      have hd2 : d'.toInt = y_dp (y_tx sg r) k0 (j + 1) := by
        rw [hd', hd]
        rfl
      refine ih G _ _ (j + 1) _ e.1 ((y_ae e rfl).trans g) ink (by omega) hd2 ?_ ?_ (fun eI H f x => hK eI H (y_sq e f rfl rfl) x)
      · rw [hd']
        split <;> split <;> omega
      · rw [hd']
        split <;> split <;> omega
    have T34 : ∀ {G : aH}, y_fr h G [] [] → aOK s_P X (d + 1) a_m245 34 [some (.ref 155), some (.int rI), some (.int fI), some (.int tI), some (.int dI), some (.int kI), o6] [] G C S K0 := by
      intro G e
      refine w_go z_hl [6] [] 60 e.1 ?_
      refine ⟨bx, fun l hl len bb => ?_⟩
      obtain rfl := y_ai ((y_ae e rfl).trans g) hl
      have ec : (sg.getD ((Int8.ofInt 40).toInt32 * rI + kI).toNatClampNeg 0).toInt = y_tx sg r (k0 + j) := by rw [cx]; rfl
      have v : ∀ {a b : Int32}, 0 ≤ a.toInt → a.toInt ≤ 1 → 0 ≤ b.toInt → b.toInt ≤ 1 → (dI + (a - b)).toInt = dI.toInt + a.toInt - b.toInt := by
        intro a b a0 a1 b0 b1
        rw [Int32.toInt_add, Int32.toInt_sub, Int.bmod_eq_of_le (n := a.toInt - b.toInt) (by omega) (by omega), Int.bmod_eq_of_le (by omega) (by omega)]
        omega
      refine ⟨fun q1 => ⟨fun _ => ⟨fun q2 => ⟨fun _ => fun H hH => next (y_st e hH (by repeat (first | exact w_nil | refine w_cons (Or.inl (y_m rfl)) ?_ | refine w_cons (Or.inr (by assumption)) ?_)) (by repeat (first | exact w_nil | refine w_cons (Or.inl (y_m rfl)) ?_ | refine w_cons (Or.inr (by assumption)) ?_))) ?_, fun q => absurd q (by decide)⟩, fun q2 => ⟨fun q => absurd q (by decide), fun _ => fun H hH => next (y_st e hH (by repeat (first | exact w_nil | refine w_cons (Or.inl (y_m rfl)) ?_ | refine w_cons (Or.inr (by assumption)) ?_)) (by repeat (first | exact w_nil | refine w_cons (Or.inl (y_m rfl)) ?_ | refine w_cons (Or.inr (by assumption)) ?_))) ?_⟩⟩, fun q => absurd q (by decide)⟩, fun q1 => ⟨fun q => absurd q (by decide), fun _ => ⟨fun q2 => ⟨fun _ => fun H hH => next (y_st e hH (by repeat (first | exact w_nil | refine w_cons (Or.inl (y_m rfl)) ?_ | refine w_cons (Or.inr (by assumption)) ?_)) (by repeat (first | exact w_nil | refine w_cons (Or.inl (y_m rfl)) ?_ | refine w_cons (Or.inr (by assumption)) ?_))) ?_, fun q => absurd q (by decide)⟩, fun q2 => ⟨fun q => absurd q (by decide), fun _ => fun H hH => next (y_st e hH (by repeat (first | exact w_nil | refine w_cons (Or.inl (y_m rfl)) ?_ | refine w_cons (Or.inr (by assumption)) ?_)) (by repeat (first | exact w_nil | refine w_cons (Or.inl (y_m rfl)) ?_ | refine w_cons (Or.inr (by assumption)) ?_))) ?_⟩⟩⟩⟩
      · have x1 : (sg.getD ((Int8.ofInt 40).toInt32 * rI + kI).toNatClampNeg 0).toInt ≠ ((Int8.ofInt 40).toInt32).toInt := (y_ci .ne _ _).mp q1
        have x2 : (sg.getD ((Int8.ofInt 40).toInt32 * rI + kI).toNatClampNeg 0).toInt ≠ ((Int8.ofInt 41).toInt32).toInt := (y_ci .ne _ _).mp q2
        rw [ec, c40] at x1
        rw [ec, c41] at x2
        rw [if_neg x1, if_neg x2]
        exact v (a := Int32.ofInt 0) (b := Int32.ofInt 0) (by decide) (by decide) (by decide) (by decide)
      · have x1 : (sg.getD ((Int8.ofInt 40).toInt32 * rI + kI).toNatClampNeg 0).toInt ≠ ((Int8.ofInt 40).toInt32).toInt := (y_ci .ne _ _).mp q1
        have x2 : ¬ ((sg.getD ((Int8.ofInt 40).toInt32 * rI + kI).toNatClampNeg 0).toInt ≠ ((Int8.ofInt 41).toInt32).toInt) := y_cif q2
        rw [ec, c40] at x1
        rw [ec, c41] at x2
        rw [if_neg x1, if_pos (Decidable.not_not.mp x2)]
        exact v (a := Int32.ofInt 0) (b := Int32.ofInt 1) (by decide) (by decide) (by decide) (by decide)
      · have x1 : ¬ ((sg.getD ((Int8.ofInt 40).toInt32 * rI + kI).toNatClampNeg 0).toInt ≠ ((Int8.ofInt 40).toInt32).toInt) := y_cif q1
        have x2 : (sg.getD ((Int8.ofInt 40).toInt32 * rI + kI).toNatClampNeg 0).toInt ≠ ((Int8.ofInt 41).toInt32).toInt := (y_ci .ne _ _).mp q2
        rw [ec, c40] at x1
        rw [ec, c41] at x2
        rw [if_pos (Decidable.not_not.mp x1), if_neg x2]
        exact v (a := Int32.ofInt 1) (b := Int32.ofInt 0) (by decide) (by decide) (by decide) (by decide)
      · have x1 : ¬ ((sg.getD ((Int8.ofInt 40).toInt32 * rI + kI).toNatClampNeg 0).toInt ≠ ((Int8.ofInt 40).toInt32).toInt) := y_cif q1
        have x2 : ¬ ((sg.getD ((Int8.ofInt 40).toInt32 * rI + kI).toNatClampNeg 0).toInt ≠ ((Int8.ofInt 41).toInt32).toInt) := y_cif q2
        rw [ec, c40] at x1
        rw [ec, c41] at x2
        rw [Decidable.not_not.mp x1] at x2
        omega
    refine w_go z_hl [6, 34] [] 60 hr ?_
    refine ⟨fun q => ?_, fun _ => ⟨fun _ => fun H hH => T34 (y_st (y_rf hr) hH (by repeat (first | exact w_nil | refine w_cons (Or.inl (y_m rfl)) ?_ | refine w_cons (Or.inr (by assumption)) ?_)) (by repeat (first | exact w_nil | refine w_cons (Or.inl (y_m rfl)) ?_ | refine w_cons (Or.inr (by assumption)) ?_))), fun q2 => ?_⟩⟩
    · have q1 : tI.toInt ≤ kI.toInt := (y_ci .ge _ _).mp q
      omega
    · have q3 : ¬ ((0 : Int32).toInt < dI.toInt) := y_cif q2
      rw [z0] at q3
      refine ⟨bx, fun l hl len bb => ?_⟩
      obtain rfl := y_ai g hl
      refine ⟨fun q4 => ?_, fun _ => fun H hH => T34 (y_st (y_rf hr) hH (by repeat (first | exact w_nil | refine w_cons (Or.inl (y_m rfl)) ?_ | refine w_cons (Or.inr (by assumption)) ?_)) (by repeat (first | exact w_nil | refine w_cons (Or.inl (y_m rfl)) ?_ | refine w_cons (Or.inr (by assumption)) ?_)))⟩
      have q5 : (sg.getD ((Int8.ofInt 40).toInt32 * rI + kI).toNatClampNeg 0).toInt = ((Int8.ofInt 38).toInt32).toInt := (y_ci .eq _ _).mp q4
      rw [cx, c38] at q5
      have := no j (by omega) q5
      omega
theorem y_thingEnd {h : aH} (hr : w_hr z_D h) (g : w_a h 170 = some (0, .inl sg)) {rI fI tI : Int32} {r k0 till e0 n : Nat} (h1 : rI.toInt = r) (r11 : r ≤ 11) (h2 : fI.toInt = k0) (h3 : tI.toInt = till) (t40 : till ≤ 40) (hE : y_E (y_tx sg r) till n 0 k0 e0) (et : e0 ≤ till) (ed : e0 = till ∨ y_tx sg r e0 = 38) (hK : ∀ (eI : Int32) (H : aH), y_fr h H [] [] → eI.toInt = e0 → K0 (some (.int eI)) H C S) : aOK s_P X (d + 1) a_m245 0 [some (.ref 155), some (.int rI), some (.int fI), some (.int tI), none, none, none] [] h C S K0 := by
  have lt := (y_E_lt (T := y_tx sg r) (st := till) n).1 0 (by decide) hE
  have dp := y_E_dp n (by decide) hE
  refine w_go z_hl [6] [] 60 hr ?_
  intro H hH
  have e : y_fr h H [] [] := y_st (y_rf hr) hH (by repeat (first | exact w_nil | refine w_cons (Or.inl (y_m rfl)) ?_ | refine w_cons (Or.inr (by assumption)) ?_)) (by repeat (first | exact w_nil | refine w_cons (Or.inl (y_m rfl)) ?_ | refine w_cons (Or.inr (by assumption)) ?_))
  exact y_thingEnd_loop h1 r11 h3 t40 (by omega) et (fun j hj x => dp.2.2 rfl j hj x) dp.1 ed (e0 - k0) H _ _ 0 _ e.1 ((y_ae e rfl).trans g) (by rw [h2]; rfl) (by omega) rfl (by decide) (by decide) (fun eI H' f x => hK eI H' (y_sq e f rfl rfl) x)
theorem y_isJoined_loop {rI fI tI : Int32} {r k0 till : Nat} (h1 : rI.toInt = r) (r11 : r ≤ 11) (h3 : tI.toInt = till) (t40 : till ≤ 40) : ∀ (m : Nat) (h : aH) (dI kI : Int32) (b : Bool) (j : Nat) (o7 : Option Value), w_hr z_D h → w_a h 170 = some (0, .inl sg) → kI.toInt = ((k0 + j : Nat) : Int) → k0 + j + m = till → dI.toInt = y_dp (y_tx sg r) k0 j → -(j : Int) ≤ dI.toInt → dI.toInt ≤ j → (∀ i, i < j → y_tx sg r (k0 + i) = 124 → y_dp (y_tx sg r) k0 i ≠ 0) →
    (∀ (b' : Bool) (H : aH), y_fr h H [] [] → (b' = true → ∀ i, k0 + i < till → y_tx sg r (k0 + i) = 124 → y_dp (y_tx sg r) k0 i ≠ 0) → K0 (some (.int (y_01 b'))) H C S) →
    aOK s_P X (d + 1) a_m243 9 [some (.ref 155), some (.int rI), some (.int fI), some (.int tI), some (.int dI), some (.int (y_01 b)), some (.int kI), o7] [] h C S K0 := by
  have c40 : ((Int8.ofInt 40).toInt32).toInt = 40 := by decide
  have c41 : ((Int8.ofInt 41).toInt32).toInt = 41 := by decide
  have c124 : ((Int8.ofInt 124).toInt32).toInt = 124 := by decide
  have z0 : (0 : Int32).toInt = 0 := by decide
  intro m
  induction m with
  | zero =>
    intro h dI kI b j o7 hr g hk hm hd d1 d2 hno hK
    refine w_go z_hl [9] [] 60 hr ?_
    refine ⟨fun _ => ⟨y_01b b, fun H hH => hK b H (y_st (y_rf hr) hH (by repeat (first | exact w_nil | refine w_cons (Or.inl (y_m rfl)) ?_ | refine w_cons (Or.inr (by assumption)) ?_)) (by repeat (first | exact w_nil | refine w_cons (Or.inl (y_m rfl)) ?_ | refine w_cons (Or.inr (by assumption)) ?_))) (fun _ i hi => hno i (by omega))⟩, fun q => ?_⟩
    have q1 : ¬ (tI.toInt ≤ kI.toInt) := y_cif q
    omega
  | succ m ih =>
    intro h dI kI b j o7 hr g hk hm hd d1 d2 hno hK
    have ix : ((Int8.ofInt 40).toInt32 * rI + kI).toInt = ((40 * r + (k0 + j) : Nat) : Int) := y_addS _ (y_mulS _ y_c40 h1 rfl (by omega)) hk rfl (by omega)
    have cx := y_cl1 ix
    have bx : 0 ≤ ((Int8.ofInt 40).toInt32 * rI + kI).toInt ∧ ((Int8.ofInt 40).toInt32 * rI + kI).toInt < ((520 : Nat) : Int) := by omega
    have ink : (kI + Int32.ofInt 1).toInt = ((k0 + (j + 1) : Nat) : Int) := by rw [y_inc (by omega), hk]; omega
    have next : ∀ {G : aH} {d' c : Int32} {b' : Bool}, y_fr h G [] [] → d'.toInt = y_dp (y_tx sg r) k0 (j + 1) → -((j + 1 : Nat) : Int) ≤ d'.toInt → d'.toInt ≤ ((j + 1 : Nat) : Int) → (y_tx sg r (k0 + j) = 124 → y_dp (y_tx sg r) k0 j ≠ 0) → aOK s_P X (d + 1) a_m243 101 [some (.ref 155), some (.int rI), some (.int fI), some (.int tI), some (.int d'), some (.int (y_01 b)), some (.int kI), some (.int c)] [.int (y_01 b')] G C S K0 := by
      intro G d' c b' e hd' e1 e2 hn
      refine w_go z_hl [9] [] 60 e.1 ?_
      intro H hH
      have f := y_st e hH (by repeat (first | exact w_nil | refine w_cons (Or.inl (y_m rfl)) ?_ | refine w_cons (Or.inr (by assumption)) ?_)) (by repeat (first | exact w_nil | refine w_cons (Or.inl (y_m rfl)) ?_ | refine w_cons (Or.inr (by assumption)) ?_))
      refine ih H _ _ b' (j + 1) _ f.1 ((y_ae f rfl).trans g) ink (by omega) hd' e1 e2 (fun i hi x => ?_) (fun b'' H2 f2 x => hK b'' H2 (y_sq f f2 rfl rfl) x)
      by_cases q : i = j
      · subst q
        exact hn x
      · exact hno i (by omega) x
    have T65 : ∀ {G : aH} {d' c : Int32}, y_fr h G [] [] → c.toInt = y_tx sg r (k0 + j) → d'.toInt = dI.toInt + (if y_tx sg r (k0 + j) = 40 then 1 else 0) - (if y_tx sg r (k0 + j) = 41 then 1 else 0) → aOK s_P X (d + 1) a_m243 65 [some (.ref 155), some (.int rI), some (.int fI), some (.int tI), some (.int d'), some (.int (y_01 b)), some (.int kI), some (.int c)] [] G C S K0 := by
      intro G d' c e hc hd'
      have hd2 : d'.toInt = y_dp (y_tx sg r) k0 (j + 1) := by
        rw [hd', hd]
        rfl
      have e1 : -((j + 1 : Nat) : Int) ≤ d'.toInt := by
        rw [hd']
        split <;> split <;> omega
      have e2 : d'.toInt ≤ ((j + 1 : Nat) : Int) := by
        rw [hd']
        split <;> split <;> omega
      have keep : (d'.toInt ≠ 0 ∨ c.toInt ≠ 124) → y_tx sg r (k0 + j) = 124 → y_dp (y_tx sg r) k0 j ≠ 0 := by
        intro x y
        rcases x with x | x
        · rw [hd', y, if_neg (by decide), if_neg (by decide), hd] at x
          omega
        · rw [hc] at x
          exact absurd y x
      have T79 : ∀ {H : aH}, y_fr h H [] [] → (y_tx sg r (k0 + j) = 124 → y_dp (y_tx sg r) k0 j ≠ 0) → aOK s_P X (d + 1) a_m243 79 [some (.ref 155), some (.int rI), some (.int fI), some (.int tI), some (.int d'), some (.int (y_01 b)), some (.int kI), some (.int c)] [] H C S K0 := by
        intro H f hn
        refine w_go z_hl [101] [] 60 f.1 ?_
        refine ⟨fun _ => fun H2 h2 => next (b' := true) (y_st f h2 (by repeat (first | exact w_nil | refine w_cons (Or.inl (y_m rfl)) ?_ | refine w_cons (Or.inr (by assumption)) ?_)) (by repeat (first | exact w_nil | refine w_cons (Or.inl (y_m rfl)) ?_ | refine w_cons (Or.inr (by assumption)) ?_))) hd2 e1 e2 hn, fun _ => ⟨fun _ => fun H2 h2 => next (b' := false) (y_st f h2 (by repeat (first | exact w_nil | refine w_cons (Or.inl (y_m rfl)) ?_ | refine w_cons (Or.inr (by assumption)) ?_)) (by repeat (first | exact w_nil | refine w_cons (Or.inl (y_m rfl)) ?_ | refine w_cons (Or.inr (by assumption)) ?_))) hd2 e1 e2 hn, fun _ => ⟨fun _ => fun H2 h2 => next (b' := false) (y_st f h2 (by repeat (first | exact w_nil | refine w_cons (Or.inl (y_m rfl)) ?_ | refine w_cons (Or.inr (by assumption)) ?_)) (by repeat (first | exact w_nil | refine w_cons (Or.inl (y_m rfl)) ?_ | refine w_cons (Or.inr (by assumption)) ?_))) hd2 e1 e2 hn, fun _ => fun H2 h2 => next (b' := true) (y_st f h2 (by repeat (first | exact w_nil | refine w_cons (Or.inl (y_m rfl)) ?_ | refine w_cons (Or.inr (by assumption)) ?_)) (by repeat (first | exact w_nil | refine w_cons (Or.inl (y_m rfl)) ?_ | refine w_cons (Or.inr (by assumption)) ?_))) hd2 e1 e2 hn⟩⟩⟩
      refine w_go z_hl [79] [] 60 e.1 ?_
      refine ⟨fun q => fun H hH => T79 (y_st e hH (by repeat (first | exact w_nil | refine w_cons (Or.inl (y_m rfl)) ?_ | refine w_cons (Or.inr (by assumption)) ?_)) (by repeat (first | exact w_nil | refine w_cons (Or.inl (y_m rfl)) ?_ | refine w_cons (Or.inr (by assumption)) ?_))) (keep (Or.inl ?_)), fun _ => ⟨fun q => fun H hH => T79 (y_st e hH (by repeat (first | exact w_nil | refine w_cons (Or.inl (y_m rfl)) ?_ | refine w_cons (Or.inr (by assumption)) ?_)) (by repeat (first | exact w_nil | refine w_cons (Or.inl (y_m rfl)) ?_ | refine w_cons (Or.inr (by assumption)) ?_))) (keep (Or.inr ?_)), fun _ => ⟨by decide, fun H hH => hK false H (y_st e hH (by repeat (first | exact w_nil | refine w_cons (Or.inl (y_m rfl)) ?_ | refine w_cons (Or.inr (by assumption)) ?_)) (by repeat (first | exact w_nil | refine w_cons (Or.inl (y_m rfl)) ?_ | refine w_cons (Or.inr (by assumption)) ?_))) (fun q => by cases q)⟩⟩⟩
      · have q1 : d'.toInt ≠ (0 : Int32).toInt := (y_ci .ne _ _).mp q
        rw [z0] at q1
        exact q1
      · have q1 : c.toInt ≠ ((Int8.ofInt 124).toInt32).toInt := (y_ci .ne _ _).mp q
        rw [c124] at q1
        exact q1
    refine w_go z_hl [9, 65] [] 60 hr ?_
    refine ⟨fun q => ?_, fun _ => ?_⟩
    · have q1 : tI.toInt ≤ kI.toInt := (y_ci .ge _ _).mp q
      omega
    · refine ⟨bx, fun l hl len bb => ?_⟩
      obtain rfl := y_ai g hl
      have ec : (sg.getD ((Int8.ofInt 40).toInt32 * rI + kI).toNatClampNeg 0).toInt = y_tx sg r (k0 + j) := by rw [cx]; rfl
      have v : ∀ {a b : Int32}, 0 ≤ a.toInt → a.toInt ≤ 1 → 0 ≤ b.toInt → b.toInt ≤ 1 → (dI + (a - b)).toInt = dI.toInt + a.toInt - b.toInt := by
        intro a b a0 a1 b0 b1
        rw [Int32.toInt_add, Int32.toInt_sub, Int.bmod_eq_of_le (n := a.toInt - b.toInt) (by omega) (by omega), Int.bmod_eq_of_le (by omega) (by omega)]
        omega
      have e0 : y_fr h h [] [] := y_rf hr
      refine ⟨fun q1 => ⟨fun _ => ⟨fun q2 => ⟨fun _ => fun H hH => T65 (y_st e0 hH (by repeat (first | exact w_nil | refine w_cons (Or.inl (y_m rfl)) ?_ | refine w_cons (Or.inr (by assumption)) ?_)) (by repeat (first | exact w_nil | refine w_cons (Or.inl (y_m rfl)) ?_ | refine w_cons (Or.inr (by assumption)) ?_))) ec ?_, fun q => absurd q (by decide)⟩, fun q2 => ⟨fun q => absurd q (by decide), fun _ => fun H hH => T65 (y_st e0 hH (by repeat (first | exact w_nil | refine w_cons (Or.inl (y_m rfl)) ?_ | refine w_cons (Or.inr (by assumption)) ?_)) (by repeat (first | exact w_nil | refine w_cons (Or.inl (y_m rfl)) ?_ | refine w_cons (Or.inr (by assumption)) ?_))) ec ?_⟩⟩, fun q => absurd q (by decide)⟩, fun q1 => ⟨fun q => absurd q (by decide), fun _ => ⟨fun q2 => ⟨fun _ => fun H hH => T65 (y_st e0 hH (by repeat (first | exact w_nil | refine w_cons (Or.inl (y_m rfl)) ?_ | refine w_cons (Or.inr (by assumption)) ?_)) (by repeat (first | exact w_nil | refine w_cons (Or.inl (y_m rfl)) ?_ | refine w_cons (Or.inr (by assumption)) ?_))) ec ?_, fun q => absurd q (by decide)⟩, fun q2 => ⟨fun q => absurd q (by decide), fun _ => fun H hH => T65 (y_st e0 hH (by repeat (first | exact w_nil | refine w_cons (Or.inl (y_m rfl)) ?_ | refine w_cons (Or.inr (by assumption)) ?_)) (by repeat (first | exact w_nil | refine w_cons (Or.inl (y_m rfl)) ?_ | refine w_cons (Or.inr (by assumption)) ?_))) ec ?_⟩⟩⟩⟩
      · have x1 : (sg.getD ((Int8.ofInt 40).toInt32 * rI + kI).toNatClampNeg 0).toInt ≠ ((Int8.ofInt 40).toInt32).toInt := (y_ci .ne _ _).mp q1
        have x2 : (sg.getD ((Int8.ofInt 40).toInt32 * rI + kI).toNatClampNeg 0).toInt ≠ ((Int8.ofInt 41).toInt32).toInt := (y_ci .ne _ _).mp q2
        rw [ec, c40] at x1
        rw [ec, c41] at x2
        rw [if_neg x1, if_neg x2]
        exact v (a := Int32.ofInt 0) (b := Int32.ofInt 0) (by decide) (by decide) (by decide) (by decide)
      · have x1 : (sg.getD ((Int8.ofInt 40).toInt32 * rI + kI).toNatClampNeg 0).toInt ≠ ((Int8.ofInt 40).toInt32).toInt := (y_ci .ne _ _).mp q1
        have x2 : ¬ ((sg.getD ((Int8.ofInt 40).toInt32 * rI + kI).toNatClampNeg 0).toInt ≠ ((Int8.ofInt 41).toInt32).toInt) := y_cif q2
        rw [ec, c40] at x1
        rw [ec, c41] at x2
        rw [if_neg x1, if_pos (Decidable.not_not.mp x2)]
        exact v (a := Int32.ofInt 0) (b := Int32.ofInt 1) (by decide) (by decide) (by decide) (by decide)
      · have x1 : ¬ ((sg.getD ((Int8.ofInt 40).toInt32 * rI + kI).toNatClampNeg 0).toInt ≠ ((Int8.ofInt 40).toInt32).toInt) := y_cif q1
        have x2 : (sg.getD ((Int8.ofInt 40).toInt32 * rI + kI).toNatClampNeg 0).toInt ≠ ((Int8.ofInt 41).toInt32).toInt := (y_ci .ne _ _).mp q2
        rw [ec, c40] at x1
        rw [ec, c41] at x2
        rw [if_pos (Decidable.not_not.mp x1), if_neg x2]
        exact v (a := Int32.ofInt 1) (b := Int32.ofInt 0) (by decide) (by decide) (by decide) (by decide)
      · have x1 : ¬ ((sg.getD ((Int8.ofInt 40).toInt32 * rI + kI).toNatClampNeg 0).toInt ≠ ((Int8.ofInt 40).toInt32).toInt) := y_cif q1
        have x2 : ¬ ((sg.getD ((Int8.ofInt 40).toInt32 * rI + kI).toNatClampNeg 0).toInt ≠ ((Int8.ofInt 41).toInt32).toInt) := y_cif q2
        rw [ec, c40] at x1
        rw [ec, c41] at x2
        rw [Decidable.not_not.mp x1] at x2
        omega
theorem y_isJoined {h : aH} (hr : w_hr z_D h) (g : w_a h 170 = some (0, .inl sg)) {rI fI tI : Int32} {r k0 till : Nat} (h1 : rI.toInt = r) (r11 : r ≤ 11) (h2 : fI.toInt = k0) (h3 : tI.toInt = till) (kt : k0 ≤ till) (t40 : till ≤ 40) (hK : ∀ (b' : Bool) (H : aH), y_fr h H [] [] → (b' = true → ∀ i, k0 + i < till → y_tx sg r (k0 + i) = 124 → y_dp (y_tx sg r) k0 i ≠ 0) → K0 (some (.int (y_01 b'))) H C S) : aOK s_P X (d + 1) a_m243 0 [some (.ref 155), some (.int rI), some (.int fI), some (.int tI), none, none, none, none] [] h C S K0 := by
  refine w_go z_hl [9] [] 60 hr ?_
  intro H hH
  have e : y_fr h H [] [] := y_st (y_rf hr) hH (by repeat (first | exact w_nil | refine w_cons (Or.inl (y_m rfl)) ?_ | refine w_cons (Or.inr (by assumption)) ?_)) (by repeat (first | exact w_nil | refine w_cons (Or.inl (y_m rfl)) ?_ | refine w_cons (Or.inr (by assumption)) ?_))
  exact y_isJoined_loop h1 r11 h3 t40 (till - k0) H _ _ false 0 _ e.1 ((y_ae e rfl).trans g) (by rw [h2]; rfl) (by omega) rfl (by decide) (by decide) (fun i hi => absurd hi (by omega)) (fun b' H' f x => hK b' H' (y_sq e f rfl rfl) x)
end WG
end PT29i
section PT29j
/-! ===== v3: the reference's alone, termOf ===== -/
def y_low (H : aH) : Prop := ∃ l : Int64, w_f H 19588 = some (.long l) ∧ 1 ≤ l.toInt
theorem y_low_fr {h H : aH} {fs as : List Nat} (q : y_low h) (e : y_fr h H fs as) (h1 : fs.elem 19588 = false) : y_low H := by
  obtain ⟨l, l1, l2⟩ := q
  exact ⟨l, (y_fe e h1).trans l1, l2⟩
def y_sd (h : aH) (nd : Int32) (sg : List Int32) (wl : List Int64) (r : Nat) (ac kd : List Int32) (nu : List Int64) (be fi : List Int32) : Prop := y_sc h nd sg wl ∧ w_a h 165 = some (0, .inl ac) ∧ w_a h 166 = some (0, .inl kd) ∧ w_a h 167 = some (1, .inr (.inl nu)) ∧ w_a h 168 = some (0, .inl be) ∧ w_a h 169 = some (0, .inl fi) ∧ y_s1 ac kd nu be fi sg r ∧ r ≤ 11
theorem y_sd_fr {h H : aH} {nd : Int32} {sg : List Int32} {wl : List Int64} {r : Nat} {ac kd be fi : List Int32} {nu : List Int64} {fs : List Nat} (s : y_sd h nd sg wl r ac kd nu be fi) (e : y_fr h H fs []) (h1 : fs.elem 19591 = false) : y_sd H nd sg wl r ac kd nu be fi := ⟨y_sc_fr s.1 e h1 rfl rfl, (y_ae e rfl).trans s.2.1, (y_ae e rfl).trans s.2.2.1, (y_ae e rfl).trans s.2.2.2.1, (y_ae e rfl).trans s.2.2.2.2.1, (y_ae e rfl).trans s.2.2.2.2.2.1, s.2.2.2.2.2.2⟩
section WG
variable {X : aX} {C S d : Nat} {K0 : Option Value → aH → Nat → Nat → Prop} {nd : Int32} {sg : List Int32} {wl : List Int64}
theorem y_alone_end {h : aH} (hr : w_hr z_D h) {rI fI tI gI uI kI : Int32} {gv n dd : Int64} {o13 o14 o16 : Option Value} (hk : tI.toInt ≤ kI.toInt) (lo : y_low h) (hK : ∀ (x : Int32) (H : aH), y_fr h H [] [] → y_low H → K0 (some (.int x)) H C S) : aOK s_P X d a_m244 32 [some (.ref 155), some (.int rI), some (.int fI), some (.int tI), some (.int gI), some (.int uI), some (.long gv), none, some (.long n), none, some (.long dd), none, some (.int kI), o13, o14, none, o16, none] [] h C S K0 := by
  refine w_go z_hl [32] [] 40 hr ?_
  refine ⟨fun _ => ?_, fun q => ?_⟩
  · intro x hx _ _
    refine ⟨fun _ => fun H hH => ?_, fun _ => fun H hH => ?_⟩
    · have e : y_fr h H [] [] := y_st (y_rf hr) hH (by repeat (first | exact w_nil | refine w_cons (Or.inl (y_m rfl)) ?_ | refine w_cons (Or.inr (by assumption)) ?_)) (by repeat (first | exact w_nil | refine w_cons (Or.inl (y_m rfl)) ?_ | refine w_cons (Or.inr (by assumption)) ?_))
      exact hK _ H e (y_low_fr lo e rfl)
    · have e : y_fr h H [] [] := y_st (y_rf hr) hH (by repeat (first | exact w_nil | refine w_cons (Or.inl (y_m rfl)) ?_ | refine w_cons (Or.inr (by assumption)) ?_)) (by repeat (first | exact w_nil | refine w_cons (Or.inl (y_m rfl)) ?_ | refine w_cons (Or.inr (by assumption)) ?_))
      exact hK _ H e (y_low_fr lo e rfl)
  · have q1 : ¬ (tI.toInt ≤ kI.toInt) := y_cif q
    omega
theorem y_alone_loop {rI fI tI gI uI : Int32} {r till : Nat} {gv : Int64} (h1 : rI.toInt = r) (r11 : r ≤ 11) (h3 : tI.toInt = till) (t40 : till ≤ 40) (okg : 0 ≤ gI.toInt → y_ok1 (y_tx sg r) 40 gI.toInt uI.toInt) (gv1 : 1 ≤ gv.toInt) : ∀ (m : Nat) (h : aH) (n dd : Int64) (kI : Int32) (k N : Nat) (o13 o14 o16 : Option Value), y_sc h nd sg wl → kI.toInt = k → till - k ≤ m → N ≤ 162 → y_E (y_tx sg r) till N 1 k till → 0 ≤ n.toInt → 1 ≤ dd.toInt →
    (∀ (x : Int32) (H : aH), y_fr h H [19587, 19588, 19589, 19616, 19617, 19618] [] → y_low H → K0 (some (.int x)) H C S) →
    aOK s_P X (d + 168) a_m244 32 [some (.ref 155), some (.int rI), some (.int fI), some (.int tI), some (.int gI), some (.int uI), some (.long gv), none, some (.long n), none, some (.long dd), none, some (.int kI), o13, o14, none, o16, none] [] h C S K0 := by
  intro m
  induction m with
  | zero =>
    intro h n dd kI k N o13 o14 o16 s hk hm hN hE n0 d1 hK
    have lt := (y_E_lt (T := y_tx sg r) (st := till) N).1 1 (by decide) hE
    omega
  | succ m ih =>
    intro h n dd kI k N o13 o14 o16 s hk hm hN hE n0 d1 hK
    obtain ⟨N', rfl⟩ : ∃ N', N = N' + 1 := by
      cases N with
      | zero => exact hE.elim
      | succ N' => exact ⟨N', rfl⟩
    obtain ⟨e0, hE1, hE2⟩ := hE
    have lt := (y_E_lt (T := y_tx sg r) (st := till) N').1 0 (by decide) hE1
    have le := (y_E_lt (T := y_tx sg r) (st := till) N').2.1 hE2
    have ed : e0 = till ∨ y_tx sg r e0 = 38 := by
      cases N' with
      | zero => exact hE2.elim
      | succ N'' =>
        rcases hE2 with ⟨-, x⟩ | ⟨x, -⟩
        · exact Or.inl x.symm
        · exact Or.inr x
    -- the piece
    have ok : y_ok1 (y_tx sg r) 40 (k : Int) (e0 : Int) := by
      refine ⟨by omega, by omega, by omega, ?_⟩
      have a : y_E (y_tx sg r) e0 N' 0 k e0 := y_E_c (fun _ _ => rfl) le N' (by decide) (Nat.le_refl _) hE1
      have nx : ∀ c : Int, ¬ (y_tx sg r e0 = c ∧ e0 < e0) := fun c x => by have := x.2; omega
      cases N' with
      | zero => exact a.elim
      | succ M =>
        have x3 : y_E (y_tx sg r) e0 (M + 1) 3 e0 e0 := Or.inl ⟨nx 38, rfl⟩
        have x1 : y_E (y_tx sg r) e0 (M + 1 + 1) 1 k e0 := ⟨e0, a, x3⟩
        have x4 : y_E (y_tx sg r) e0 (M + 1 + 1) 4 e0 e0 := Or.inl ⟨nx 124, rfl⟩
        have x2 : y_E (y_tx sg r) e0 (M + 1 + 1 + 1) 2 k e0 := ⟨e0, x1, x4⟩
        exact y_E_m (by decide) (by omega) x2
    have T99 : ∀ {G : aH} {eI : Int32} {p q u l : Int64}, y_fr h G [19587, 19588, 19589, 19616, 19617, 19618] [] → eI.toInt = e0 → w_f G 19587 = some (.long u) → w_f G 19588 = some (.long l) → 0 ≤ u.toInt → 1 ≤ l.toInt → aOK s_P X (d + 168) a_m244 99 [some (.ref 155), some (.int rI), some (.int fI), some (.int tI), some (.int gI), some (.int uI), some (.long gv), none, some (.long n), none, some (.long dd), none, some (.int kI), some (.int eI), some (.long p), none, some (.long q), none] [] G C S K0 := by
      intro G eI p q u l e he f1 f2 u0 l1
      have ine : (eI + Int32.ofInt 1).toInt = ((e0 + 1 : Nat) : Int) := by rw [y_inc (by omega), he]; rfl
      refine w_go z_hl [32] [] 40 e.1 ?_
      intro x hx _ _
      obtain rfl := y_fl f1 hx
      intro y hy _ _
      obtain rfl := y_fl f2 hy
      intro H hH
      have f : y_fr G H [] [] := y_st (y_rf e.1) hH (by repeat (first | exact w_nil | refine w_cons (Or.inl (y_m rfl)) ?_ | refine w_cons (Or.inr (by assumption)) ?_)) (by repeat (first | exact w_nil | refine w_cons (Or.inl (y_m rfl)) ?_ | refine w_cons (Or.inr (by assumption)) ?_))
      have e2 := y_sq e f rfl rfl
      have lo : y_low H := ⟨l, (y_fe f rfl).trans f2, l1⟩
      by_cases hx : e0 = till
      · exact y_alone_end f.1 (show tI.toInt ≤ (eI + Int32.ofInt 1).toInt by omega) lo (fun x H2 f2 lo2 => hK x H2 (y_sq e2 f2 rfl rfl) lo2)
      · have hE3 : y_E (y_tx sg r) till N' 1 (e0 + 1) till := by
          cases N' with
          | zero => exact hE2.elim
          | succ N'' =>
            rcases hE2 with ⟨-, x⟩ | ⟨-, -, s1, x, y⟩
            · omega
            · exact ⟨s1, x, y⟩
        exact ih H _ _ _ (e0 + 1) N' _ _ _ (y_sc_fr s e2 rfl rfl rfl) ine (by omega) (by omega) hE3 u0 l1 (fun x H2 f2 lo2 => hK x H2 (y_sq e2 f2 rfl rfl) lo2)
    have T67 : ∀ {G : aH} {eI : Int32} {u l : Int64}, y_fr h G [19587, 19588, 19589, 19616, 19617, 19618] [] → eI.toInt = e0 → w_f G 19587 = some (.long u) → w_f G 19588 = some (.long l) → 0 ≤ u.toInt → 1 ≤ l.toInt → aOK s_P X (d + 168) a_m244 67 [some (.ref 155), some (.int rI), some (.int fI), some (.int tI), some (.int gI), some (.int uI), some (.long gv), none, some (.long n), none, some (.long dd), none, some (.int kI), some (.int eI), o14, none, o16, none] [] G C S K0 := by
      intro G eI u l e he f1 f2 u0 l1
      refine w_go z_hl [] [215] 40 e.1 ?_
      intro x hx _ _
      obtain rfl := y_fl f1 hx
      intro y hy _ _
      obtain rfl := y_fl f2 hy
      refine ⟨rfl, y_zin (y_l64 n).1 (y_l64 n).2, rfl, y_zin (by show 0 ≤ dd.toInt; omega) (y_l64 dd).2, fun H hH => ?_⟩
      have e2 := y_st e hH (by repeat (first | exact w_nil | refine w_cons (Or.inl (y_m rfl)) ?_ | refine w_cons (Or.inr (by assumption)) ?_)) (by repeat (first | exact w_nil | refine w_cons (Or.inl (y_m rfl)) ?_ | refine w_cons (Or.inr (by assumption)) ?_))
      refine y_times (n := u) (m := l) e2.1 u0 l1 (hH.2.1 19587 _ rfl) (hH.2.1 19588 _ rfl) n0 d1 (fun u' l' H2 a0 b0 a1 b1 g1 g2 e3 => ⟨fun n e => (by cases e), ?_⟩)
      exact T99 (y_sq e2 e3 rfl rfl) he g1 g2 a0 b0
    have T62 : ∀ {G : aH} {eI : Int32} {x : Int64}, y_fr h G [19587, 19588, 19589, 19616, 19617, 19618] [] → eI.toInt = e0 → 0 ≤ x.toInt → aOK s_P X (d + 168) a_m244 62 [some (.ref 155), some (.int rI), some (.int fI), some (.int tI), some (.int gI), some (.int uI), some (.long gv), none, some (.long n), none, some (.long dd), none, some (.int kI), some (.int eI), o14, none, o16, none] [.long x, .ref 155] G C S K0 := by
      intro G eI x e he x0
      refine w_go z_hl [] [194] 40 e.1 ?_
      intro H hH
      have e2 := y_st e hH (by repeat (first | exact w_nil | refine w_cons (Or.inl (y_m rfl)) ?_ | refine w_cons (Or.inr (by assumption)) ?_)) (by repeat (first | exact w_nil | refine w_cons (Or.inl (y_m rfl)) ?_ | refine w_cons (Or.inr (by assumption)) ?_))
      refine q_lowest (n := x) (m := gv) e2.1 (by omega) gv1 (fun u l H2 e3 g1 g2 g3 g4 g5 g6 g7 => ⟨fun n e => (by cases e), ?_⟩)
      exact T67 (y_sq e2 e3 rfl rfl) he g1 g2 (g7 x0) g3
    have T46 : ∀ {G : aH} {eI : Int32}, y_fr h G [19587, 19588, 19589, 19616, 19617, 19618] [] → eI.toInt = e0 → aOK s_P X (d + 168) a_m244 46 [some (.ref 155), some (.int rI), some (.int fI), some (.int tI), some (.int gI), some (.int uI), some (.long gv), none, some (.long n), none, some (.long dd), none, some (.int kI), o13, o14, none, o16, none] [.int eI] G C S K0 := by
      intro G eI e he
      refine w_go z_hl [] [236] 40 e.1 ?_
      intro H hH
      have e2 := y_st e hH (by repeat (first | exact w_nil | refine w_cons (Or.inl (y_m rfl)) ?_ | refine w_cons (Or.inr (by assumption)) ?_)) (by repeat (first | exact w_nil | refine w_cons (Or.inl (y_m rfl)) ?_ | refine w_cons (Or.inr (by assumption)) ?_))
      refine y_wob (y_sc_fr s e2 rfl rfl rfl) h1 r11 (fun _ => by rw [hk, he]; exact ok) okg (fun x H2 f2 x0 x8 => ⟨fun n e => (by cases e), ?_⟩)
      exact T62 (y_sq e2 f2 rfl rfl) he x0
    refine w_go z_hl [32] [245] 40 s.1 ?_
    refine ⟨fun q => ?_, fun _ => fun H hH => ?_⟩
    · have q1 : tI.toInt ≤ kI.toInt := (y_ci .ge _ _).mp q
      omega
    · have f : y_fr h H [] [] := y_st (y_rf s.1) hH (by repeat (first | exact w_nil | refine w_cons (Or.inl (y_m rfl)) ?_ | refine w_cons (Or.inr (by assumption)) ?_)) (by repeat (first | exact w_nil | refine w_cons (Or.inl (y_m rfl)) ?_ | refine w_cons (Or.inr (by assumption)) ?_))
      refine y_thingEnd f.1 ((y_ae f rfl).trans s.2.2.1) h1 r11 hk h3 t40 hE1 le ed (fun eI H2 f2 he => ⟨fun n e => (by cases e), ?_⟩)
      exact T46 (y_sq (y_mo f rfl rfl) f2 rfl rfl) he
theorem y_alone {h : aH} (s : y_sc h nd sg wl) {rI fI tI gI uI : Int32} {r b f : Nat} (h1 : rI.toInt = r) (r11 : r ≤ 11) (h2 : fI.toInt = b) (h3 : tI.toInt = f) (f40 : f ≤ 40) (hE : y_E (y_tx sg r) f 162 1 b f) (okg : 0 ≤ gI.toInt → y_ok1 (y_tx sg r) 40 gI.toInt uI.toInt) (hK : ∀ (x : Int32) (H : aH), y_fr h H [19587, 19588, 19589, 19616, 19617, 19618] [] → (0 ≤ x.toInt → y_low H) → K0 (some (.int x)) H C S) : aOK s_P X (d + 168) a_m244 0 [some (.ref 155), some (.int rI), some (.int fI), some (.int tI), some (.int gI), some (.int uI), none, none, none, none, none, none, none, none, none, none, none, none] [] h C S K0 := by
  have T11 : ∀ {G : aH} {x : Int64}, y_fr h G [19587, 19588, 19589, 19616, 19617, 19618] [] → 0 ≤ x.toInt → aOK s_P X (d + 168) a_m244 11 [some (.ref 155), some (.int rI), some (.int fI), some (.int tI), some (.int gI), some (.int uI), none, none, none, none, none, none, none, none, none, none, none, none] [.long x] G C S K0 := by
    intro G x e x0
    refine w_go z_hl [32] [] 40 e.1 ?_
    refine ⟨fun q => fun H hH => ?_, fun _ => fun H hH => ?_⟩
    · have q2 : x.toInt ≠ (Int64.ofNat 0).toInt := (y_cl .ne _ _).mp q
      rw [show (Int64.ofNat 0).toInt = 0 by decide] at q2
      have e2 := y_st e hH (by repeat (first | exact w_nil | refine w_cons (Or.inl (y_m rfl)) ?_ | refine w_cons (Or.inr (by assumption)) ?_)) (by repeat (first | exact w_nil | refine w_cons (Or.inl (y_m rfl)) ?_ | refine w_cons (Or.inr (by assumption)) ?_))
      exact y_alone_loop h1 r11 h3 f40 okg (by omega) 40 H _ _ _ b 162 _ _ _ (y_sc_fr s e2 rfl rfl rfl) h2 (by omega) (by omega) hE (by decide) (by decide) (fun x H2 f2 lo => hK x H2 (y_sq e2 f2 rfl rfl) (fun _ => lo))
    · exact hK _ H (y_st e hH (by repeat (first | exact w_nil | refine w_cons (Or.inl (y_m rfl)) ?_ | refine w_cons (Or.inr (by assumption)) ?_)) (by repeat (first | exact w_nil | refine w_cons (Or.inl (y_m rfl)) ?_ | refine w_cons (Or.inr (by assumption)) ?_))) (fun q => absurd q (by decide))
  refine w_go z_hl [] [236] 40 s.1 ?_
  intro H hH
  have e : y_fr h H [19587, 19588, 19589, 19616, 19617, 19618] [] := y_st (y_mo (y_rf s.1) rfl rfl) hH (by repeat (first | exact w_nil | refine w_cons (Or.inl (y_m rfl)) ?_ | refine w_cons (Or.inr (by assumption)) ?_)) (by repeat (first | exact w_nil | refine w_cons (Or.inl (y_m rfl)) ?_ | refine w_cons (Or.inr (by assumption)) ?_))
  refine y_wob (y_sc_fr s e rfl rfl rfl) h1 r11 (fun q => absurd q (by decide)) okg (fun x H2 f2 x0 x8 => ⟨fun n e => (by cases e), ?_⟩)
  exact T11 (y_sq e f2 rfl rfl) x0
end WG
end PT29j
section PT29k
/-! ===== v3: the reference's termOf ===== -/
theorem y_E_join {T : Nat → Int} {b f n : Nat} (h : y_E T f (n + 1) 2 b f) (no : ∀ i, b + i < f → T (b + i) = 124 → y_dp T b i ≠ 0) : y_E T f n 1 b f := by
  obtain ⟨r, h1, h2⟩ := h
  have lt := (y_E_lt (T := T) (st := f) n).1 1 (by decide) h1
  have le := (y_E_lt (T := T) (st := f) n).2.2 h2
  by_cases q : r = f
  · rw [q] at h1
    exact h1
  · cases n with
    | zero => exact h1.elim
    | succ n =>
      rcases h2 with ⟨-, x⟩ | ⟨x, -⟩
      · exact absurd x.symm q
      · have dp := (y_E_dp (n + 1) (by decide) h1).1
        have := no (r - b) (by omega) (by rw [show b + (r - b) = r by omega]; exact x)
        exact absurd dp this
section WG
variable {X : aX} {C S d : Nat} {K0 : Option Value → aH → Nat → Nat → Prop} {nd : Int32} {sg : List Int32} {wl : List Int64}
theorem y_term_end {h : aH} (s : y_sc h nd sg wl) {rI sI lI kI fI tI xI gI uI : Int32} {r : Nat} (h1 : rI.toInt = r) (r11 : r ≤ 11) (okf : y_ok1 (y_tx sg r) 40 fI.toInt tI.toInt) (okg : 0 ≤ gI.toInt → y_ok1 (y_tx sg r) 40 gI.toInt uI.toInt) (hK : ∀ (x : Int32) (H : aH), y_fr h H [19587, 19588, 19589, 19616, 19617, 19618] [] → (0 ≤ x.toInt → y_low H) → K0 (some (.int x)) H C S) : aOK s_P X (d + 169) a_m242 195 [some (.ref 155), some (.int rI), some (.int sI), some (.int lI), some (.int kI), some (.int fI), some (.int tI), some (.int xI), some (.int gI), some (.int uI), none, none, none, none] [] h C S K0 := by
  have T285 : ∀ {G : aH} {gv bo : Int64}, y_fr h G [19587, 19588, 19589, 19616, 19617, 19618] [] → y_low G → aOK s_P X (d + 169) a_m242 285 [some (.ref 155), some (.int rI), some (.int sI), some (.int lI), some (.int kI), some (.int fI), some (.int tI), some (.int xI), some (.int gI), some (.int uI), some (.long gv), none, some (.long bo), none] [] G C S K0 := by
    intro G gv bo e lo
    refine w_go z_hl [] [] 40 e.1 ?_
    intro H hH
    have f : y_fr G H [] [] := y_st (y_rf e.1) hH (by repeat (first | exact w_nil | refine w_cons (Or.inl (y_m rfl)) ?_ | refine w_cons (Or.inr (by assumption)) ?_)) (by repeat (first | exact w_nil | refine w_cons (Or.inl (y_m rfl)) ?_ | refine w_cons (Or.inr (by assumption)) ?_))
    exact hK _ H (y_sq e f rfl rfl) (fun _ => y_low_fr lo f rfl)
  have T282 : ∀ {G : aH} {gv bo x : Int64}, y_fr h G [19587, 19588, 19589, 19616, 19617, 19618] [] → -200000000 ≤ x.toInt → 1 ≤ gv.toInt → aOK s_P X (d + 169) a_m242 282 [some (.ref 155), some (.int rI), some (.int sI), some (.int lI), some (.int kI), some (.int fI), some (.int tI), some (.int xI), some (.int gI), some (.int uI), some (.long gv), none, some (.long bo), none] [.long gv, .long x, .ref 155] G C S K0 := by
    intro G gv bo x e x0 g1
    refine w_go z_hl [] [194] 40 e.1 ?_
    intro H hH
    have e2 := y_st e hH (by repeat (first | exact w_nil | refine w_cons (Or.inl (y_m rfl)) ?_ | refine w_cons (Or.inr (by assumption)) ?_)) (by repeat (first | exact w_nil | refine w_cons (Or.inl (y_m rfl)) ?_ | refine w_cons (Or.inr (by assumption)) ?_))
    refine q_lowest (n := x) (m := gv) e2.1 (by omega) g1 (fun u l H2 e3 f1 f2 f3 f4 f5 f6 f7 => ⟨fun n e => (by cases e), ?_⟩)
    exact T285 (y_sq e2 e3 rfl rfl) ⟨l, f2, f3⟩
  have T262 : ∀ {G : aH} {gv bo : Int64}, y_fr h G [19587, 19588, 19589, 19616, 19617, 19618] [] → 1 ≤ gv.toInt → gv.toInt ≤ 100000000 → 0 ≤ bo.toInt → bo.toInt ≤ 100000000 → aOK s_P X (d + 169) a_m242 262 [some (.ref 155), some (.int rI), some (.int sI), some (.int lI), some (.int kI), some (.int fI), some (.int tI), some (.int xI), some (.int gI), some (.int uI), some (.long gv), none, none, none] [.long bo] G C S K0 := by
    intro G gv bo e g1 g8 b0 b8
    have sb : (gv - bo).toInt = gv.toInt - bo.toInt := y_lsub (by omega) (by omega)
    refine w_go z_hl [282] [] 40 e.1 ?_
    refine ⟨fun _ => fun H hH => T282 (y_st e hH (by repeat (first | exact w_nil | refine w_cons (Or.inl (y_m rfl)) ?_ | refine w_cons (Or.inr (by assumption)) ?_)) (by repeat (first | exact w_nil | refine w_cons (Or.inl (y_m rfl)) ?_ | refine w_cons (Or.inr (by assumption)) ?_))) (by omega) g1, fun _ => fun H hH => T282 (y_st e hH (by repeat (first | exact w_nil | refine w_cons (Or.inl (y_m rfl)) ?_ | refine w_cons (Or.inr (by assumption)) ?_)) (by repeat (first | exact w_nil | refine w_cons (Or.inl (y_m rfl)) ?_ | refine w_cons (Or.inr (by assumption)) ?_))) (by rw [sb]; omega) g1⟩
  have T237 : ∀ {G : aH} {gv : Int64}, y_fr h G [19587, 19588, 19589, 19616, 19617, 19618] [] → 0 ≤ gv.toInt → gv.toInt ≤ 100000000 → aOK s_P X (d + 169) a_m242 237 [some (.ref 155), some (.int rI), some (.int sI), some (.int lI), some (.int kI), some (.int fI), some (.int tI), some (.int xI), some (.int gI), some (.int uI), none, none, none, none] [.long gv] G C S K0 := by
    intro G gv e g0 g8
    refine w_go z_hl [] [236] 40 e.1 ?_
    refine ⟨fun q => fun H hH => ?_, fun _ => fun H hH => hK _ H (y_st e hH (by repeat (first | exact w_nil | refine w_cons (Or.inl (y_m rfl)) ?_ | refine w_cons (Or.inr (by assumption)) ?_)) (by repeat (first | exact w_nil | refine w_cons (Or.inl (y_m rfl)) ?_ | refine w_cons (Or.inr (by assumption)) ?_))) (fun q => absurd q (by decide))⟩
    have q2 : gv.toInt ≠ (Int64.ofNat 0).toInt := (y_cl .ne _ _).mp q
    rw [show (Int64.ofNat 0).toInt = 0 by decide] at q2
    have e2 := y_st e hH (by repeat (first | exact w_nil | refine w_cons (Or.inl (y_m rfl)) ?_ | refine w_cons (Or.inr (by assumption)) ?_)) (by repeat (first | exact w_nil | refine w_cons (Or.inl (y_m rfl)) ?_ | refine w_cons (Or.inr (by assumption)) ?_))
    refine aOK_deep (d := d + 167) (by omega) (y_wob (y_sc_fr s e2 rfl rfl rfl) h1 r11 (fun _ => okf) okg (fun x H2 f2 x0 x8 => ⟨fun n e => (by cases e), ?_⟩))
    exact T262 (y_sq e2 f2 rfl rfl) (by omega) g8 x0 x8
  have T226 : ∀ {G : aH}, y_fr h G [19587, 19588, 19589, 19616, 19617, 19618] [] → aOK s_P X (d + 169) a_m242 226 [some (.ref 155), some (.int rI), some (.int sI), some (.int lI), some (.int kI), some (.int fI), some (.int tI), some (.int xI), some (.int gI), some (.int uI), none, none, none, none] [] G C S K0 := by
    intro G e
    refine w_go z_hl [] [236] 40 e.1 ?_
    intro H hH
    have e2 := y_st e hH (by repeat (first | exact w_nil | refine w_cons (Or.inl (y_m rfl)) ?_ | refine w_cons (Or.inr (by assumption)) ?_)) (by repeat (first | exact w_nil | refine w_cons (Or.inl (y_m rfl)) ?_ | refine w_cons (Or.inr (by assumption)) ?_))
    refine aOK_deep (d := d + 167) (by omega) (y_wob (y_sc_fr s e2 rfl rfl rfl) h1 r11 (fun q => absurd q (by decide)) okg (fun x H2 f2 x0 x8 => ⟨fun n e => (by cases e), ?_⟩))
    exact T237 (y_sq e2 f2 rfl rfl) x0 x8
  have T225 : ∀ {G : aH} {x : Int32}, y_fr h G [19587, 19588, 19589, 19616, 19617, 19618] [] → (0 ≤ x.toInt → y_low G) → aOK s_P X (d + 169) a_m242 225 [some (.ref 155), some (.int rI), some (.int sI), some (.int lI), some (.int kI), some (.int fI), some (.int tI), some (.int xI), some (.int gI), some (.int uI), none, none, none, none] [.int x] G C S K0 := by
    intro G x e lo
    refine w_go z_hl [] [] 40 e.1 ?_
    intro H hH
    have f : y_fr G H [] [] := y_st (y_rf e.1) hH (by repeat (first | exact w_nil | refine w_cons (Or.inl (y_m rfl)) ?_ | refine w_cons (Or.inr (by assumption)) ?_)) (by repeat (first | exact w_nil | refine w_cons (Or.inl (y_m rfl)) ?_ | refine w_cons (Or.inr (by assumption)) ?_))
    exact hK x H (y_sq e f rfl rfl) (fun q => y_low_fr (lo q) f rfl)
  obtain ⟨o1, o2, o3, o4⟩ := id okf
  have lt := (y_E_lt (T := y_tx sg r) (st := tI.toInt.toNat) 163).1 2 (by decide) o4
  have T209 : ∀ {G : aH} {b : Bool}, y_fr h G [19587, 19588, 19589, 19616, 19617, 19618] [] → (b = true → y_E (y_tx sg r) tI.toInt.toNat 162 1 fI.toInt.toNat tI.toInt.toNat) → aOK s_P X (d + 169) a_m242 209 [some (.ref 155), some (.int rI), some (.int sI), some (.int lI), some (.int kI), some (.int fI), some (.int tI), some (.int xI), some (.int gI), some (.int uI), none, none, none, none] [.int (y_01 b)] G C S K0 := by
    intro G b e hb
    refine w_go z_hl [226] [244] 40 e.1 ?_
    refine ⟨fun _ => fun H hH => T226 (y_st e hH (by repeat (first | exact w_nil | refine w_cons (Or.inl (y_m rfl)) ?_ | refine w_cons (Or.inr (by assumption)) ?_)) (by repeat (first | exact w_nil | refine w_cons (Or.inl (y_m rfl)) ?_ | refine w_cons (Or.inr (by assumption)) ?_))), fun q => fun H hH => ?_⟩
    cases b with
    | false => exact absurd q (by decide)
    | true =>
      have e2 := y_st e hH (by repeat (first | exact w_nil | refine w_cons (Or.inl (y_m rfl)) ?_ | refine w_cons (Or.inr (by assumption)) ?_)) (by repeat (first | exact w_nil | refine w_cons (Or.inl (y_m rfl)) ?_ | refine w_cons (Or.inr (by assumption)) ?_))
      refine y_alone (b := fI.toInt.toNat) (f := tI.toInt.toNat) (y_sc_fr s e2 rfl rfl rfl) h1 r11 (by omega) (by omega) (by omega) (hb rfl) okg (fun x H2 f2 lo => ⟨fun n e => (by cases e), ?_⟩)
      exact T225 (y_sq e2 f2 rfl rfl) lo
  have e0 : y_fr h h [19587, 19588, 19589, 19616, 19617, 19618] [] := y_mo (y_rf s.1) rfl rfl
  refine w_go z_hl [226] [243] 40 s.1 ?_
  refine ⟨fun _ => fun H hH => T226 (y_st e0 hH (by repeat (first | exact w_nil | refine w_cons (Or.inl (y_m rfl)) ?_ | refine w_cons (Or.inr (by assumption)) ?_)) (by repeat (first | exact w_nil | refine w_cons (Or.inl (y_m rfl)) ?_ | refine w_cons (Or.inr (by assumption)) ?_))), fun _ => fun H hH => ?_⟩
  have e2 := y_st e0 hH (by repeat (first | exact w_nil | refine w_cons (Or.inl (y_m rfl)) ?_ | refine w_cons (Or.inr (by assumption)) ?_)) (by repeat (first | exact w_nil | refine w_cons (Or.inl (y_m rfl)) ?_ | refine w_cons (Or.inr (by assumption)) ?_))
  refine aOK_deep (d := d + 1) (by omega) (y_isJoined (k0 := fI.toInt.toNat) (till := tI.toInt.toNat) e2.1 ((y_ae e2 rfl).trans s.2.2.1) h1 r11 (by omega) (by omega) (by omega) (by omega) (fun b' H2 f2 hb => ⟨fun n e => (by cases e), ?_⟩))
  exact T209 (y_sq e2 f2 rfl rfl) (fun q => y_E_join o4 (hb q))
theorem y_termOf {h : aH} {r : Nat} {ac kd be fi : List Int32} {nu : List Int64} (s : y_sd h nd sg wl r ac kd nu be fi) {rI sI lI : Int32} {sd : Nat} (h1 : rI.toInt = r) (h2 : sI.toInt = sd) (sd2 : sd < 2) (hK : ∀ (x : Int32) (H : aH), y_fr h H [19587, 19588, 19589, 19616, 19617, 19618] [] → (0 ≤ x.toInt → y_low H) → K0 (some (.int x)) H C S) : aOK s_P X (d + 169) a_m242 0 [some (.ref 155), some (.int rI), some (.int sI), some (.int lI), none, none, none, none, none, none, none, none, none, none] [] h C S K0 := by
  obtain ⟨sc, a1, a2, a3, a4, a5, ⟨t0, t1, t2⟩, r11⟩ := id s
  have hr := sc.1
  have tm : y_tm (y_tx sg r) 40 (2 * r + sd) kd nu be fi := by
    have : sd = 0 ∨ sd = 1 := by omega
    rcases this with rfl | rfl
    · exact t0
    · exact t1
  obtain ⟨m0, m1, m2⟩ := tm
  have hk := y_2k h1 h2 (by omega) (by omega)
  generalize hkI : Int32.ofInt 2 * rI + sI = kI at hk
  have ck := y_cl1 hk
  have hk2 : (Int32.ofInt 2 * kI).toInt = ((2 * (2 * r + sd) : Nat) : Int) := y_mulS (m := 2) _ (by decide) hk rfl (by omega)
  have hk3 : (Int32.ofInt 2 * kI + Int32.ofInt 1).toInt = ((2 * (2 * r + sd) + 1 : Nat) : Int) := y_addS _ hk2 (n := 1) (by decide) rfl (by omega)
  have c2 := y_cl1 hk2
  have c3 := y_cl1 hk3
  have b1 : 0 ≤ kI.toInt ∧ kI.toInt < ((26 : Nat) : Int) := by omega
  have b2 : 0 ≤ (Int32.ofInt 2 * kI).toInt ∧ (Int32.ofInt 2 * kI).toInt < ((52 : Nat) : Int) := by omega
  have b3 : 0 ≤ (Int32.ofInt 2 * kI + Int32.ofInt 1).toInt ∧ (Int32.ofInt 2 * kI + Int32.ofInt 1).toInt < ((52 : Nat) : Int) := by omega
  have fin : ∀ {G : aH} {fI tI xI gI uI : Int32}, y_fr h G [19587, 19588, 19589, 19616, 19617, 19618] [] → y_ok1 (y_tx sg r) 40 fI.toInt tI.toInt → (0 ≤ gI.toInt → y_ok1 (y_tx sg r) 40 gI.toInt uI.toInt) → aOK s_P X (d + 169) a_m242 195 [some (.ref 155), some (.int rI), some (.int sI), some (.int lI), some (.int kI), some (.int fI), some (.int tI), some (.int xI), some (.int gI), some (.int uI), none, none, none, none] [] G C S K0 := by
    intro G fI tI xI gI uI e o1 o2
    exact y_term_end (y_sc_fr sc e rfl rfl rfl) h1 r11 o1 o2 (fun x H f lo => hK x H (y_sq e f rfl rfl) lo)
  have T137 : ∀ {G : aH} {fI tI gI uI : Int32} {b : Bool}, y_fr h G [19587, 19588, 19589, 19616, 19617, 19618] [] → y_ok1 (y_tx sg r) 40 fI.toInt tI.toInt → (0 ≤ gI.toInt → y_ok1 (y_tx sg r) 40 gI.toInt uI.toInt) → (b = true → y_ok1 (y_tx sg r) 40 (y_N be (2 * (2 * r + sd) + 1)) (y_N fi (2 * (2 * r + sd) + 1))) → y_ok1 (y_tx sg r) 40 (y_N be (2 * (2 * r + sd))) (y_N fi (2 * (2 * r + sd))) → aOK s_P X (d + 169) a_m242 137 [some (.ref 155), some (.int rI), some (.int sI), some (.int lI), some (.int kI), some (.int fI), some (.int tI), some (.int (y_01 b)), some (.int gI), some (.int uI), none, none, none, none] [] G C S K0 := by
    intro G fI tI gI uI b e o1 o2 o3 o4
    refine w_go z_hl [195] [] 60 e.1 ?_
    refine ⟨fun _ => fun H hH => fin (y_st e hH (by repeat (first | exact w_nil | refine w_cons (Or.inl (y_m rfl)) ?_ | refine w_cons (Or.inr (by assumption)) ?_)) (by repeat (first | exact w_nil | refine w_cons (Or.inl (y_m rfl)) ?_ | refine w_cons (Or.inr (by assumption)) ?_))) o1 o2, fun _ => ⟨fun _ => fun H hH => fin (y_st e hH (by repeat (first | exact w_nil | refine w_cons (Or.inl (y_m rfl)) ?_ | refine w_cons (Or.inr (by assumption)) ?_)) (by repeat (first | exact w_nil | refine w_cons (Or.inl (y_m rfl)) ?_ | refine w_cons (Or.inr (by assumption)) ?_))) o1 o2, fun q => ?_⟩⟩
    cases b with
    | false => exact absurd q (by decide)
    | true =>
      refine ⟨b3, fun l hl len bb => ?_⟩
      obtain rfl := y_ai ((y_ae e rfl).trans a4) hl
      refine ⟨b3, fun l2 hl2 len2 bb2 => ?_⟩
      obtain rfl := y_ai ((y_ae e rfl).trans a5) hl2
      refine ⟨b2, b2, fun H hH => ?_⟩
      refine fin (y_st e hH (by repeat (first | exact w_nil | refine w_cons (Or.inl (y_m rfl)) ?_ | refine w_cons (Or.inr (by assumption)) ?_)) (by repeat (first | exact w_nil | refine w_cons (Or.inl (y_m rfl)) ?_ | refine w_cons (Or.inr (by assumption)) ?_))) ?_ (fun _ => ?_)
      · rw [c3]
        exact o3 rfl
      · rw [c2]
        exact o4
  have T91 : ∀ {G : aH} {fI tI : Int32} {b : Bool}, y_fr h G [19587, 19588, 19589, 19616, 19617, 19618] [] → y_ok1 (y_tx sg r) 40 fI.toInt tI.toInt → (b = true → y_ok1 (y_tx sg r) 40 (y_N be (2 * (2 * r + sd) + 1)) (y_N fi (2 * (2 * r + sd) + 1))) → y_ok1 (y_tx sg r) 40 (y_N be (2 * (2 * r + sd))) (y_N fi (2 * (2 * r + sd))) → aOK s_P X (d + 169) a_m242 91 [some (.ref 155), some (.int rI), some (.int sI), some (.int lI), some (.int kI), some (.int fI), some (.int tI), none, none, none, none, none, none, none] [.int (y_01 b)] G C S K0 := by
    intro G fI tI b e o1 o3 o4
    cases b with
    | false =>
      refine w_go z_hl [137] [] 60 e.1 ?_
      refine ⟨fun _ => ⟨fun _ => fun H hH => T137 (b := false) (y_st e hH (by repeat (first | exact w_nil | refine w_cons (Or.inl (y_m rfl)) ?_ | refine w_cons (Or.inr (by assumption)) ?_)) (by repeat (first | exact w_nil | refine w_cons (Or.inl (y_m rfl)) ?_ | refine w_cons (Or.inr (by assumption)) ?_))) o1 (fun q => absurd q (by decide)) (fun q => by cases q) o4, fun q => absurd q (by decide)⟩, fun q => absurd q (by decide)⟩
    | true =>
      refine w_go z_hl [137] [] 60 e.1 ?_
      refine ⟨fun q => absurd q (by decide), fun _ => ⟨b3, fun l hl len bb => ?_⟩⟩
      obtain rfl := y_ai ((y_ae e rfl).trans a4) hl
      refine ⟨fun q => absurd q (by decide), fun _ => ⟨b3, fun l2 hl2 len2 bb2 => fun H hH => ?_⟩⟩
      obtain rfl := y_ai ((y_ae e rfl).trans a5) hl2
      refine T137 (b := true) (y_st e hH (by repeat (first | exact w_nil | refine w_cons (Or.inl (y_m rfl)) ?_ | refine w_cons (Or.inr (by assumption)) ?_)) (by repeat (first | exact w_nil | refine w_cons (Or.inl (y_m rfl)) ?_ | refine w_cons (Or.inr (by assumption)) ?_))) o1 (fun _ => ?_) (fun _ => o3 rfl) o4
      rw [c3]
      exact o3 rfl
  have T48 : ∀ {G : aH}, y_fr h G [19587, 19588, 19589, 19616, 19617, 19618] [] → y_N kd (2 * r + sd) ≠ 0 → aOK s_P X (d + 169) a_m242 48 [some (.ref 155), some (.int rI), some (.int sI), some (.int lI), some (.int kI), none, none, none, none, none, none, none, none, none] [] G C S K0 := by
    intro G e hk0
    refine w_go z_hl [91] [] 60 e.1 ?_
    refine ⟨b2, fun l hl len bb => ?_⟩
    obtain rfl := y_ai ((y_ae e rfl).trans a4) hl
    refine ⟨b2, fun l2 hl2 len2 bb2 => ?_⟩
    obtain rfl := y_ai ((y_ae e rfl).trans a5) hl2
    refine ⟨b1, fun l3 hl3 len3 bb3 => ?_⟩
    obtain rfl := y_ai ((y_ae e rfl).trans a2) hl3
    have okf : y_ok1 (y_tx sg r) 40 (be.getD (Int32.ofInt 2 * kI).toNatClampNeg 0).toInt (fi.getD (Int32.ofInt 2 * kI).toNatClampNeg 0).toInt := by
      rw [c2]
      exact m1 hk0
    refine ⟨fun _ => fun H hH => T91 (b := false) (y_st e hH (by repeat (first | exact w_nil | refine w_cons (Or.inl (y_m rfl)) ?_ | refine w_cons (Or.inr (by assumption)) ?_)) (by repeat (first | exact w_nil | refine w_cons (Or.inl (y_m rfl)) ?_ | refine w_cons (Or.inr (by assumption)) ?_))) okf (fun q => by cases q) (m1 hk0), fun q => ⟨fun _ => fun H hH => T91 (b := false) (y_st e hH (by repeat (first | exact w_nil | refine w_cons (Or.inl (y_m rfl)) ?_ | refine w_cons (Or.inr (by assumption)) ?_)) (by repeat (first | exact w_nil | refine w_cons (Or.inl (y_m rfl)) ?_ | refine w_cons (Or.inr (by assumption)) ?_))) okf (fun q => by cases q) (m1 hk0), fun _ => fun H hH => T91 (b := true) (y_st e hH (by repeat (first | exact w_nil | refine w_cons (Or.inl (y_m rfl)) ?_ | refine w_cons (Or.inr (by assumption)) ?_)) (by repeat (first | exact w_nil | refine w_cons (Or.inl (y_m rfl)) ?_ | refine w_cons (Or.inr (by assumption)) ?_))) okf (fun _ => m2 ?_) (m1 hk0)⟩⟩
    have q2 : ¬ ((kd.getD kI.toNatClampNeg 0).toInt ≠ (Int32.ofInt 2).toInt) := y_cif q
    rw [ck, show (Int32.ofInt 2).toInt = 2 by decide] at q2
    exact Decidable.not_not.mp q2
  have T46 : ∀ {G : aH}, y_fr h G [19587, 19588, 19589, 19616, 19617, 19618] [] → y_low G → aOK s_P X (d + 169) a_m242 46 [some (.ref 155), some (.int rI), some (.int sI), some (.int lI), some (.int kI), none, none, none, none, none, none, none, none, none] [] G C S K0 := by
    intro G e lo
    refine w_go z_hl [] [] 40 e.1 ?_
    intro H hH
    have f : y_fr G H [] [] := y_st (y_rf e.1) hH (by repeat (first | exact w_nil | refine w_cons (Or.inl (y_m rfl)) ?_ | refine w_cons (Or.inr (by assumption)) ?_)) (by repeat (first | exact w_nil | refine w_cons (Or.inl (y_m rfl)) ?_ | refine w_cons (Or.inr (by assumption)) ?_))
    exact hK _ H (y_sq e f rfl rfl) (fun _ => y_low_fr lo f rfl)
  have T7 : ∀ {G : aH}, y_fr h G [19587, 19588, 19589, 19616, 19617, 19618] [] → aOK s_P X (d + 169) a_m242 7 [some (.ref 155), some (.int rI), some (.int sI), some (.int lI), some (.int kI), none, none, none, none, none, none, none, none, none] [] G C S K0 := by
    intro G e
    refine w_go z_hl [48] [194] 60 e.1 ?_
    refine ⟨rfl, y_zini (by decide) (by decide), ⟨b1, fun l hl len bb => ?_⟩⟩
    obtain rfl := y_ai ((y_ae e rfl).trans a2) hl
    refine ⟨fun q => fun H hH => ?_, fun q => ?_⟩
    · have q2 : (kd.getD kI.toNatClampNeg 0).toInt ≠ (0 : Int32).toInt := (y_ci .ne _ _).mp q
      rw [ck, show (0 : Int32).toInt = 0 by decide] at q2
      exact T48 (y_st e hH (by repeat (first | exact w_nil | refine w_cons (Or.inl (y_m rfl)) ?_ | refine w_cons (Or.inr (by assumption)) ?_)) (by repeat (first | exact w_nil | refine w_cons (Or.inl (y_m rfl)) ?_ | refine w_cons (Or.inr (by assumption)) ?_))) q2
    · have q2 : ¬ ((kd.getD kI.toNatClampNeg 0).toInt ≠ (0 : Int32).toInt) := y_cif q
      rw [ck, show (0 : Int32).toInt = 0 by decide] at q2
      have mm := m0 (Decidable.not_not.mp q2)
      refine ⟨b2, fun l2 hl2 len2 bb2 => ?_⟩
      obtain rfl := y_al ((y_ae e rfl).trans a3) hl2
      refine ⟨b3, fun H hH => ?_⟩
      have e2 := y_st e hH (by repeat (first | exact w_nil | refine w_cons (Or.inl (y_m rfl)) ?_ | refine w_cons (Or.inr (by assumption)) ?_)) (by repeat (first | exact w_nil | refine w_cons (Or.inl (y_m rfl)) ?_ | refine w_cons (Or.inr (by assumption)) ?_))
      refine q_lowest (n := nu.getD (Int32.ofInt 2 * kI).toNatClampNeg 0) (m := nu.getD (Int32.ofInt 2 * kI + Int32.ofInt 1).toNatClampNeg 0) e2.1 (by rw [c2]; have := mm.1; unfold y_Nl at this; omega) (by rw [c3]; exact mm.2) (fun u l H2 e3 f1 f2 f3 f4 f5 f6 f7 => ⟨fun n e => (by cases e), ?_⟩)
      exact T46 (y_sq e2 e3 rfl rfl) ⟨l, f2, f3⟩
  refine w_go z_hl [7] [] 40 hr ?_
  intro H hH
  have := T7 (y_st (y_mo (y_rf hr) rfl rfl) hH (by repeat (first | exact w_nil | refine w_cons (Or.inl (y_m rfl)) ?_ | refine w_cons (Or.inr (by assumption)) ?_)) (by repeat (first | exact w_nil | refine w_cons (Or.inl (y_m rfl)) ?_ | refine w_cons (Or.inr (by assumption)) ?_)))
  rw [← hkI] at this
  exact this
end WG
end PT29k
section PT29l
/-! ===== v3: the reference's soBy, togetherBy ===== -/
section WG
variable {X : aX} {C S d : Nat} {K0 : Option Value → aH → Nat → Nat → Prop} {nd : Int32} {sg : List Int32} {wl : List Int64}
theorem y_soBy {h : aH} {r : Nat} {ac kd be fi : List Int32} {nu : List Int64} (s : y_sd h nd sg wl r ac kd nu be fi) {rI lI : Int32} (h1 : rI.toInt = r) (hK : ∀ (x : Int32) (H : aH), y_fr h H [19587, 19588, 19589, 19616, 19617, 19618] [155] → K0 (some (.int x)) H C S) : aOK s_P X (d + 170) a_m241 0 [some (.ref 155), some (.int rI), some (.int lI), none, none, none, none, none, none, none] [] h C S K0 := by
  obtain ⟨sc, a1, a2, a3, a4, a5, -, r11⟩ := id s
  have hr := sc.1
  have T119 : ∀ {G : aH} {x y c : Int32} {n dd : Int64} {b : Bool}, y_fr h G [19587, 19588, 19589, 19616, 19617, 19618] [155] → aOK s_P X (d + 170) a_m241 119 [some (.ref 155), some (.int rI), some (.int lI), some (.int x), some (.long n), none, some (.long dd), none, some (.int y), some (.int c)] [.int (y_01 b)] G C S K0 := by
    intro G x y c n dd b e
    refine w_go z_hl [] [] 40 e.1 ?_
    exact ⟨fun _ => fun H hH => hK _ H (y_st e hH (by repeat (first | exact w_nil | refine w_cons (Or.inl (y_m rfl)) ?_ | refine w_cons (Or.inr (by assumption)) ?_)) (by repeat (first | exact w_nil | refine w_cons (Or.inl (y_m rfl)) ?_ | refine w_cons (Or.inr (by assumption)) ?_))), fun _ => fun H hH => hK _ H (y_st e hH (by repeat (first | exact w_nil | refine w_cons (Or.inl (y_m rfl)) ?_ | refine w_cons (Or.inr (by assumption)) ?_)) (by repeat (first | exact w_nil | refine w_cons (Or.inl (y_m rfl)) ?_ | refine w_cons (Or.inr (by assumption)) ?_)))⟩
  have T59 : ∀ {G : aH} {x y c : Int32} {n dd : Int64}, y_fr h G [19587, 19588, 19589, 19616, 19617, 19618] [155] → aOK s_P X (d + 170) a_m241 59 [some (.ref 155), some (.int rI), some (.int lI), some (.int x), some (.long n), none, some (.long dd), none, some (.int y), none] [.int c] G C S K0 := by
    intro G x y c n dd e
    refine w_go z_hl [119] [] 60 e.1 ?_
    refine ⟨⟨by omega, by omega⟩, fun l hl len bb => ?_⟩
    refine ⟨fun _ => ⟨⟨by omega, by omega⟩, ⟨fun _ => ⟨fun _ => fun H hH => T119 (b := false) (y_st e hH (by repeat (first | exact w_nil | refine w_cons (Or.inl (y_m rfl)) ?_ | refine w_cons (Or.inr (by assumption)) ?_)) (by repeat (first | exact w_nil | refine w_cons (Or.inl (y_m rfl)) ?_ | refine w_cons (Or.inr (by assumption)) ?_))), fun _ => fun H hH => T119 (b := true) (y_st e hH (by repeat (first | exact w_nil | refine w_cons (Or.inl (y_m rfl)) ?_ | refine w_cons (Or.inr (by assumption)) ?_)) (by repeat (first | exact w_nil | refine w_cons (Or.inl (y_m rfl)) ?_ | refine w_cons (Or.inr (by assumption)) ?_)))⟩, fun _ => ⟨fun _ => fun H hH => T119 (b := false) (y_st e hH (by repeat (first | exact w_nil | refine w_cons (Or.inl (y_m rfl)) ?_ | refine w_cons (Or.inr (by assumption)) ?_)) (by repeat (first | exact w_nil | refine w_cons (Or.inl (y_m rfl)) ?_ | refine w_cons (Or.inr (by assumption)) ?_))), fun _ => fun H hH => T119 (b := true) (y_st e hH (by repeat (first | exact w_nil | refine w_cons (Or.inl (y_m rfl)) ?_ | refine w_cons (Or.inr (by assumption)) ?_)) (by repeat (first | exact w_nil | refine w_cons (Or.inl (y_m rfl)) ?_ | refine w_cons (Or.inr (by assumption)) ?_)))⟩⟩⟩, fun _ => ⟨fun _ => fun H hH => T119 (b := false) (y_st e hH (by repeat (first | exact w_nil | refine w_cons (Or.inl (y_m rfl)) ?_ | refine w_cons (Or.inr (by assumption)) ?_)) (by repeat (first | exact w_nil | refine w_cons (Or.inl (y_m rfl)) ?_ | refine w_cons (Or.inr (by assumption)) ?_))), fun _ => fun H hH => T119 (b := true) (y_st e hH (by repeat (first | exact w_nil | refine w_cons (Or.inl (y_m rfl)) ?_ | refine w_cons (Or.inr (by assumption)) ?_)) (by repeat (first | exact w_nil | refine w_cons (Or.inl (y_m rfl)) ?_ | refine w_cons (Or.inr (by assumption)) ?_)))⟩⟩
  have T33 : ∀ {G : aH} {x y : Int32} {n dd : Int64}, y_fr h G [19587, 19588, 19589, 19616, 19617, 19618] [] → (0 ≤ y.toInt → y_low G) → 1 ≤ dd.toInt → aOK s_P X (d + 170) a_m241 33 [some (.ref 155), some (.int rI), some (.int lI), some (.int x), some (.long n), none, some (.long dd), none, none, none] [.int y] G C S K0 := by
    intro G x y n dd e lo d1
    refine w_go z_hl [] [203] 40 e.1 ?_
    refine ⟨fun q => ?_, fun _ => fun H hH => hK _ H (y_st (y_mo e rfl rfl) hH (by repeat (first | exact w_nil | refine w_cons (Or.inl (y_m rfl)) ?_ | refine w_cons (Or.inr (by assumption)) ?_)) (by repeat (first | exact w_nil | refine w_cons (Or.inl (y_m rfl)) ?_ | refine w_cons (Or.inr (by assumption)) ?_)))⟩
    have q2 : (0 : Int32).toInt ≤ y.toInt := (y_ci .ge _ _).mp q
    rw [show (0 : Int32).toInt = 0 by decide] at q2
    obtain ⟨l, l1, l2⟩ := lo q2
    intro u hu _ _
    intro l' hl' _ _
    obtain rfl := y_fl l1 hl'
    intro H hH
    have e2 := y_st (y_mo e rfl rfl : y_fr h G [19587, 19588, 19589, 19616, 19617, 19618] [155]) hH (by repeat (first | exact w_nil | refine w_cons (Or.inl (y_m rfl)) ?_ | refine w_cons (Or.inr (by assumption)) ?_)) (by repeat (first | exact w_nil | refine w_cons (Or.inl (y_m rfl)) ?_ | refine w_cons (Or.inr (by assumption)) ?_))
    refine aOK_deep (d := d + 1) (by omega) (y_compares (b := dd) (e := l) e2.1 (fun q => by rw [q] at d1; exact absurd d1 (by decide)) (fun q => by rw [q] at l2; exact absurd l2 (by decide)) (fun r H2 hr2 e3 => ⟨fun n e => (by cases e), ?_⟩))
    exact T59 (y_sq e2 e3 rfl rfl)
  have T7 : ∀ {G : aH} {x : Int32}, y_fr h G [19587, 19588, 19589, 19616, 19617, 19618] [] → (0 ≤ x.toInt → y_low G) → aOK s_P X (d + 170) a_m241 7 [some (.ref 155), some (.int rI), some (.int lI), none, none, none, none, none, none, none] [.int x] G C S K0 := by
    intro G x e lo
    refine w_go z_hl [] [242] 40 e.1 ?_
    refine ⟨fun q => ?_, fun _ => fun H hH => hK _ H (y_st (y_mo e rfl rfl) hH (by repeat (first | exact w_nil | refine w_cons (Or.inl (y_m rfl)) ?_ | refine w_cons (Or.inr (by assumption)) ?_)) (by repeat (first | exact w_nil | refine w_cons (Or.inl (y_m rfl)) ?_ | refine w_cons (Or.inr (by assumption)) ?_)))⟩
    have q2 : (0 : Int32).toInt ≤ x.toInt := (y_ci .ge _ _).mp q
    rw [show (0 : Int32).toInt = 0 by decide] at q2
    obtain ⟨l, l1, l2⟩ := lo q2
    intro u hu _ _
    intro l' hl' _ _
    obtain rfl := y_fl l1 hl'
    intro H hH
    have e2 := y_st e hH (by repeat (first | exact w_nil | refine w_cons (Or.inl (y_m rfl)) ?_ | refine w_cons (Or.inr (by assumption)) ?_)) (by repeat (first | exact w_nil | refine w_cons (Or.inl (y_m rfl)) ?_ | refine w_cons (Or.inr (by assumption)) ?_))
    refine y_termOf (sd := 1) (y_sd_fr s e2 rfl) h1 (by decide) (by decide) (fun y H2 f2 lo2 => ⟨fun n e => (by cases e), ?_⟩)
    exact T33 (y_sq e2 f2 rfl rfl) lo2 l2
  refine w_go z_hl [] [242] 40 hr ?_
  intro H hH
  have e : y_fr h H [19587, 19588, 19589, 19616, 19617, 19618] [] := y_st (y_mo (y_rf hr) rfl rfl) hH (by repeat (first | exact w_nil | refine w_cons (Or.inl (y_m rfl)) ?_ | refine w_cons (Or.inr (by assumption)) ?_)) (by repeat (first | exact w_nil | refine w_cons (Or.inl (y_m rfl)) ?_ | refine w_cons (Or.inr (by assumption)) ?_))
  refine y_termOf (sd := 0) (y_sd_fr s e rfl) h1 (by decide) (by decide) (fun y H2 f2 lo2 => ⟨fun n e => (by cases e), ?_⟩)
  exact T7 (y_sq e f2 rfl rfl) lo2
theorem y_tog_loop {r : Nat} {ac kd be fi : List Int32} {nu : List Int64} {rI kI gI uI : Int32} {gv on ot : Int64} (h1 : rI.toInt = r) (hk4 : kI.toInt = ((4 * r : Nat) : Int)) (okf : y_ok1 (y_tx sg r) 40 (y_N be (4 * r)) (y_N fi (4 * r))) (oks : y_ok1 (y_tx sg r) 40 (y_N be (4 * r + 2)) (y_N fi (4 * r + 2))) (okg : 0 ≤ gI.toInt → y_ok1 (y_tx sg r) 40 gI.toInt uI.toInt) : ∀ (t : Nat) (h : aH) (sum : Int64) (wI : Int32) (k : Nat) (o14 : Option Value), y_sd h nd sg wl r ac kd nu be fi → wI.toInt = k → k + t = y_ways nd →
    (∀ (x : Int32) (H : aH), y_fr h H [19616, 19617, 19618] [] → K0 (some (.int x)) H C S) →
    aOK s_P X (d + 168) a_m235 117 [some (.ref 155), some (.int rI), some (.int kI), some (.int gI), some (.int uI), some (.long gv), none, some (.long on), none, some (.long ot), none, some (.long sum), none, some (.int wI), o14] [] h C S K0 := by
  intro t
  induction t with
  | zero =>
    intro h sum wI k o14 s hk hkt hK
    have sc := s.1
    obtain ⟨b1, b2⟩ := y_ndb sc.1 sc.2.1
    obtain ⟨ea, l1, l2⟩ := y_all b1 b2
    have e0 : y_fr h h [19616, 19617, 19618] [] := y_mo (y_rf sc.1) rfl rfl
    have T244 : ∀ {G : aH} {b : Bool}, y_fr h G [19616, 19617, 19618] [] → aOK s_P X (d + 168) a_m235 244 [some (.ref 155), some (.int rI), some (.int kI), some (.int gI), some (.int uI), some (.long gv), none, some (.long on), none, some (.long ot), none, some (.long sum), none, some (.int wI), o14] [.int (y_01 b)] G C S K0 := by
      intro G b e
      refine w_go z_hl [] [] 40 e.1 ?_
      exact ⟨fun _ => fun H hH => hK _ H (y_st e hH (by repeat (first | exact w_nil | refine w_cons (Or.inl (y_m rfl)) ?_ | refine w_cons (Or.inr (by assumption)) ?_)) (by repeat (first | exact w_nil | refine w_cons (Or.inl (y_m rfl)) ?_ | refine w_cons (Or.inr (by assumption)) ?_))), fun _ => fun H hH => hK _ H (y_st e hH (by repeat (first | exact w_nil | refine w_cons (Or.inl (y_m rfl)) ?_ | refine w_cons (Or.inr (by assumption)) ?_)) (by repeat (first | exact w_nil | refine w_cons (Or.inl (y_m rfl)) ?_ | refine w_cons (Or.inr (by assumption)) ?_)))⟩
    refine w_go z_hl [117, 244] [] 60 sc.1 ?_
    intro x hx _ _
    obtain rfl := y_fi sc.2.1 hx
    refine ⟨fun _ => ⟨fun _ => fun H hH => T244 (b := false) (y_st e0 hH (by repeat (first | exact w_nil | refine w_cons (Or.inl (y_m rfl)) ?_ | refine w_cons (Or.inr (by assumption)) ?_)) (by repeat (first | exact w_nil | refine w_cons (Or.inl (y_m rfl)) ?_ | refine w_cons (Or.inr (by assumption)) ?_))), fun _ => fun H hH => T244 (b := true) (y_st e0 hH (by repeat (first | exact w_nil | refine w_cons (Or.inl (y_m rfl)) ?_ | refine w_cons (Or.inr (by assumption)) ?_)) (by repeat (first | exact w_nil | refine w_cons (Or.inl (y_m rfl)) ?_ | refine w_cons (Or.inr (by assumption)) ?_)))⟩, fun q => ?_⟩
    have : ¬ ((Int32.ofInt 1 <<< (nd &&& 31) - Int32.ofInt 1).toInt < wI.toInt) := y_cif q
    omega
  | succ t ih =>
    intro h sum wI k o14 s hk hkt hK
    have sc := s.1
    obtain ⟨-, a1, a2, a3, a4, a5, -, r11⟩ := id s
    obtain ⟨b1, b2⟩ := y_ndb sc.1 sc.2.1
    obtain ⟨ea, l1, l2⟩ := y_all b1 b2
    have ink : (wI + Int32.ofInt 1).toInt = ((k + 1 : Nat) : Int) := by rw [y_inc (by omega), hk]; rfl
    have k2 : (kI + Int32.ofInt 2).toInt = ((4 * r + 2 : Nat) : Int) := y_addS _ hk4 (n := 2) (by decide) rfl (by omega)
    have ck := y_cl1 hk4
    have ck2 := y_cl1 k2
    have bk : 0 ≤ kI.toInt ∧ kI.toInt < ((52 : Nat) : Int) := by omega
    have bk2 : 0 ≤ (kI + Int32.ofInt 2).toInt ∧ (kI + Int32.ofInt 2).toInt < ((52 : Nat) : Int) := by omega
    have next : ∀ {G : aH} {x : Int64} {o14 : Option Value}, y_fr h G [19616, 19617, 19618] [] → aOK s_P X (d + 168) a_m235 117 [some (.ref 155), some (.int rI), some (.int kI), some (.int gI), some (.int uI), some (.long gv), none, some (.long on), none, some (.long ot), none, some (.long (sum + x)), none, some (.int (wI + Int32.ofInt 1)), o14] [] G C S K0 := by
      intro G x o14 e
      exact ih G _ _ (k + 1) _ (y_sd_fr s e rfl) ink (by omega) (fun y H f => hK y H (y_sq e f rfl rfl))
    have T196 : ∀ {G : aH} {b : Bool}, y_fr h G [19616, 19617, 19618] [] → aOK s_P X (d + 168) a_m235 196 [some (.ref 155), some (.int rI), some (.int kI), some (.int gI), some (.int uI), some (.long gv), none, some (.long on), none, some (.long ot), none, some (.long sum), none, some (.int wI), o14] [.int (y_01 b)] G C S K0 := by
      intro G b e
      refine w_go z_hl [117] [] 40 e.1 ?_
      refine ⟨fun _ => fun H hH => next (y_st e hH (by repeat (first | exact w_nil | refine w_cons (Or.inl (y_m rfl)) ?_ | refine w_cons (Or.inr (by assumption)) ?_)) (by repeat (first | exact w_nil | refine w_cons (Or.inl (y_m rfl)) ?_ | refine w_cons (Or.inr (by assumption)) ?_))), fun _ => ⟨⟨by omega, by omega⟩, fun l hl len bb => fun H hH => next (y_st e hH (by repeat (first | exact w_nil | refine w_cons (Or.inl (y_m rfl)) ?_ | refine w_cons (Or.inr (by assumption)) ?_)) (by repeat (first | exact w_nil | refine w_cons (Or.inl (y_m rfl)) ?_ | refine w_cons (Or.inr (by assumption)) ?_)))⟩⟩
    have T188 : ∀ {G : aH} {b : Bool}, y_fr h G [19616, 19617, 19618] [] → aOK s_P X (d + 168) a_m235 188 [some (.ref 155), some (.int rI), some (.int kI), some (.int gI), some (.int uI), some (.long gv), none, some (.long on), none, some (.long ot), none, some (.long sum), none, some (.int wI), o14] [.int (y_01 b)] G C S K0 := by
      intro G b e
      refine w_go z_hl [196] [] 40 e.1 ?_
      exact ⟨fun _ => fun H hH => T196 (b := false) (y_st e hH (by repeat (first | exact w_nil | refine w_cons (Or.inl (y_m rfl)) ?_ | refine w_cons (Or.inr (by assumption)) ?_)) (by repeat (first | exact w_nil | refine w_cons (Or.inl (y_m rfl)) ?_ | refine w_cons (Or.inr (by assumption)) ?_))), fun _ => fun H hH => T196 (b := true) (y_st e hH (by repeat (first | exact w_nil | refine w_cons (Or.inl (y_m rfl)) ?_ | refine w_cons (Or.inr (by assumption)) ?_)) (by repeat (first | exact w_nil | refine w_cons (Or.inl (y_m rfl)) ?_ | refine w_cons (Or.inr (by assumption)) ?_)))⟩
    have T171 : ∀ {G : aH} {b : Bool}, y_fr h G [19616, 19617, 19618] [] → aOK s_P X (d + 168) a_m235 171 [some (.ref 155), some (.int rI), some (.int kI), some (.int gI), some (.int uI), some (.long gv), none, some (.long on), none, some (.long ot), none, some (.long sum), none, some (.int wI), o14] [.int (y_01 b)] G C S K0 := by
      intro G b e
      refine w_go z_hl [196] [237] 40 e.1 ?_
      refine ⟨fun _ => fun H hH => T196 (b := false) (y_st e hH (by repeat (first | exact w_nil | refine w_cons (Or.inl (y_m rfl)) ?_ | refine w_cons (Or.inr (by assumption)) ?_)) (by repeat (first | exact w_nil | refine w_cons (Or.inl (y_m rfl)) ?_ | refine w_cons (Or.inr (by assumption)) ?_))), fun _ => ⟨fun _ => fun H hH => T196 (b := true) (y_st e hH (by repeat (first | exact w_nil | refine w_cons (Or.inl (y_m rfl)) ?_ | refine w_cons (Or.inr (by assumption)) ?_)) (by repeat (first | exact w_nil | refine w_cons (Or.inl (y_m rfl)) ?_ | refine w_cons (Or.inr (by assumption)) ?_))), fun q => fun H hH => ?_⟩⟩
      have q2 : ¬ (gI.toInt < (0 : Int32).toInt) := y_cif q
      rw [show (0 : Int32).toInt = 0 by decide] at q2
      have e2 := y_st e hH (by repeat (first | exact w_nil | refine w_cons (Or.inl (y_m rfl)) ?_ | refine w_cons (Or.inr (by assumption)) ?_)) (by repeat (first | exact w_nil | refine w_cons (Or.inl (y_m rfl)) ?_ | refine w_cons (Or.inr (by assumption)) ?_))
      refine aOK_deep (d := d + 166) (by omega) (y_isOf1 (y_sc_fr sc e2 rfl rfl rfl) h1 r11 (okg (by omega)) (fun b' H2 f2 => ⟨fun n e => (by cases e), ?_⟩))
      exact T188 (y_sq e2 f2 rfl rfl)
    have T145 : ∀ {G : aH} {b : Bool}, y_fr h G [19616, 19617, 19618] [] → aOK s_P X (d + 168) a_m235 145 [some (.ref 155), some (.int rI), some (.int kI), some (.int gI), some (.int uI), some (.long gv), none, some (.long on), none, some (.long ot), none, some (.long sum), none, some (.int wI), o14] [.int (y_01 b)] G C S K0 := by
      intro G b e
      refine w_go z_hl [196] [237] 40 e.1 ?_
      refine ⟨fun _ => fun H hH => T196 (b := false) (y_st e hH (by repeat (first | exact w_nil | refine w_cons (Or.inl (y_m rfl)) ?_ | refine w_cons (Or.inr (by assumption)) ?_)) (by repeat (first | exact w_nil | refine w_cons (Or.inl (y_m rfl)) ?_ | refine w_cons (Or.inr (by assumption)) ?_))), fun _ => ⟨bk2, fun l hl len bb => ?_⟩⟩
      obtain rfl := y_ai ((y_ae e rfl).trans a4) hl
      refine ⟨bk2, fun l2 hl2 len2 bb2 => fun H hH => ?_⟩
      obtain rfl := y_ai ((y_ae e rfl).trans a5) hl2
      have e2 := y_st e hH (by repeat (first | exact w_nil | refine w_cons (Or.inl (y_m rfl)) ?_ | refine w_cons (Or.inr (by assumption)) ?_)) (by repeat (first | exact w_nil | refine w_cons (Or.inl (y_m rfl)) ?_ | refine w_cons (Or.inr (by assumption)) ?_))
      refine aOK_deep (d := d + 166) (by omega) (y_isOf1 (fI := be.getD (kI + Int32.ofInt 2).toNatClampNeg 0) (tI := fi.getD (kI + Int32.ofInt 2).toNatClampNeg 0) (y_sc_fr sc e2 rfl rfl rfl) h1 r11 (by rw [ck2]; exact oks) (fun b' H2 f2 => ⟨fun n e => (by cases e), ?_⟩))
      exact T171 (y_sq e2 f2 rfl rfl)
    have e0 : y_fr h h [19616, 19617, 19618] [] := y_mo (y_rf sc.1) rfl rfl
    refine w_go z_hl [117] [237] 60 sc.1 ?_
    intro x hx _ _
    obtain rfl := y_fi sc.2.1 hx
    refine ⟨fun q => ?_, fun _ => ?_⟩
    · have : (Int32.ofInt 1 <<< (nd &&& 31) - Int32.ofInt 1).toInt < wI.toInt := (y_ci .gt _ _).mp q
      omega
    · refine ⟨bk, fun l hl len bb => ?_⟩
      obtain rfl := y_ai a4 hl
      refine ⟨bk, fun l2 hl2 len2 bb2 => fun H hH => ?_⟩
      obtain rfl := y_ai a5 hl2
      have e2 := y_st e0 hH (by repeat (first | exact w_nil | refine w_cons (Or.inl (y_m rfl)) ?_ | refine w_cons (Or.inr (by assumption)) ?_)) (by repeat (first | exact w_nil | refine w_cons (Or.inl (y_m rfl)) ?_ | refine w_cons (Or.inr (by assumption)) ?_))
      refine aOK_deep (d := d + 166) (by omega) (y_isOf1 (fI := be.getD kI.toNatClampNeg 0) (tI := fi.getD kI.toNatClampNeg 0) (y_sc_fr sc e2 rfl rfl rfl) h1 r11 (by rw [ck]; exact okf) (fun b' H2 f2 => ⟨fun n e => (by cases e), ?_⟩))
      exact T145 (y_sq e2 f2 rfl rfl)
theorem y_tog {h : aH} {r : Nat} {ac kd be fi : List Int32} {nu : List Int64} (s : y_sd h nd sg wl r ac kd nu be fi) {rI : Int32} (h1 : rI.toInt = r) (k0 : y_N kd (2 * r) ≠ 0) (k1 : y_N kd (2 * r + 1) ≠ 0) (hK : ∀ (x : Int32) (H : aH), y_fr h H [19616, 19617, 19618] [] → K0 (some (.int x)) H C S) : aOK s_P X (d + 168) a_m235 0 [some (.ref 155), some (.int rI), none, none, none, none, none, none, none, none, none, none, none, none, none] [] h C S K0 := by
  obtain ⟨sc, a1, a2, a3, a4, a5, ⟨⟨-, t0, -⟩, ⟨-, t1, t2⟩, -⟩, r11⟩ := id s
  have hr := sc.1
  have okf : y_ok1 (y_tx sg r) 40 (y_N be (4 * r)) (y_N fi (4 * r)) := by
    have := t0 k0
    rw [show 2 * (2 * r) = 4 * r by omega] at this
    exact this
  have oks : y_ok1 (y_tx sg r) 40 (y_N be (4 * r + 2)) (y_N fi (4 * r + 2)) := by
    have := t1 k1
    rw [show 2 * (2 * r + 1) = 4 * r + 2 by omega] at this
    exact this
  have hk4 : (Int32.ofInt 4 * rI).toInt = ((4 * r : Nat) : Int) := y_mulS (m := 4) _ (by decide) h1 rfl (by omega)
  generalize hkI : Int32.ofInt 4 * rI = kI at hk4
  have k2 : (kI + Int32.ofInt 2).toInt = ((4 * r + 2 : Nat) : Int) := y_addS _ hk4 (n := 2) (by decide) rfl (by omega)
  have k3 : (kI + Int32.ofInt 3).toInt = ((4 * r + 3 : Nat) : Int) := y_addS _ hk4 (n := 3) (by decide) rfl (by omega)
  have r21 : (Int32.ofInt 2 * rI + Int32.ofInt 1).toInt = ((2 * r + 1 : Nat) : Int) := y_2k h1 (s := 1) (by decide) (by omega) (by decide)
  have ck := y_cl1 hk4
  have ck2 := y_cl1 k2
  have ck3 := y_cl1 k3
  have cr := y_cl1 r21
  have bk : 0 ≤ kI.toInt ∧ kI.toInt < ((52 : Nat) : Int) := by omega
  have bk2 : 0 ≤ (kI + Int32.ofInt 2).toInt ∧ (kI + Int32.ofInt 2).toInt < ((52 : Nat) : Int) := by omega
  have bk3 : 0 ≤ (kI + Int32.ofInt 3).toInt ∧ (kI + Int32.ofInt 3).toInt < ((52 : Nat) : Int) := by omega
  have br : 0 ≤ (Int32.ofInt 2 * rI + Int32.ofInt 1).toInt ∧ (Int32.ofInt 2 * rI + Int32.ofInt 1).toInt < ((26 : Nat) : Int) := by omega
  have T109 : ∀ {G : aH} {gI uI : Int32} {gv on ot : Int64}, y_fr h G [19616, 19617, 19618] [] → (0 ≤ gI.toInt → y_ok1 (y_tx sg r) 40 gI.toInt uI.toInt) → aOK s_P X (d + 168) a_m235 109 [some (.ref 155), some (.int rI), some (.int kI), some (.int gI), some (.int uI), some (.long gv), none, some (.long on), none, none, none, none, none, none, none] [.long ot] G C S K0 := by
    intro G gI uI gv on ot e okg
    refine w_go z_hl [117] [] 40 e.1 ?_
    intro H hH
    have e2 := y_st e hH (by repeat (first | exact w_nil | refine w_cons (Or.inl (y_m rfl)) ?_ | refine w_cons (Or.inr (by assumption)) ?_)) (by repeat (first | exact w_nil | refine w_cons (Or.inl (y_m rfl)) ?_ | refine w_cons (Or.inr (by assumption)) ?_))
    exact y_tog_loop h1 hk4 okf oks okg (y_ways nd) H _ _ 0 _ (y_sd_fr s e2 rfl) rfl (by omega) (fun y H f => hK y H (y_sq e2 f rfl rfl))
  have T83 : ∀ {G : aH} {gI uI : Int32} {gv on : Int64}, y_fr h G [19616, 19617, 19618] [] → (0 ≤ gI.toInt → y_ok1 (y_tx sg r) 40 gI.toInt uI.toInt) → aOK s_P X (d + 168) a_m235 83 [some (.ref 155), some (.int rI), some (.int kI), some (.int gI), some (.int uI), some (.long gv), none, none, none, none, none, none, none, none, none] [.long on] G C S K0 := by
    intro G gI uI gv on e okg
    refine w_go z_hl [] [236] 40 e.1 ?_
    refine ⟨bk2, fun l hl len bb => ?_⟩
    obtain rfl := y_ai ((y_ae e rfl).trans a4) hl
    refine ⟨bk2, fun l2 hl2 len2 bb2 => fun H hH => ?_⟩
    obtain rfl := y_ai ((y_ae e rfl).trans a5) hl2
    have e2 := y_st e hH (by repeat (first | exact w_nil | refine w_cons (Or.inl (y_m rfl)) ?_ | refine w_cons (Or.inr (by assumption)) ?_)) (by repeat (first | exact w_nil | refine w_cons (Or.inl (y_m rfl)) ?_ | refine w_cons (Or.inr (by assumption)) ?_))
    refine y_wob (fI := be.getD (kI + Int32.ofInt 2).toNatClampNeg 0) (tI := fi.getD (kI + Int32.ofInt 2).toNatClampNeg 0) (y_sc_fr sc e2 rfl rfl rfl) h1 r11 (fun _ => by rw [ck2]; exact oks) okg (fun x H2 f2 x0 x8 => ⟨fun n e => (by cases e), ?_⟩)
    exact T109 (y_sq e2 f2 rfl rfl) okg
  have T51 : ∀ {G : aH} {gI uI : Int32} {gv : Int64}, y_fr h G [19616, 19617, 19618] [] → (0 ≤ gI.toInt → y_ok1 (y_tx sg r) 40 gI.toInt uI.toInt) → aOK s_P X (d + 168) a_m235 51 [some (.ref 155), some (.int rI), some (.int kI), some (.int gI), some (.int uI), none, none, none, none, none, none, none, none, none, none] [.long gv] G C S K0 := by
    intro G gI uI gv e okg
    refine w_go z_hl [] [236] 40 e.1 ?_
    refine ⟨fun _ => ⟨bk, fun l hl len bb => ?_⟩, fun _ => fun H hH => hK _ H (y_st e hH (by repeat (first | exact w_nil | refine w_cons (Or.inl (y_m rfl)) ?_ | refine w_cons (Or.inr (by assumption)) ?_)) (by repeat (first | exact w_nil | refine w_cons (Or.inl (y_m rfl)) ?_ | refine w_cons (Or.inr (by assumption)) ?_)))⟩
    obtain rfl := y_ai ((y_ae e rfl).trans a4) hl
    refine ⟨bk, fun l2 hl2 len2 bb2 => fun H hH => ?_⟩
    obtain rfl := y_ai ((y_ae e rfl).trans a5) hl2
    have e2 := y_st e hH (by repeat (first | exact w_nil | refine w_cons (Or.inl (y_m rfl)) ?_ | refine w_cons (Or.inr (by assumption)) ?_)) (by repeat (first | exact w_nil | refine w_cons (Or.inl (y_m rfl)) ?_ | refine w_cons (Or.inr (by assumption)) ?_))
    refine y_wob (fI := be.getD kI.toNatClampNeg 0) (tI := fi.getD kI.toNatClampNeg 0) (y_sc_fr sc e2 rfl rfl rfl) h1 r11 (fun _ => by rw [ck]; exact okf) okg (fun x H2 f2 x0 x8 => ⟨fun n e => (by cases e), ?_⟩)
    exact T83 (y_sq e2 f2 rfl rfl) okg
  have T30 : ∀ {G : aH} {gI : Int32}, y_fr h G [19616, 19617, 19618] [] → (0 ≤ gI.toInt → y_ok1 (y_tx sg r) 40 gI.toInt (y_N fi (4 * r + 3))) → aOK s_P X (d + 168) a_m235 30 [some (.ref 155), some (.int rI), some (.int kI), none, none, none, none, none, none, none, none, none, none, none, none] [.int gI] G C S K0 := by
    intro G gI e okg
    refine w_go z_hl [] [236] 40 e.1 ?_
    refine ⟨bk3, fun l hl len bb => fun H hH => ?_⟩
    obtain rfl := y_ai ((y_ae e rfl).trans a5) hl
    have okg' : 0 ≤ gI.toInt → y_ok1 (y_tx sg r) 40 gI.toInt (fi.getD (kI + Int32.ofInt 3).toNatClampNeg 0).toInt := by
      rw [ck3]
      exact okg
    have e2 := y_st e hH (by repeat (first | exact w_nil | refine w_cons (Or.inl (y_m rfl)) ?_ | refine w_cons (Or.inr (by assumption)) ?_)) (by repeat (first | exact w_nil | refine w_cons (Or.inl (y_m rfl)) ?_ | refine w_cons (Or.inr (by assumption)) ?_))
    refine y_wob (y_sc_fr sc e2 rfl rfl rfl) h1 r11 (fun q => absurd q (by decide)) okg' (fun x H2 f2 x0 x8 => ⟨fun n e => (by cases e), ?_⟩)
    exact T51 (y_sq e2 f2 rfl rfl) okg'
  have T4 : ∀ {G : aH}, y_fr h G [19616, 19617, 19618] [] → aOK s_P X (d + 168) a_m235 4 [some (.ref 155), some (.int rI), some (.int kI), none, none, none, none, none, none, none, none, none, none, none, none] [] G C S K0 := by
    intro G e
    refine w_go z_hl [30] [] 40 e.1 ?_
    refine ⟨br, fun l hl len bb => ?_⟩
    obtain rfl := y_ai ((y_ae e rfl).trans a2) hl
    refine ⟨fun _ => fun H hH => T30 (y_st e hH (by repeat (first | exact w_nil | refine w_cons (Or.inl (y_m rfl)) ?_ | refine w_cons (Or.inr (by assumption)) ?_)) (by repeat (first | exact w_nil | refine w_cons (Or.inl (y_m rfl)) ?_ | refine w_cons (Or.inr (by assumption)) ?_))) (fun q => absurd q (by decide)), fun q => ⟨bk3, fun l2 hl2 len2 bb2 => fun H hH => ?_⟩⟩
    obtain rfl := y_ai ((y_ae e rfl).trans a4) hl2
    have q2 : ¬ ((kd.getD (Int32.ofInt 2 * rI + Int32.ofInt 1).toNatClampNeg 0).toInt ≠ (Int32.ofInt 2).toInt) := y_cif q
    rw [cr, show (Int32.ofInt 2).toInt = 2 by decide] at q2
    have o := t2 (Decidable.not_not.mp q2)
    rw [show 2 * (2 * r + 1) + 1 = 4 * r + 3 by omega] at o
    exact T30 (y_st e hH (by repeat (first | exact w_nil | refine w_cons (Or.inl (y_m rfl)) ?_ | refine w_cons (Or.inr (by assumption)) ?_)) (by repeat (first | exact w_nil | refine w_cons (Or.inl (y_m rfl)) ?_ | refine w_cons (Or.inr (by assumption)) ?_))) (fun _ => by rw [ck3]; exact o)
  refine w_go z_hl [4] [] 40 hr ?_
  intro H hH
  have := T4 (y_st (y_mo (y_rf hr) rfl rfl) hH (by repeat (first | exact w_nil | refine w_cons (Or.inl (y_m rfl)) ?_ | refine w_cons (Or.inr (by assumption)) ?_)) (by repeat (first | exact w_nil | refine w_cons (Or.inl (y_m rfl)) ?_ | refine w_cons (Or.inr (by assumption)) ?_)))
  rw [← hkI] at this
  exact this
end WG
end PT29l
section PT29m
/-! ===== v3: the reference's so, term, slip, which ===== -/
section WG
variable {X : aX} {C S d : Nat} {K0 : Option Value → aH → Nat → Nat → Prop}
theorem y_isSaying {h : aH} (hr : w_hr z_D h) {v sy : Int32} (hn : w_f h 19603 = some (.int sy)) (yes : ∀ H (vv : Nat), y_fr h H [] [] → v.toInt = vv → (vv : Int) < sy.toInt → K0 (some (.int (y_01 true))) H C S) (no : ∀ H, y_fr h H [] [] → K0 (some (.int (y_01 false))) H C S) : aOK s_P X (d + 1) a_m234 0 [some (.ref 155), some (.int v)] [] h C S K0 := by
  obtain ⟨b1, b2⟩ := y_syb hr hn
  have T13 : ∀ {G : aH} {b : Bool}, y_fr h G [] [] → (b = true → 0 ≤ v.toInt ∧ v.toInt < sy.toInt) → aOK s_P X (d + 1) a_m234 13 [some (.ref 155), some (.int v)] [.int (y_01 b)] G C S K0 := by
    intro G b e hb
    refine w_go z_hl [] [] 30 e.1 ?_
    refine ⟨y_01b b, fun H hH => ?_⟩
    cases b with
    | true =>
      have := hb rfl
      exact yes H v.toInt.toNat (y_st e hH (by repeat (first | exact w_nil | refine w_cons (Or.inl (y_m rfl)) ?_ | refine w_cons (Or.inr (by assumption)) ?_)) (by repeat (first | exact w_nil | refine w_cons (Or.inl (y_m rfl)) ?_ | refine w_cons (Or.inr (by assumption)) ?_))) (by omega) (by omega)
    | false => exact no H (y_st e hH (by repeat (first | exact w_nil | refine w_cons (Or.inl (y_m rfl)) ?_ | refine w_cons (Or.inr (by assumption)) ?_)) (by repeat (first | exact w_nil | refine w_cons (Or.inl (y_m rfl)) ?_ | refine w_cons (Or.inr (by assumption)) ?_)))
  refine w_go z_hl [] [176] 30 hr ?_
  intro x hx _ _
  obtain rfl := y_fi hn hx
  intro H hH
  have e : y_fr h H [] [] := y_st (y_rf hr) hH (by repeat (first | exact w_nil | refine w_cons (Or.inl (y_m rfl)) ?_ | refine w_cons (Or.inr (by assumption)) ?_)) (by repeat (first | exact w_nil | refine w_cons (Or.inl (y_m rfl)) ?_ | refine w_cons (Or.inr (by assumption)) ?_))
  refine q_in (v := v.toInt64) (lo := Int64.ofNat 0) (hi := (sy - Int32.ofInt 1).toInt64) e.1 (fun H2 e2 l1 l2 => ⟨fun n e => (by cases e), ?_⟩) (fun H2 e2 _ => ⟨fun n e => (by cases e), ?_⟩)
  · rw [y_i2l] at l1
    rw [y_i2l, y_i2l, y_sub1 b1] at l2
    have l1 : 0 ≤ v.toInt := l1
    exact T13 (b := true) (y_sq e e2 rfl rfl) (fun _ => ⟨l1, by omega⟩)
  · exact T13 (b := false) (y_sq e e2 rfl rfl) (fun q => by cases q)
theorem p_so {h : aH} (hr : w_hr z_D h) (hJ : y_J h) (hS : j_say h) {a : Int32} (hk : ∀ (r : Int32) (H : aH), y_fr h H [19584, 19587, 19588, 19589, 19616, 19617, 19618] [155, 163] → y_J H → j_say H → K0 (some (.int r)) H C S) : aOK s_P X (d + 172) a_m233 0 [some (.ref 155), some (.int a)] [] h C S K0 := by
  obtain ⟨sy, acl, kdl, nul, bel, fil, sgl, y1, y2, y3, y4, y5, y6, y7, y8⟩ := id hS
  obtain ⟨nd, sm, so, sa, s1, s2, s3, s4, s5⟩ := id hJ.2.2.2.2.1
  obtain ⟨y0, y12⟩ := y_syb hr y1
  have out : ∀ {G0 G : aH} {r : Int32}, y_fr h G0 [19584] [163] → y_J G0 → y_fr G0 G [19587, 19588, 19589, 19616, 19617, 19618] [155] → K0 (some (.int r)) G C S := by
    intro G0 G r e0 J0 e
    have e2 : y_fr h G [19584, 19587, 19588, 19589, 19616, 19617, 19618] [155, 163] := y_sq (y_mo e0 rfl rfl) e rfl rfl
    exact hk r G e2 (y_J_fr e rfl rfl J0) (j_say_e e2 rfl rfl hS)
  have out0 : ∀ {G : aH} {r : Int32}, y_fr h G [19584] [] → K0 (some (.int r)) G C S := by
    intro G r e
    exact hk r G (y_mo e rfl rfl) (y_J_fr e rfl rfl hJ) (j_say_e e rfl rfl hS)
  have sd : ∀ {G0 G : aH} {wl : List Int64} {s : Nat} {fs : List Nat}, y_fr h G0 [19584] [163] → y_wl G0 wl → y_fr G0 G fs [] → fs.elem 19591 = false → (s : Int) < sy.toInt → y_sd G nd sgl wl s acl kdl nul bel fil := by
    intro G0 G wl s fs e0 hw e hfs hs
    have s0 : y_sd G0 nd sgl wl s acl kdl nul bel fil := ⟨⟨e0.1, (y_fe e0 rfl).trans s1, (y_ae e0 rfl).trans y7, hw⟩, (y_ae e0 rfl).trans y2, (y_ae e0 rfl).trans y3, (y_ae e0 rfl).trans y4, (y_ae e0 rfl).trans y5, (y_ae e0 rfl).trans y6, y8 s hs, by omega⟩
    exact y_sd_fr s0 e hfs
  have T44 : ∀ {G0 G : aH} {x : Int32}, y_fr h G0 [19584] [163] → y_J G0 → y_fr G0 G [19587, 19588, 19589, 19616, 19617, 19618] [155] → aOK s_P X (d + 172) a_m233 44 [some (.ref 155), some (.int a)] [.int x] G C S K0 := by
    intro G0 G x e0 J0 e
    refine w_go z_hl [] [] 30 e.1 ?_
    intro H hH
    exact out e0 J0 (y_st e hH (by repeat (first | exact w_nil | refine w_cons (Or.inl (y_m rfl)) ?_ | refine w_cons (Or.inr (by assumption)) ?_)) (by repeat (first | exact w_nil | refine w_cons (Or.inl (y_m rfl)) ?_ | refine w_cons (Or.inr (by assumption)) ?_)))
  have T35 : ∀ {G0 G : aH} {x : Int32}, y_fr h G0 [19584] [163] → y_J G0 → y_fr G0 G [19587, 19588, 19589, 19616, 19617, 19618] [155] → aOK s_P X (d + 172) a_m233 35 [some (.ref 155), some (.int a)] [.int x] G C S K0 := by
    intro G0 G x e0 J0 e
    refine w_go z_hl [] [] 30 e.1 ?_
    intro H hH
    exact out e0 J0 (y_st e hH (by repeat (first | exact w_nil | refine w_cons (Or.inl (y_m rfl)) ?_ | refine w_cons (Or.inr (by assumption)) ?_)) (by repeat (first | exact w_nil | refine w_cons (Or.inl (y_m rfl)) ?_ | refine w_cons (Or.inr (by assumption)) ?_)))
  have T19 : ∀ {G0 : aH} {wl : List Int64} {s : Nat}, y_fr h G0 [19584] [163] → y_J G0 → y_wl G0 wl → a.toInt = s → (s : Int) < sy.toInt → aOK s_P X (d + 172) a_m233 19 [some (.ref 155), some (.int a)] [] G0 C S K0 := by
    intro G0 wl s e0 J0 hw ha hs
    refine w_go z_hl [] [235, 241] 40 e0.1 ?_
    refine ⟨⟨by omega, by omega⟩, fun l hl len bb => ?_⟩
    obtain rfl := y_ai ((y_ae e0 rfl).trans y2) hl
    refine ⟨fun q => fun H hH => ?_, fun q => fun H hH => ?_⟩
    · have f : y_fr G0 H [] [] := y_st (y_rf e0.1) hH (by repeat (first | exact w_nil | refine w_cons (Or.inl (y_m rfl)) ?_ | refine w_cons (Or.inr (by assumption)) ?_)) (by repeat (first | exact w_nil | refine w_cons (Or.inl (y_m rfl)) ?_ | refine w_cons (Or.inr (by assumption)) ?_))
      refine aOK_deep (d := d + 170) (by omega) (y_soBy (sd e0 hw f rfl hs) ha (fun x H2 f2 => ⟨fun n e => (by cases e), ?_⟩))
      exact T44 e0 J0 (y_sq (y_mo f rfl rfl) f2 rfl rfl)
    · have q2 : ¬ ((acl.getD a.toNatClampNeg 0).toInt ≠ ((Int8.ofInt 126).toInt32).toInt) := y_cif q
      rw [y_cl1 ha, show ((Int8.ofInt 126).toInt32).toInt = 126 by decide] at q2
      have kk := (y8 s hs).2.2 (Decidable.not_not.mp q2)
      have f : y_fr G0 H [] [] := y_st (y_rf e0.1) hH (by repeat (first | exact w_nil | refine w_cons (Or.inl (y_m rfl)) ?_ | refine w_cons (Or.inr (by assumption)) ?_)) (by repeat (first | exact w_nil | refine w_cons (Or.inl (y_m rfl)) ?_ | refine w_cons (Or.inr (by assumption)) ?_))
      refine aOK_deep (d := d + 168) (by omega) (y_tog (sd e0 hw f rfl hs) ha kk.1 kk.2 (fun x H2 f2 => ⟨fun n e => (by cases e), ?_⟩))
      exact T35 e0 J0 (y_sq (y_mo f rfl rfl) f2 rfl rfl)
  have T10 : ∀ {G : aH} {s : Nat}, y_fr h G [19584] [] → a.toInt = s → (s : Int) < sy.toInt → aOK s_P X (d + 172) a_m233 10 [some (.ref 155), some (.int a)] [.int (y_01 true)] G C S K0 := by
    intro G s e ha hs
    refine w_go z_hl [] [188] 30 e.1 ?_
    refine ⟨fun _ => fun H hH => ?_, fun q => absurd q (by decide)⟩
    have e2 := y_st e hH (by repeat (first | exact w_nil | refine w_cons (Or.inl (y_m rfl)) ?_ | refine w_cons (Or.inr (by assumption)) ?_)) (by repeat (first | exact w_nil | refine w_cons (Or.inl (y_m rfl)) ?_ | refine w_cons (Or.inr (by assumption)) ?_))
    refine q_weighsUp e2.1 (y_J_fr e2 rfl rfl hJ) (fun wl H2 e3 J3 hw => ⟨fun n e => (by cases e), ?_⟩)
    exact T19 (y_sq (y_mo e2 rfl rfl) e3 rfl rfl) J3 hw ha hs
  have T10n : ∀ {G : aH}, y_fr h G [19584] [] → aOK s_P X (d + 172) a_m233 10 [some (.ref 155), some (.int a)] [.int (y_01 false)] G C S K0 := by
    intro G e
    refine w_go z_hl [] [] 30 e.1 ?_
    exact ⟨fun q => absurd q (by decide), fun _ => fun H hH => out0 (y_st e hH (by repeat (first | exact w_nil | refine w_cons (Or.inl (y_m rfl)) ?_ | refine w_cons (Or.inr (by assumption)) ?_)) (by repeat (first | exact w_nil | refine w_cons (Or.inl (y_m rfl)) ?_ | refine w_cons (Or.inr (by assumption)) ?_)))⟩
  refine w_go z_hl [] [234] 30 hr ?_
  refine ⟨rfl, y_zini (by decide) (by decide), fun H1 h1 => ?_⟩
  have e1 : y_fr h H1 [19584] [] := y_st (y_mo (y_rf hr) rfl rfl) h1 (by repeat (first | exact w_nil | refine w_cons (Or.inl (y_m rfl)) ?_ | refine w_cons (Or.inr (by assumption)) ?_)) (by repeat (first | exact w_nil | refine w_cons (Or.inl (y_m rfl)) ?_ | refine w_cons (Or.inr (by assumption)) ?_))
  refine y_isSaying e1.1 ((y_fe e1 rfl).trans y1) (fun H2 s h2 ha hs => ⟨fun n e => (by cases e), ?_⟩) (fun H2 h2 => ⟨fun n e => (by cases e), ?_⟩)
  · exact T10 (y_sq e1 h2 rfl rfl) ha hs
  · exact T10n (y_sq e1 h2 rfl rfl)
theorem p_slip {h : aH} (hr : w_hr z_D h) (hJ : y_J h) (hS : j_say h) {a b : Int32} (hk : ∀ (r : Int32) (H : aH), y_fr h H [19584, 19587, 19588, 19589, 19616, 19617, 19618] [155, 163] → y_J H → j_say H → K0 (some (.int r)) H C S) : aOK s_P X (d + 172) a_m247 0 [some (.ref 155), some (.int a), some (.int b)] [] h C S K0 := by
  obtain ⟨sy, acl, kdl, nul, bel, fil, sgl, y1, y2, y3, y4, y5, y6, y7, y8⟩ := id hS
  obtain ⟨nd, sm, so, sa, s1, s2, s3, s4, s5⟩ := id hJ.2.2.2.2.1
  obtain ⟨y0, y12⟩ := y_syb hr y1
  have out : ∀ {G0 G : aH} {r : Int32}, y_fr h G0 [19584] [163] → y_J G0 → y_fr G0 G [19587, 19588, 19589, 19616, 19617, 19618] [155] → K0 (some (.int r)) G C S := by
    intro G0 G r e0 J0 e
    have e2 : y_fr h G [19584, 19587, 19588, 19589, 19616, 19617, 19618] [155, 163] := y_sq (y_mo e0 rfl rfl) e rfl rfl
    exact hk r G e2 (y_J_fr e rfl rfl J0) (j_say_e e2 rfl rfl hS)
  have out0 : ∀ {G : aH} {r : Int32}, y_fr h G [19584] [] → K0 (some (.int r)) G C S := by
    intro G r e
    exact hk r G (y_mo e rfl rfl) (y_J_fr e rfl rfl hJ) (j_say_e e rfl rfl hS)
  have sd : ∀ {G0 G : aH} {wl : List Int64} {s : Nat} {fs : List Nat}, y_fr h G0 [19584] [163] → y_wl G0 wl → y_fr G0 G fs [] → fs.elem 19591 = false → (s : Int) < sy.toInt → y_sd G nd sgl wl s acl kdl nul bel fil := by
    intro G0 G wl s fs e0 hw e hfs hs
    have s0 : y_sd G0 nd sgl wl s acl kdl nul bel fil := ⟨⟨e0.1, (y_fe e0 rfl).trans s1, (y_ae e0 rfl).trans y7, hw⟩, (y_ae e0 rfl).trans y2, (y_ae e0 rfl).trans y3, (y_ae e0 rfl).trans y4, (y_ae e0 rfl).trans y5, (y_ae e0 rfl).trans y6, y8 s hs, by omega⟩
    exact y_sd_fr s0 e hfs
  have T48 : ∀ {G0 G : aH} {x : Int32}, y_fr h G0 [19584] [163] → y_J G0 → y_fr G0 G [19587, 19588, 19589, 19616, 19617, 19618] [155] → aOK s_P X (d + 172) a_m247 48 [some (.ref 155), some (.int a), some (.int b)] [.int x] G C S K0 := by
    intro G0 G x e0 J0 e
    refine w_go z_hl [] [] 30 e.1 ?_
    intro H hH
    exact out e0 J0 (y_st e hH (by repeat (first | exact w_nil | refine w_cons (Or.inl (y_m rfl)) ?_ | refine w_cons (Or.inr (by assumption)) ?_)) (by repeat (first | exact w_nil | refine w_cons (Or.inl (y_m rfl)) ?_ | refine w_cons (Or.inr (by assumption)) ?_)))
  have T42 : ∀ {G0 : aH} {wl : List Int64} {s : Nat}, y_fr h G0 [19584] [163] → y_J G0 → y_wl G0 wl → a.toInt = s → (s : Int) < sy.toInt → aOK s_P X (d + 172) a_m247 42 [some (.ref 155), some (.int a), some (.int b)] [] G0 C S K0 := by
    intro G0 wl s e0 J0 hw ha hs
    refine w_go z_hl [] [241] 40 e0.1 ?_
    intro H hH
    have f : y_fr G0 H [] [] := y_st (y_rf e0.1) hH (by repeat (first | exact w_nil | refine w_cons (Or.inl (y_m rfl)) ?_ | refine w_cons (Or.inr (by assumption)) ?_)) (by repeat (first | exact w_nil | refine w_cons (Or.inl (y_m rfl)) ?_ | refine w_cons (Or.inr (by assumption)) ?_))
    refine aOK_deep (d := d + 170) (by omega) (y_soBy (sd e0 hw f rfl hs) ha (fun x H2 f2 => ⟨fun n e => (by cases e), ?_⟩))
    exact T48 e0 J0 (y_sq (y_mo f rfl rfl) f2 rfl rfl)
  have T22 : ∀ {G : aH} {s : Nat}, y_fr h G [19584] [] → a.toInt = s → (s : Int) < sy.toInt → aOK s_P X (d + 172) a_m247 22 [some (.ref 155), some (.int a), some (.int b)] [.int (y_01 true)] G C S K0 := by
    intro G s e ha hs
    refine w_go z_hl [] [188] 30 e.1 ?_
    refine ⟨fun q => absurd q (by decide), fun _ => ⟨⟨by omega, by omega⟩, fun l hl len bb => ⟨fun _ => fun H hH => ?_, fun _ => fun H hH => out0 (y_st e hH (by repeat (first | exact w_nil | refine w_cons (Or.inl (y_m rfl)) ?_ | refine w_cons (Or.inr (by assumption)) ?_)) (by repeat (first | exact w_nil | refine w_cons (Or.inl (y_m rfl)) ?_ | refine w_cons (Or.inr (by assumption)) ?_)))⟩⟩⟩
    have e2 := y_st e hH (by repeat (first | exact w_nil | refine w_cons (Or.inl (y_m rfl)) ?_ | refine w_cons (Or.inr (by assumption)) ?_)) (by repeat (first | exact w_nil | refine w_cons (Or.inl (y_m rfl)) ?_ | refine w_cons (Or.inr (by assumption)) ?_))
    refine q_weighsUp e2.1 (y_J_fr e2 rfl rfl hJ) (fun wl H2 e3 J3 hw => ⟨fun n e => (by cases e), ?_⟩)
    exact T42 (y_sq (y_mo e2 rfl rfl) e3 rfl rfl) J3 hw ha hs
  have T22n : ∀ {G : aH}, y_fr h G [19584] [] → aOK s_P X (d + 172) a_m247 22 [some (.ref 155), some (.int a), some (.int b)] [.int (y_01 false)] G C S K0 := by
    intro G e
    refine w_go z_hl [] [] 30 e.1 ?_
    exact ⟨fun _ => fun H hH => out0 (y_st e hH (by repeat (first | exact w_nil | refine w_cons (Or.inl (y_m rfl)) ?_ | refine w_cons (Or.inr (by assumption)) ?_)) (by repeat (first | exact w_nil | refine w_cons (Or.inl (y_m rfl)) ?_ | refine w_cons (Or.inr (by assumption)) ?_))), fun q => absurd q (by decide)⟩
  have T10 : ∀ {G : aH} {s : Nat}, y_fr h G [19584] [] → a.toInt = s → (s : Int) < sy.toInt → aOK s_P X (d + 172) a_m247 10 [some (.ref 155), some (.int a), some (.int b)] [.int (y_01 true)] G C S K0 := by
    intro G s e ha hs
    refine w_go z_hl [] [176] 30 e.1 ?_
    refine ⟨fun q => absurd q (by decide), fun _ => fun H hH => ?_⟩
    have e2 := y_st e hH (by repeat (first | exact w_nil | refine w_cons (Or.inl (y_m rfl)) ?_ | refine w_cons (Or.inr (by assumption)) ?_)) (by repeat (first | exact w_nil | refine w_cons (Or.inl (y_m rfl)) ?_ | refine w_cons (Or.inr (by assumption)) ?_))
    refine q_in e2.1 (fun H3 h3 _ _ => ⟨fun n e => (by cases e), ?_⟩) (fun H3 h3 _ => ⟨fun n e => (by cases e), ?_⟩)
    · exact T22 (y_sq e2 h3 rfl rfl) ha hs
    · exact T22n (y_sq e2 h3 rfl rfl)
  have T10n : ∀ {G : aH}, y_fr h G [19584] [] → aOK s_P X (d + 172) a_m247 10 [some (.ref 155), some (.int a), some (.int b)] [.int (y_01 false)] G C S K0 := by
    intro G e
    refine w_go z_hl [] [] 30 e.1 ?_
    exact ⟨fun _ => fun H hH => out0 (y_st e hH (by repeat (first | exact w_nil | refine w_cons (Or.inl (y_m rfl)) ?_ | refine w_cons (Or.inr (by assumption)) ?_)) (by repeat (first | exact w_nil | refine w_cons (Or.inl (y_m rfl)) ?_ | refine w_cons (Or.inr (by assumption)) ?_))), fun q => absurd q (by decide)⟩
  refine w_go z_hl [] [234] 30 hr ?_
  refine ⟨rfl, y_zini (by decide) (by decide), fun H1 h1 => ?_⟩
  have e1 : y_fr h H1 [19584] [] := y_st (y_mo (y_rf hr) rfl rfl) h1 (by repeat (first | exact w_nil | refine w_cons (Or.inl (y_m rfl)) ?_ | refine w_cons (Or.inr (by assumption)) ?_)) (by repeat (first | exact w_nil | refine w_cons (Or.inl (y_m rfl)) ?_ | refine w_cons (Or.inr (by assumption)) ?_))
  refine y_isSaying e1.1 ((y_fe e1 rfl).trans y1) (fun H2 s h2 ha hs => ⟨fun n e => (by cases e), ?_⟩) (fun H2 h2 => ⟨fun n e => (by cases e), ?_⟩)
  · exact T10 (y_sq e1 h2 rfl rfl) ha hs
  · exact T10n (y_sq e1 h2 rfl rfl)
theorem p_term {h : aH} (hr : w_hr z_D h) (hJ : y_J h) (hS : j_say h) {a b : Int32} (hk : ∀ (r : Int32) (H : aH), y_fr h H [19584, 19585, 19587, 19588, 19589, 19616, 19617, 19618] [154, 163] → y_J H → j_say H → K0 (some (.int r)) H C S) : aOK s_P X (d + 172) a_m246 0 [some (.ref 155), some (.int a), some (.int b), none] [] h C S K0 := by
  obtain ⟨sy, acl, kdl, nul, bel, fil, sgl, y1, y2, y3, y4, y5, y6, y7, y8⟩ := id hS
  obtain ⟨nd, sm, so, sa, s1, s2, s3, s4, s5⟩ := id hJ.2.2.2.2.1
  obtain ⟨y0, y12⟩ := y_syb hr y1
  have out : ∀ {G0 G : aH} {r : Int32}, y_fr h G0 [19584] [163] → y_J G0 → y_fr G0 G [19585, 19587, 19588, 19589, 19616, 19617, 19618] [154] → K0 (some (.int r)) G C S := by
    intro G0 G r e0 J0 e
    have e2 : y_fr h G [19584, 19585, 19587, 19588, 19589, 19616, 19617, 19618] [154, 163] := y_sq (y_mo e0 rfl rfl) e rfl rfl
    exact hk r G e2 (y_J_fr e rfl rfl J0) (j_say_e e2 rfl rfl hS)
  have out0 : ∀ {G : aH} {r : Int32}, y_fr h G [19584] [] → K0 (some (.int r)) G C S := by
    intro G r e
    exact hk r G (y_mo e rfl rfl) (y_J_fr e rfl rfl hJ) (j_say_e e rfl rfl hS)
  have sd : ∀ {G0 G : aH} {wl : List Int64} {s : Nat} {fs : List Nat}, y_fr h G0 [19584] [163] → y_wl G0 wl → y_fr G0 G fs [] → fs.elem 19591 = false → (s : Int) < sy.toInt → y_sd G nd sgl wl s acl kdl nul bel fil := by
    intro G0 G wl s fs e0 hw e hfs hs
    have s0 : y_sd G0 nd sgl wl s acl kdl nul bel fil := ⟨⟨e0.1, (y_fe e0 rfl).trans s1, (y_ae e0 rfl).trans y7, hw⟩, (y_ae e0 rfl).trans y2, (y_ae e0 rfl).trans y3, (y_ae e0 rfl).trans y4, (y_ae e0 rfl).trans y5, (y_ae e0 rfl).trans y6, y8 s hs, by omega⟩
    exact y_sd_fr s0 e hfs
  have T63 : ∀ {G0 G : aH} {x : Int32}, y_fr h G0 [19584] [163] → y_J G0 → y_fr G0 G [19585, 19587, 19588, 19589, 19616, 19617, 19618] [154] → aOK s_P X (d + 172) a_m246 63 [some (.ref 155), some (.int a), some (.int b), some (.int x)] [] G C S K0 := by
    intro G0 G x e0 J0 e
    refine w_go z_hl [] [] 30 e.1 ?_
    intro H hH
    exact out e0 J0 (y_st e hH (by repeat (first | exact w_nil | refine w_cons (Or.inl (y_m rfl)) ?_ | refine w_cons (Or.inr (by assumption)) ?_)) (by repeat (first | exact w_nil | refine w_cons (Or.inl (y_m rfl)) ?_ | refine w_cons (Or.inr (by assumption)) ?_)))
  have T47 : ∀ {G0 G : aH} {x : Int32}, y_fr h G0 [19584] [163] → y_J G0 → y_fr G0 G [19585, 19587, 19588, 19589, 19616, 19617, 19618] [154] → aOK s_P X (d + 172) a_m246 47 [some (.ref 155), some (.int a), some (.int b), none] [.int x] G C S K0 := by
    intro G0 G x e0 J0 e
    refine w_go z_hl [] [196] 30 e.1 ?_
    refine ⟨fun _ => ⟨rfl, y_zini (by decide) (by decide), fun H hH => ?_⟩, fun _ => fun H hH => out e0 J0 (y_st e hH (by repeat (first | exact w_nil | refine w_cons (Or.inl (y_m rfl)) ?_ | refine w_cons (Or.inr (by assumption)) ?_)) (by repeat (first | exact w_nil | refine w_cons (Or.inl (y_m rfl)) ?_ | refine w_cons (Or.inr (by assumption)) ?_)))⟩
    have e2 := y_st e hH (by repeat (first | exact w_nil | refine w_cons (Or.inl (y_m rfl)) ?_ | refine w_cons (Or.inr (by assumption)) ?_)) (by repeat (first | exact w_nil | refine w_cons (Or.inl (y_m rfl)) ?_ | refine w_cons (Or.inr (by assumption)) ?_))
    refine y_tells e2.1 (hH.2.1 19585 _ rfl) (by decide) (by decide) (fun H2 r2 e3 _ _ => ⟨fun n e => (by cases e), ?_⟩)
    exact T63 e0 J0 (y_sq e2 e3 rfl rfl)
  have T40 : ∀ {G0 : aH} {wl : List Int64} {s v : Nat}, y_fr h G0 [19584] [163] → y_J G0 → y_wl G0 wl → a.toInt = s → (s : Int) < sy.toInt → b.toInt = v → v < 2 → aOK s_P X (d + 172) a_m246 40 [some (.ref 155), some (.int a), some (.int b), none] [] G0 C S K0 := by
    intro G0 wl s v e0 J0 hw ha hs hb hv
    refine w_go z_hl [] [242] 40 e0.1 ?_
    intro H hH
    have f : y_fr G0 H [] [] := y_st (y_rf e0.1) hH (by repeat (first | exact w_nil | refine w_cons (Or.inl (y_m rfl)) ?_ | refine w_cons (Or.inr (by assumption)) ?_)) (by repeat (first | exact w_nil | refine w_cons (Or.inl (y_m rfl)) ?_ | refine w_cons (Or.inr (by assumption)) ?_))
    refine aOK_deep (d := d + 169) (by omega) (y_termOf (sd e0 hw f rfl hs) ha hb hv (fun x H2 f2 _ => ⟨fun n e => (by cases e), ?_⟩))
    exact T47 e0 J0 (y_sq (y_mo f rfl rfl) f2 rfl rfl)
  have T20 : ∀ {G : aH} {s v : Nat}, y_fr h G [19584] [] → a.toInt = s → (s : Int) < sy.toInt → b.toInt = v → v < 2 → aOK s_P X (d + 172) a_m246 20 [some (.ref 155), some (.int a), some (.int b), none] [.int (y_01 true)] G C S K0 := by
    intro G s v e ha hs hb hv
    refine w_go z_hl [] [188] 30 e.1 ?_
    refine ⟨fun q => absurd q (by decide), fun _ => ⟨⟨by omega, by omega⟩, fun l hl len bb => ⟨fun _ => fun H hH => ?_, fun _ => fun H hH => out0 (y_st e hH (by repeat (first | exact w_nil | refine w_cons (Or.inl (y_m rfl)) ?_ | refine w_cons (Or.inr (by assumption)) ?_)) (by repeat (first | exact w_nil | refine w_cons (Or.inl (y_m rfl)) ?_ | refine w_cons (Or.inr (by assumption)) ?_)))⟩⟩⟩
    have e2 := y_st e hH (by repeat (first | exact w_nil | refine w_cons (Or.inl (y_m rfl)) ?_ | refine w_cons (Or.inr (by assumption)) ?_)) (by repeat (first | exact w_nil | refine w_cons (Or.inl (y_m rfl)) ?_ | refine w_cons (Or.inr (by assumption)) ?_))
    refine q_weighsUp e2.1 (y_J_fr e2 rfl rfl hJ) (fun wl H2 e3 J3 hw => ⟨fun n e => (by cases e), ?_⟩)
    exact T40 (y_sq (y_mo e2 rfl rfl) e3 rfl rfl) J3 hw ha hs hb hv
  have T20n : ∀ {G : aH}, y_fr h G [19584] [] → aOK s_P X (d + 172) a_m246 20 [some (.ref 155), some (.int a), some (.int b), none] [.int (y_01 false)] G C S K0 := by
    intro G e
    refine w_go z_hl [] [] 30 e.1 ?_
    exact ⟨fun _ => fun H hH => out0 (y_st e hH (by repeat (first | exact w_nil | refine w_cons (Or.inl (y_m rfl)) ?_ | refine w_cons (Or.inr (by assumption)) ?_)) (by repeat (first | exact w_nil | refine w_cons (Or.inl (y_m rfl)) ?_ | refine w_cons (Or.inr (by assumption)) ?_))), fun q => absurd q (by decide)⟩
  have T10 : ∀ {G : aH} {s : Nat}, y_fr h G [19584] [] → a.toInt = s → (s : Int) < sy.toInt → aOK s_P X (d + 172) a_m246 10 [some (.ref 155), some (.int a), some (.int b), none] [.int (y_01 true)] G C S K0 := by
    intro G s e ha hs
    refine w_go z_hl [] [176] 30 e.1 ?_
    refine ⟨fun q => absurd q (by decide), fun _ => fun H hH => ?_⟩
    have e2 := y_st e hH (by repeat (first | exact w_nil | refine w_cons (Or.inl (y_m rfl)) ?_ | refine w_cons (Or.inr (by assumption)) ?_)) (by repeat (first | exact w_nil | refine w_cons (Or.inl (y_m rfl)) ?_ | refine w_cons (Or.inr (by assumption)) ?_))
    refine q_in (v := b.toInt64) (lo := Int64.ofNat 0) (hi := Int64.ofNat 1) e2.1 (fun H3 h3 l1 l2 => ⟨fun n e => (by cases e), ?_⟩) (fun H3 h3 _ => ⟨fun n e => (by cases e), ?_⟩)
    · rw [y_i2l] at l1 l2
      have l1 : 0 ≤ b.toInt := l1
      have l2 : b.toInt ≤ 1 := l2
      exact T20 (v := b.toInt.toNat) (y_sq e2 h3 rfl rfl) ha hs (by omega) (by omega)
    · exact T20n (y_sq e2 h3 rfl rfl)
  have T10n : ∀ {G : aH}, y_fr h G [19584] [] → aOK s_P X (d + 172) a_m246 10 [some (.ref 155), some (.int a), some (.int b), none] [.int (y_01 false)] G C S K0 := by
    intro G e
    refine w_go z_hl [] [] 30 e.1 ?_
    exact ⟨fun _ => fun H hH => out0 (y_st e hH (by repeat (first | exact w_nil | refine w_cons (Or.inl (y_m rfl)) ?_ | refine w_cons (Or.inr (by assumption)) ?_)) (by repeat (first | exact w_nil | refine w_cons (Or.inl (y_m rfl)) ?_ | refine w_cons (Or.inr (by assumption)) ?_))), fun q => absurd q (by decide)⟩
  refine w_go z_hl [] [234] 30 hr ?_
  refine ⟨rfl, y_zini (by decide) (by decide), fun H1 h1 => ?_⟩
  have e1 : y_fr h H1 [19584] [] := y_st (y_mo (y_rf hr) rfl rfl) h1 (by repeat (first | exact w_nil | refine w_cons (Or.inl (y_m rfl)) ?_ | refine w_cons (Or.inr (by assumption)) ?_)) (by repeat (first | exact w_nil | refine w_cons (Or.inl (y_m rfl)) ?_ | refine w_cons (Or.inr (by assumption)) ?_))
  refine y_isSaying e1.1 ((y_fe e1 rfl).trans y1) (fun H2 s h2 ha hs => ⟨fun n e => (by cases e), ?_⟩) (fun H2 h2 => ⟨fun n e => (by cases e), ?_⟩)
  · exact T10 (y_sq e1 h2 rfl rfl) ha hs
  · exact T10n (y_sq e1 h2 rfl rfl)
theorem p_which {h : aH} (hr : w_hr z_D h) (hJ : y_J h) (hS : j_say h) {a : Int32} (hk : ∀ (r : Int32) (H : aH), y_fr h H [19584, 19587, 19588, 19589, 19616, 19617, 19618] [155, 163] → y_J H → j_say H → K0 (some (.int r)) H C S) : aOK s_P X (d + 172) a_m248 0 [some (.ref 155), some (.int a), none, none] [] h C S K0 := by
  obtain ⟨sy, acl, kdl, nul, bel, fil, sgl, y1, y2, y3, y4, y5, y6, y7, y8⟩ := id hS
  obtain ⟨nd, sm, so, sa, s1, s2, s3, s4, s5⟩ := id hJ.2.2.2.2.1
  obtain ⟨y0, y12⟩ := y_syb hr y1
  have out : ∀ {G0 G : aH} {r : Int32}, y_fr h G0 [19584] [163] → y_J G0 → y_fr G0 G [19587, 19588, 19589, 19616, 19617, 19618] [155] → K0 (some (.int r)) G C S := by
    intro G0 G r e0 J0 e
    have e2 : y_fr h G [19584, 19587, 19588, 19589, 19616, 19617, 19618] [155, 163] := y_sq (y_mo e0 rfl rfl) e rfl rfl
    exact hk r G e2 (y_J_fr e rfl rfl J0) (j_say_e e2 rfl rfl hS)
  have out0 : ∀ {G : aH} {r : Int32}, y_fr h G [19584] [] → K0 (some (.int r)) G C S := by
    intro G r e
    exact hk r G (y_mo e rfl rfl) (y_J_fr e rfl rfl hJ) (j_say_e e rfl rfl hS)
  have sd : ∀ {G0 G : aH} {wl : List Int64} {s : Nat} {fs : List Nat}, y_fr h G0 [19584] [163] → y_wl G0 wl → y_fr G0 G fs [] → fs.elem 19591 = false → (s : Int) < sy.toInt → y_sd G nd sgl wl s acl kdl nul bel fil := by
    intro G0 G wl s fs e0 hw e hfs hs
    have s0 : y_sd G0 nd sgl wl s acl kdl nul bel fil := ⟨⟨e0.1, (y_fe e0 rfl).trans s1, (y_ae e0 rfl).trans y7, hw⟩, (y_ae e0 rfl).trans y2, (y_ae e0 rfl).trans y3, (y_ae e0 rfl).trans y4, (y_ae e0 rfl).trans y5, (y_ae e0 rfl).trans y6, y8 s hs, by omega⟩
    exact y_sd_fr s0 e hfs
  have loop : ∀ (m : Nat) {G0 G : aH} {wl : List Int64} {s : Nat} {x k : Int32}, y_fr h G0 [19584] [163] → y_J G0 → y_wl G0 wl → a.toInt = s → (s : Int) < sy.toInt → y_fr G0 G [19587, 19588, 19589, 19616, 19617, 19618] [155] → 0 ≤ k.toInt → 5 ≤ k.toInt + m → k.toInt ≤ 5 → aOK s_P X (d + 172) a_m248 60 [some (.ref 155), some (.int a), some (.int x), some (.int k)] [] G C S K0 := by
    intro m
    induction m with
    | zero =>
      intro G0 G wl s x k e0 J0 hw ha hs e k0 km k5
      refine w_go z_hl [60] [] 40 e.1 ?_
      refine ⟨fun _ => fun H hH => out e0 J0 (y_st e hH (by repeat (first | exact w_nil | refine w_cons (Or.inl (y_m rfl)) ?_ | refine w_cons (Or.inr (by assumption)) ?_)) (by repeat (first | exact w_nil | refine w_cons (Or.inl (y_m rfl)) ?_ | refine w_cons (Or.inr (by assumption)) ?_))), fun q => ?_⟩
      have q2 : ¬ ((Int32.ofInt 4).toInt < k.toInt) := y_cif q
      rw [show (Int32.ofInt 4).toInt = 4 by decide] at q2
      omega
    | succ m ih =>
      intro G0 G wl s x k e0 J0 hw ha hs e k0 km k5
      have T82 : ∀ {H : aH} {y : Int32}, y_fr G0 H [19587, 19588, 19589, 19616, 19617, 19618] [155] → k.toInt ≤ 4 → aOK s_P X (d + 172) a_m248 82 [some (.ref 155), some (.int a), some (.int x), some (.int k)] [.int y] H C S K0 := by
        intro H y f k4
        have ink : (k + Int32.ofInt 1).toInt = k.toInt + 1 := y_inc (by omega)
        refine w_go z_hl [60] [] 40 f.1 ?_
        refine ⟨fun _ => fun H2 h2 => ih e0 J0 hw ha hs (y_st f h2 (by repeat (first | exact w_nil | refine w_cons (Or.inl (y_m rfl)) ?_ | refine w_cons (Or.inr (by assumption)) ?_)) (by repeat (first | exact w_nil | refine w_cons (Or.inl (y_m rfl)) ?_ | refine w_cons (Or.inr (by assumption)) ?_))) (by show 0 ≤ (k + Int32.ofInt 1).toInt; omega) (by show 5 ≤ (k + Int32.ofInt 1).toInt + _; omega) (by show (k + Int32.ofInt 1).toInt ≤ 5; omega), fun _ => fun H2 h2 => out e0 J0 (y_st f h2 (by repeat (first | exact w_nil | refine w_cons (Or.inl (y_m rfl)) ?_ | refine w_cons (Or.inr (by assumption)) ?_)) (by repeat (first | exact w_nil | refine w_cons (Or.inl (y_m rfl)) ?_ | refine w_cons (Or.inr (by assumption)) ?_)))⟩
      refine w_go z_hl [60] [241] 40 e.1 ?_
      refine ⟨fun _ => fun H hH => out e0 J0 (y_st e hH (by repeat (first | exact w_nil | refine w_cons (Or.inl (y_m rfl)) ?_ | refine w_cons (Or.inr (by assumption)) ?_)) (by repeat (first | exact w_nil | refine w_cons (Or.inl (y_m rfl)) ?_ | refine w_cons (Or.inr (by assumption)) ?_))), fun q => ⟨⟨by omega, by omega⟩, fun l hl len bb => ⟨fun _ => fun H hH => out e0 J0 (y_st e hH (by repeat (first | exact w_nil | refine w_cons (Or.inl (y_m rfl)) ?_ | refine w_cons (Or.inr (by assumption)) ?_)) (by repeat (first | exact w_nil | refine w_cons (Or.inl (y_m rfl)) ?_ | refine w_cons (Or.inr (by assumption)) ?_))), fun _ => fun H hH => ?_⟩⟩⟩
      have q2 : ¬ ((Int32.ofInt 4).toInt < k.toInt) := y_cif q
      rw [show (Int32.ofInt 4).toInt = 4 by decide] at q2
      have f := y_st e hH (by repeat (first | exact w_nil | refine w_cons (Or.inl (y_m rfl)) ?_ | refine w_cons (Or.inr (by assumption)) ?_)) (by repeat (first | exact w_nil | refine w_cons (Or.inl (y_m rfl)) ?_ | refine w_cons (Or.inr (by assumption)) ?_))
      have s0 : y_sd G0 nd sgl wl s acl kdl nul bel fil := sd e0 hw (y_rf e0.1) rfl hs
      have s1' : y_sd H nd sgl wl s acl kdl nul bel fil := ⟨y_sc_fr s0.1 f rfl rfl rfl, (y_ae f rfl).trans s0.2.1, (y_ae f rfl).trans s0.2.2.1, (y_ae f rfl).trans s0.2.2.2.1, (y_ae f rfl).trans s0.2.2.2.2.1, (y_ae f rfl).trans s0.2.2.2.2.2.1, s0.2.2.2.2.2.2⟩
      refine aOK_deep (d := d + 170) (by omega) (y_soBy s1' ha (fun x H2 f2 => ⟨fun n e => (by cases e), ?_⟩))
      exact T82 (y_sq f f2 rfl rfl) (by omega)
  have T44 : ∀ {G0 G : aH} {wl : List Int64} {s : Nat} {x : Int32}, y_fr h G0 [19584] [163] → y_J G0 → y_wl G0 wl → a.toInt = s → (s : Int) < sy.toInt → y_fr G0 G [19587, 19588, 19589, 19616, 19617, 19618] [155] → aOK s_P X (d + 172) a_m248 44 [some (.ref 155), some (.int a), none, none] [.int x] G C S K0 := by
    intro G0 G wl s x e0 J0 hw ha hs e
    refine w_go z_hl [60] [] 30 e.1 ?_
    refine ⟨fun _ => ⟨fun _ => fun H hH => loop 5 e0 J0 hw ha hs (y_st e hH (by repeat (first | exact w_nil | refine w_cons (Or.inl (y_m rfl)) ?_ | refine w_cons (Or.inr (by assumption)) ?_)) (by repeat (first | exact w_nil | refine w_cons (Or.inl (y_m rfl)) ?_ | refine w_cons (Or.inr (by assumption)) ?_))) (by decide) (by decide) (by decide), fun _ => fun H hH => out e0 J0 (y_st e hH (by repeat (first | exact w_nil | refine w_cons (Or.inl (y_m rfl)) ?_ | refine w_cons (Or.inr (by assumption)) ?_)) (by repeat (first | exact w_nil | refine w_cons (Or.inl (y_m rfl)) ?_ | refine w_cons (Or.inr (by assumption)) ?_)))⟩, fun _ => fun H hH => out e0 J0 (y_st e hH (by repeat (first | exact w_nil | refine w_cons (Or.inl (y_m rfl)) ?_ | refine w_cons (Or.inr (by assumption)) ?_)) (by repeat (first | exact w_nil | refine w_cons (Or.inl (y_m rfl)) ?_ | refine w_cons (Or.inr (by assumption)) ?_)))⟩
  have T35 : ∀ {G0 G : aH} {wl : List Int64} {s : Nat} {x : Int32}, y_fr h G0 [19584] [163] → y_J G0 → y_wl G0 wl → a.toInt = s → (s : Int) < sy.toInt → y_fr G0 G [19587, 19588, 19589, 19616, 19617, 19618] [155] → aOK s_P X (d + 172) a_m248 35 [some (.ref 155), some (.int a), none, none] [.int x] G C S K0 := by
    intro G0 G wl s x e0 J0 hw ha hs e
    refine w_go z_hl [44] [] 30 e.1 ?_
    intro H hH
    exact T44 e0 J0 hw ha hs (y_st e hH (by repeat (first | exact w_nil | refine w_cons (Or.inl (y_m rfl)) ?_ | refine w_cons (Or.inr (by assumption)) ?_)) (by repeat (first | exact w_nil | refine w_cons (Or.inl (y_m rfl)) ?_ | refine w_cons (Or.inr (by assumption)) ?_)))
  have T19 : ∀ {G0 : aH} {wl : List Int64} {s : Nat}, y_fr h G0 [19584] [163] → y_J G0 → y_wl G0 wl → a.toInt = s → (s : Int) < sy.toInt → aOK s_P X (d + 172) a_m248 19 [some (.ref 155), some (.int a), none, none] [] G0 C S K0 := by
    intro G0 wl s e0 J0 hw ha hs
    refine w_go z_hl [] [235, 241] 40 e0.1 ?_
    refine ⟨⟨by omega, by omega⟩, fun l hl len bb => ?_⟩
    obtain rfl := y_ai ((y_ae e0 rfl).trans y2) hl
    refine ⟨fun q => fun H hH => ?_, fun q => fun H hH => ?_⟩
    · have f : y_fr G0 H [] [] := y_st (y_rf e0.1) hH (by repeat (first | exact w_nil | refine w_cons (Or.inl (y_m rfl)) ?_ | refine w_cons (Or.inr (by assumption)) ?_)) (by repeat (first | exact w_nil | refine w_cons (Or.inl (y_m rfl)) ?_ | refine w_cons (Or.inr (by assumption)) ?_))
      refine aOK_deep (d := d + 170) (by omega) (y_soBy (sd e0 hw f rfl hs) ha (fun x H2 f2 => ⟨fun n e => (by cases e), ?_⟩))
      exact T44 e0 J0 hw ha hs (y_sq (y_mo f rfl rfl) f2 rfl rfl)
    · have q2 : ¬ ((acl.getD a.toNatClampNeg 0).toInt ≠ ((Int8.ofInt 126).toInt32).toInt) := y_cif q
      rw [y_cl1 ha, show ((Int8.ofInt 126).toInt32).toInt = 126 by decide] at q2
      have kk := (y8 s hs).2.2 (Decidable.not_not.mp q2)
      have f : y_fr G0 H [] [] := y_st (y_rf e0.1) hH (by repeat (first | exact w_nil | refine w_cons (Or.inl (y_m rfl)) ?_ | refine w_cons (Or.inr (by assumption)) ?_)) (by repeat (first | exact w_nil | refine w_cons (Or.inl (y_m rfl)) ?_ | refine w_cons (Or.inr (by assumption)) ?_))
      refine aOK_deep (d := d + 168) (by omega) (y_tog (sd e0 hw f rfl hs) ha kk.1 kk.2 (fun x H2 f2 => ⟨fun n e => (by cases e), ?_⟩))
      exact T35 e0 J0 hw ha hs (y_sq (y_mo f rfl rfl) f2 rfl rfl)
  have T10 : ∀ {G : aH} {s : Nat}, y_fr h G [19584] [] → a.toInt = s → (s : Int) < sy.toInt → aOK s_P X (d + 172) a_m248 10 [some (.ref 155), some (.int a), none, none] [.int (y_01 true)] G C S K0 := by
    intro G s e ha hs
    refine w_go z_hl [] [188] 30 e.1 ?_
    refine ⟨fun _ => fun H hH => ?_, fun q => absurd q (by decide)⟩
    have e2 := y_st e hH (by repeat (first | exact w_nil | refine w_cons (Or.inl (y_m rfl)) ?_ | refine w_cons (Or.inr (by assumption)) ?_)) (by repeat (first | exact w_nil | refine w_cons (Or.inl (y_m rfl)) ?_ | refine w_cons (Or.inr (by assumption)) ?_))
    refine q_weighsUp e2.1 (y_J_fr e2 rfl rfl hJ) (fun wl H2 e3 J3 hw => ⟨fun n e => (by cases e), ?_⟩)
    exact T19 (y_sq (y_mo e2 rfl rfl) e3 rfl rfl) J3 hw ha hs
  have T10n : ∀ {G : aH}, y_fr h G [19584] [] → aOK s_P X (d + 172) a_m248 10 [some (.ref 155), some (.int a), none, none] [.int (y_01 false)] G C S K0 := by
    intro G e
    refine w_go z_hl [] [] 30 e.1 ?_
    exact ⟨fun q => absurd q (by decide), fun _ => fun H hH => out0 (y_st e hH (by repeat (first | exact w_nil | refine w_cons (Or.inl (y_m rfl)) ?_ | refine w_cons (Or.inr (by assumption)) ?_)) (by repeat (first | exact w_nil | refine w_cons (Or.inl (y_m rfl)) ?_ | refine w_cons (Or.inr (by assumption)) ?_)))⟩
  refine w_go z_hl [] [234] 30 hr ?_
  refine ⟨rfl, y_zini (by decide) (by decide), fun H1 h1 => ?_⟩
  have e1 : y_fr h H1 [19584] [] := y_st (y_mo (y_rf hr) rfl rfl) h1 (by repeat (first | exact w_nil | refine w_cons (Or.inl (y_m rfl)) ?_ | refine w_cons (Or.inr (by assumption)) ?_)) (by repeat (first | exact w_nil | refine w_cons (Or.inl (y_m rfl)) ?_ | refine w_cons (Or.inr (by assumption)) ?_))
  refine y_isSaying e1.1 ((y_fe e1 rfl).trans y1) (fun H2 s h2 ha hs => ⟨fun n e => (by cases e), ?_⟩) (fun H2 h2 => ⟨fun n e => (by cases e), ?_⟩)
  · exact T10 (y_sq e1 h2 rfl rfl) ha hs
  · exact T10n (y_sq e1 h2 rfl rfl)
end WG
end PT29m
