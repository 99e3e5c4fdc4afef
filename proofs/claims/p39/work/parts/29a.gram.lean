/-! ===== v3: how sayings are read ===== -/
/-- kinds: 0 a thing, 1 things joined by and, 2 those joined by or, 3 and 4 what follows -/
def y_E (T : Nat → Int) (st : Nat) : Nat → Nat → Nat → Nat → Prop
  | 0, _, _, _ => False
  | n + 1, k, p, q => match k with
    | 0 => (T p = 33 ∧ y_E T st n 0 (p + 1) q) ∨ (97 ≤ T p ∧ q = p + 1) ∨ (T p = 40 ∧ ∃ r, y_E T st n 2 (p + 1) r ∧ T r = 41 ∧ q = r + 1)
    | 1 => ∃ r, y_E T st n 0 p r ∧ y_E T st n 3 r q
    | 2 => ∃ r, y_E T st n 1 p r ∧ y_E T st n 4 r q
    | 3 => (¬ (T p = 38 ∧ p < st) ∧ q = p) ∨ (T p = 38 ∧ p < st ∧ ∃ s, y_E T st n 0 (p + 1) s ∧ y_E T st n 3 s q)
    | _ => (¬ (T p = 124 ∧ p < st) ∧ q = p) ∨ (T p = 124 ∧ p < st ∧ ∃ s, y_E T st n 1 (p + 1) s ∧ y_E T st n 4 s q)
section YE
variable {T T' : Nat → Int} {st st' : Nat}
theorem y_E_lt : ∀ (n : Nat) {p q : Nat}, (∀ k, k < 3 → y_E T st n k p q → p < q) ∧ (y_E T st n 3 p q → p ≤ q) ∧ (y_E T st n 4 p q → p ≤ q) := by
  intro n
  induction n with
  | zero => exact fun {p q} => ⟨fun k _ h => h.elim, fun h => h.elim, fun h => h.elim⟩
  | succ n ih =>
    intro p q
    refine ⟨fun k hk h => ?_, fun h => ?_, fun h => ?_⟩
    · match k, hk, h with
      | 0, _, h =>
        rcases h with ⟨-, h⟩ | ⟨-, h⟩ | ⟨-, r, h1, -, h2⟩
        · have := ih.1 0 (by decide) h
          omega
        · omega
        · have := ih.1 2 (by decide) h1
          omega
      | 1, _, h =>
        obtain ⟨r, h1, h2⟩ := h
        have a := ih.1 0 (by decide) h1
        have b := ih.2.1 h2
        omega
      | 2, _, h =>
        obtain ⟨r, h1, h2⟩ := h
        have a := ih.1 1 (by decide) h1
        have b := ih.2.2 h2
        omega
    · rcases h with ⟨-, h⟩ | ⟨-, -, s, h1, h2⟩
      · omega
      · have a := ih.1 0 (by decide) h1
        have b := ih.2.1 h2
        omega
    · rcases h with ⟨-, h⟩ | ⟨-, -, s, h1, h2⟩
      · omega
      · have a := ih.1 1 (by decide) h1
        have b := ih.2.2 h2
        omega
/-- another text that is the same up to there, an earlier stop -/
theorem y_E_c (hT : ∀ j, j < st → T' j = T j) (hs : st' ≤ st) : ∀ (n : Nat) {k p q : Nat}, k < 5 → q ≤ st' → y_E T st n k p q → y_E T' st' n k p q := by
  intro n
  induction n with
  | zero => exact fun _ _ h => h.elim
  | succ n ih =>
    intro k p q hk hq h
    have lt := fun {p q : Nat} => y_E_lt (T := T) (st := st) n (p := p) (q := q)
    match k, hk, h with
    | 0, _, h =>
      rcases h with ⟨h0, h⟩ | ⟨h0, h⟩ | ⟨h0, r, h1, h3, h2⟩
      · have a := lt.1 0 (by decide) h
        exact Or.inl ⟨by rw [hT p (by omega)]; exact h0, ih (by decide) hq h⟩
      · exact Or.inr (Or.inl ⟨by rw [hT p (by omega)]; exact h0, h⟩)
      · have a := lt.1 2 (by decide) h1
        exact Or.inr (Or.inr ⟨by rw [hT p (by omega)]; exact h0, r, ih (by decide) (by omega) h1, by rw [hT r (by omega)]; exact h3, h2⟩)
    | 1, _, h =>
      obtain ⟨r, h1, h2⟩ := h
      have b := lt.2.1 h2
      exact ⟨r, ih (by decide) (by omega) h1, ih (by decide) hq h2⟩
    | 2, _, h =>
      obtain ⟨r, h1, h2⟩ := h
      have b := lt.2.2 h2
      exact ⟨r, ih (by decide) (by omega) h1, ih (by decide) hq h2⟩
    | 3, _, h =>
      rcases h with ⟨h0, h⟩ | ⟨h0, h3, s, h1, h2⟩
      · exact Or.inl ⟨fun q2 => h0 ⟨by rw [← hT p (by omega)]; exact q2.1, by omega⟩, h⟩
      · have a := lt.1 0 (by decide) h1
        have b := lt.2.1 h2
        exact Or.inr ⟨by rw [hT p h3]; exact h0, by omega, s, ih (by decide) (by omega) h1, ih (by decide) hq h2⟩
    | 4, _, h =>
      rcases h with ⟨h0, h⟩ | ⟨h0, h3, s, h1, h2⟩
      · exact Or.inl ⟨fun q2 => h0 ⟨by rw [← hT p (by omega)]; exact q2.1, by omega⟩, h⟩
      · have a := lt.1 1 (by decide) h1
        have b := lt.2.2 h2
        exact Or.inr ⟨by rw [hT p h3]; exact h0, by omega, s, ih (by decide) (by omega) h1, ih (by decide) hq h2⟩
end YE
/-- where the reader stands -/
def y_ps (h : aH) (tp : List Int32) (t p : Nat) (o : Int) : Prop := ∃ toI atI opI nd : Int32, w_hr z_D h ∧ w_a h 171 = some (0, .inl tp) ∧ w_f h 19614 = some (.int toI) ∧ toI.toInt = t ∧ w_f h 19613 = some (.int atI) ∧ atI.toInt = p ∧ w_f h 19615 = some (.int opI) ∧ opI.toInt = o ∧ w_f h 19591 = some (.int nd) ∧ p ≤ t ∧ t ≤ 40 ∧ 0 ≤ o ∧ o ≤ 5
theorem y_ps_fr {h H : aH} {tp : List Int32} {t p : Nat} {o : Int} {fs as : List Nat} (s : y_ps h tp t p o) (e : y_fr h H fs as) (h1 : [19614, 19613, 19615, 19591].all (fun x => !fs.elem x) = true) (h2 : as.elem 171 = false) : y_ps H tp t p o := by
  obtain ⟨toI, atI, opI, nd, hr, a1, a2, a3, a4, a5, a6, a7, a8, a9⟩ := s
  have k : ∀ x, [19614, 19613, 19615, 19591].elem x = true → fs.elem x = false := fun x hx => by
    have := List.all_eq_true.mp h1 x (List.elem_iff.mp hx)
    cases q : fs.elem x with
    | true => rw [q] at this; cases this
    | false => rfl
  exact ⟨toI, atI, opI, nd, e.1, (y_ae e h2).trans a1, (y_fe e (k _ rfl)).trans a2, a3, (y_fe e (k _ rfl)).trans a4, a5, (y_fe e (k _ rfl)).trans a6, a7, (y_fe e (k _ rfl)).trans a8, a9⟩
section WG
variable {X : aX} {C S d : Nat} {K0 : Option Value → aH → Nat → Nat → Prop} {h : aH} {tp : List Int32} {t p : Nat} {o : Int}
theorem y_isAt (s : y_ps h tp t p o) {c : Int32} (yes : ∀ H, y_fr h H [] [] → p < t → y_N tp p = c.toInt → K0 (some (.int (Int32.ofInt 1))) H C S) (no : ∀ H, y_fr h H [] [] → ¬ (y_N tp p = c.toInt ∧ p < t) → K0 (some (.int (Int32.ofInt 0))) H C S) : aOK s_P X d a_m227 0 [some (.ref 155), some (.int c)] [] h C S K0 := by
  obtain ⟨toI, atI, opI, nd, hr, a1, a2, a3, a4, a5, a6, a7, a8, pt, t40, o0, o5⟩ := s
  have ac := y_cl1 a5
  refine w_go z_hl [] [] 40 hr ?_
  intro x hx _ _
  obtain rfl := y_fi a4 hx
  intro y hy _ _
  obtain rfl := y_fi a2 hy
  refine ⟨fun q => ⟨by decide, fun H hH => no H (y_st (y_rf hr) hH (by repeat (first | exact w_nil | refine w_cons (Or.inl (y_m rfl)) ?_ | refine w_cons (Or.inr (by assumption)) ?_)) (by repeat (first | exact w_nil | refine w_cons (Or.inl (y_m rfl)) ?_ | refine w_cons (Or.inr (by assumption)) ?_))) ?_⟩, fun q => ?_⟩
  · have : toI.toInt ≤ atI.toInt := (y_ci .ge _ _).mp q
    omega
  · have q1 : ¬ (toI.toInt ≤ atI.toInt) := y_cif q
    refine ⟨⟨by omega, by omega⟩, fun l hl len bb => ?_⟩
    obtain rfl := y_ai a1 hl
    refine ⟨fun q2 => ⟨by decide, fun H hH => no H (y_st (y_rf hr) hH (by repeat (first | exact w_nil | refine w_cons (Or.inl (y_m rfl)) ?_ | refine w_cons (Or.inr (by assumption)) ?_)) (by repeat (first | exact w_nil | refine w_cons (Or.inl (y_m rfl)) ?_ | refine w_cons (Or.inr (by assumption)) ?_))) ?_⟩, fun q2 => ⟨by decide, fun H hH => yes H (y_st (y_rf hr) hH (by repeat (first | exact w_nil | refine w_cons (Or.inl (y_m rfl)) ?_ | refine w_cons (Or.inr (by assumption)) ?_)) (by repeat (first | exact w_nil | refine w_cons (Or.inl (y_m rfl)) ?_ | refine w_cons (Or.inr (by assumption)) ?_))) (by omega) ?_⟩⟩
    · have q3 : (tp.getD atI.toNatClampNeg 0).toInt ≠ c.toInt := (y_ci .ne _ _).mp q2
      rw [ac] at q3
      exact fun q4 => q3 q4.1
    · have q3 : ¬ ((tp.getD atI.toNatClampNeg 0).toInt ≠ c.toInt) := y_cif q2
      rw [ac] at q3
      exact Decidable.not_not.mp q3
theorem y_comes (s : y_ps h tp t p o) {c : Int32} (yes : ∀ H, y_fr h H [19613] [] → y_ps H tp t (p + 1) o → p < t → y_N tp p = c.toInt → K0 (some (.int (Int32.ofInt 1))) H C S) (no : ∀ H, y_fr h H [19613] [] → y_ps H tp t p o → ¬ (y_N tp p = c.toInt ∧ p < t) → K0 (some (.int (Int32.ofInt 0))) H C S) : aOK s_P X (d + 1) a_m226 0 [some (.ref 155), some (.int c), none] [] h C S K0 := by
  have T5y : ∀ {G : aH}, y_fr h G [] [] → p < t → y_N tp p = c.toInt → aOK s_P X (d + 1) a_m226 5 [some (.ref 155), some (.int c), none] [.int (Int32.ofInt 1)] G C S K0 := by
    intro G e hp hc
    obtain ⟨toI, atI, opI, nd, hr, a1, a2, a3, a4, a5, a6, a7, a8, pt, t40, o0, o5⟩ := y_ps_fr s e rfl rfl
    have inc : (atI + Int32.ofInt 1).toInt = ((p + 1 : Nat) : Int) := by rw [y_inc (by omega), a5]; rfl
    refine w_go z_hl [] [] 40 e.1 ?_
    intro x hx _ _
    obtain rfl := y_fi a4 hx
    refine ⟨fun q => absurd q (by decide), fun _ => ⟨rfl, y_zini (by show 0 ≤ (atI + Int32.ofInt 1).toInt; omega) (by show (atI + Int32.ofInt 1).toInt ≤ 40; omega), by decide, fun H hH => ?_⟩⟩
    have f : y_fr G H [19613] [] := y_st (y_mo (y_rf e.1) rfl rfl) hH (by repeat (first | exact w_nil | refine w_cons (Or.inl (y_m rfl)) ?_ | refine w_cons (Or.inr (by assumption)) ?_)) (by repeat (first | exact w_nil | refine w_cons (Or.inl (y_m rfl)) ?_ | refine w_cons (Or.inr (by assumption)) ?_))
    exact yes H (y_sq (y_mo e rfl rfl) f rfl rfl) ⟨toI, _, opI, nd, f.1, (y_ae f rfl).trans a1, (y_fe f rfl).trans a2, a3, hH.2.1 19613 _ rfl, inc, (y_fe f rfl).trans a6, a7, (y_fe f rfl).trans a8, by omega, t40, o0, o5⟩ hp hc
  have T5n : ∀ {G : aH}, y_fr h G [] [] → ¬ (y_N tp p = c.toInt ∧ p < t) → aOK s_P X (d + 1) a_m226 5 [some (.ref 155), some (.int c), none] [.int (Int32.ofInt 0)] G C S K0 := by
    intro G e hn
    obtain ⟨toI, atI, opI, nd, hr, a1, a2, a3, a4, a5, a6, a7, a8, pt, t40, o0, o5⟩ := y_ps_fr s e rfl rfl
    have inc : (atI + Int32.ofInt 0).toInt = (p : Int) := by rw [show Int32.ofInt 0 = (0 : Int32) by decide, Int32.add_zero]; exact a5
    refine w_go z_hl [] [] 40 e.1 ?_
    intro x hx _ _
    obtain rfl := y_fi a4 hx
    refine ⟨fun _ => ⟨rfl, y_zini (by show 0 ≤ (atI + Int32.ofInt 0).toInt; omega) (by show (atI + Int32.ofInt 0).toInt ≤ 40; omega), by decide, fun H hH => ?_⟩, fun q => absurd q (by decide)⟩
    have f : y_fr G H [19613] [] := y_st (y_mo (y_rf e.1) rfl rfl) hH (by repeat (first | exact w_nil | refine w_cons (Or.inl (y_m rfl)) ?_ | refine w_cons (Or.inr (by assumption)) ?_)) (by repeat (first | exact w_nil | refine w_cons (Or.inl (y_m rfl)) ?_ | refine w_cons (Or.inr (by assumption)) ?_))
    exact no H (y_sq (y_mo e rfl rfl) f rfl rfl) ⟨toI, _, opI, nd, f.1, (y_ae f rfl).trans a1, (y_fe f rfl).trans a2, a3, hH.2.1 19613 _ rfl, inc, (y_fe f rfl).trans a6, a7, (y_fe f rfl).trans a8, pt, t40, o0, o5⟩ hn
  have hr : w_hr z_D h := by
    obtain ⟨toI, atI, opI, nd, hr, -⟩ := s
    exact hr
  refine w_go z_hl [] [227] 40 hr ?_
  intro H hH
  have e : y_fr h H [] [] := y_st (y_rf hr) hH (by repeat (first | exact w_nil | refine w_cons (Or.inl (y_m rfl)) ?_ | refine w_cons (Or.inr (by assumption)) ?_)) (by repeat (first | exact w_nil | refine w_cons (Or.inl (y_m rfl)) ?_ | refine w_cons (Or.inr (by assumption)) ?_))
  refine y_isAt (y_ps_fr s e rfl rfl) (fun H2 e2 hp hc => ⟨fun n e => (by cases e), ?_⟩) (fun H2 e2 hn => ⟨fun n e => (by cases e), ?_⟩)
  · exact T5y (y_sq e e2 rfl rfl) hp hc
  · exact T5n (y_sq e e2 rfl rfl) hn
theorem y_isLetter (s : y_ps h tp t p o) (yes : ∀ H, y_fr h H [] [] → p < t → 97 ≤ y_N tp p → K0 (some (.int (Int32.ofInt 1))) H C S) (no : ∀ H, y_fr h H [] [] → K0 (some (.int (Int32.ofInt 0))) H C S) : aOK s_P X (d + 1) a_m232 0 [some (.ref 155)] [] h C S K0 := by
  obtain ⟨toI, atI, opI, nd, hr, a1, a2, a3, a4, a5, a6, a7, a8, pt, t40, o0, o5⟩ := s
  have ac := y_cl1 a5
  have T37y : ∀ {G : aH}, y_fr h G [] [] → p < t → 97 ≤ y_N tp p → aOK s_P X (d + 1) a_m232 37 [some (.ref 155)] [.int (y_01 true)] G C S K0 := by
    intro G e hp hc
    refine w_go z_hl [] [] 40 e.1 ?_
    exact ⟨fun q => absurd q (by decide), fun _ => ⟨by decide, fun H hH => yes H (y_st e hH (by repeat (first | exact w_nil | refine w_cons (Or.inl (y_m rfl)) ?_ | refine w_cons (Or.inr (by assumption)) ?_)) (by repeat (first | exact w_nil | refine w_cons (Or.inl (y_m rfl)) ?_ | refine w_cons (Or.inr (by assumption)) ?_))) hp hc⟩⟩
  have T37n : ∀ {G : aH}, y_fr h G [] [] → aOK s_P X (d + 1) a_m232 37 [some (.ref 155)] [.int (y_01 false)] G C S K0 := by
    intro G e
    refine w_go z_hl [] [] 40 e.1 ?_
    exact ⟨fun _ => ⟨by decide, fun H hH => no H (y_st e hH (by repeat (first | exact w_nil | refine w_cons (Or.inl (y_m rfl)) ?_ | refine w_cons (Or.inr (by assumption)) ?_)) (by repeat (first | exact w_nil | refine w_cons (Or.inl (y_m rfl)) ?_ | refine w_cons (Or.inr (by assumption)) ?_)))⟩, fun q => absurd q (by decide)⟩
  refine w_go z_hl [] [176] 40 hr ?_
  intro x hx _ _
  obtain rfl := y_fi a4 hx
  intro y hy _ _
  obtain rfl := y_fi a2 hy
  refine ⟨fun q => ⟨by decide, fun H hH => no H (y_st (y_rf hr) hH (by repeat (first | exact w_nil | refine w_cons (Or.inl (y_m rfl)) ?_ | refine w_cons (Or.inr (by assumption)) ?_)) (by repeat (first | exact w_nil | refine w_cons (Or.inl (y_m rfl)) ?_ | refine w_cons (Or.inr (by assumption)) ?_)))⟩, fun q => ?_⟩
  have q1 : ¬ (toI.toInt ≤ atI.toInt) := y_cif q
  refine ⟨⟨by omega, by omega⟩, fun l hl len bb => ?_⟩
  obtain rfl := y_ai a1 hl
  intro z hz _ _
  intro H hH
  have e : y_fr h H [] [] := y_st (y_rf hr) hH (by repeat (first | exact w_nil | refine w_cons (Or.inl (y_m rfl)) ?_ | refine w_cons (Or.inr (by assumption)) ?_)) (by repeat (first | exact w_nil | refine w_cons (Or.inl (y_m rfl)) ?_ | refine w_cons (Or.inr (by assumption)) ?_))
  refine q_in (v := (tp.getD atI.toNatClampNeg 0).toInt64) (lo := Int64.ofInt 97) e.1 (fun H2 e2 l1 l2 => ⟨fun n e => (by cases e), ?_⟩) (fun H2 e2 _ => ⟨fun n e => (by cases e), ?_⟩)
  · rw [y_i2l, ac, y_i64 (by decide) (by decide)] at l1
    exact T37y (y_sq e e2 rfl rfl) (by omega) l1
  · exact T37n (y_sq e e2 rfl rfl)
theorem y_isDigit (s : y_ps h tp t p o) (yes : ∀ H, y_fr h H [] [] → p < t → 48 ≤ y_N tp p → y_N tp p ≤ 57 → K0 (some (.int (Int32.ofInt 1))) H C S) (no : ∀ H, y_fr h H [] [] → K0 (some (.int (Int32.ofInt 0))) H C S) : aOK s_P X (d + 1) a_m224 0 [some (.ref 155)] [] h C S K0 := by
  obtain ⟨toI, atI, opI, nd, hr, a1, a2, a3, a4, a5, a6, a7, a8, pt, t40, o0, o5⟩ := s
  have ac := y_cl1 a5
  have T37y : ∀ {G : aH}, y_fr h G [] [] → p < t → 48 ≤ y_N tp p → y_N tp p ≤ 57 → aOK s_P X (d + 1) a_m224 30 [some (.ref 155)] [.int (y_01 true)] G C S K0 := by
    intro G e hp hc hc2
    refine w_go z_hl [] [] 40 e.1 ?_
    exact ⟨fun q => absurd q (by decide), fun _ => ⟨by decide, fun H hH => yes H (y_st e hH (by repeat (first | exact w_nil | refine w_cons (Or.inl (y_m rfl)) ?_ | refine w_cons (Or.inr (by assumption)) ?_)) (by repeat (first | exact w_nil | refine w_cons (Or.inl (y_m rfl)) ?_ | refine w_cons (Or.inr (by assumption)) ?_))) hp hc hc2⟩⟩
  have T37n : ∀ {G : aH}, y_fr h G [] [] → aOK s_P X (d + 1) a_m224 30 [some (.ref 155)] [.int (y_01 false)] G C S K0 := by
    intro G e
    refine w_go z_hl [] [] 40 e.1 ?_
    exact ⟨fun _ => ⟨by decide, fun H hH => no H (y_st e hH (by repeat (first | exact w_nil | refine w_cons (Or.inl (y_m rfl)) ?_ | refine w_cons (Or.inr (by assumption)) ?_)) (by repeat (first | exact w_nil | refine w_cons (Or.inl (y_m rfl)) ?_ | refine w_cons (Or.inr (by assumption)) ?_)))⟩, fun q => absurd q (by decide)⟩
  refine w_go z_hl [] [176] 40 hr ?_
  intro x hx _ _
  obtain rfl := y_fi a4 hx
  intro y hy _ _
  obtain rfl := y_fi a2 hy
  refine ⟨fun q => ⟨by decide, fun H hH => no H (y_st (y_rf hr) hH (by repeat (first | exact w_nil | refine w_cons (Or.inl (y_m rfl)) ?_ | refine w_cons (Or.inr (by assumption)) ?_)) (by repeat (first | exact w_nil | refine w_cons (Or.inl (y_m rfl)) ?_ | refine w_cons (Or.inr (by assumption)) ?_)))⟩, fun q => ?_⟩
  have q1 : ¬ (toI.toInt ≤ atI.toInt) := y_cif q
  refine ⟨⟨by omega, by omega⟩, fun l hl len bb => ?_⟩
  obtain rfl := y_ai a1 hl
  intro H hH
  have e : y_fr h H [] [] := y_st (y_rf hr) hH (by repeat (first | exact w_nil | refine w_cons (Or.inl (y_m rfl)) ?_ | refine w_cons (Or.inr (by assumption)) ?_)) (by repeat (first | exact w_nil | refine w_cons (Or.inl (y_m rfl)) ?_ | refine w_cons (Or.inr (by assumption)) ?_))
  refine q_in (v := (tp.getD atI.toNatClampNeg 0).toInt64) (lo := Int64.ofInt 48) (hi := Int64.ofInt 57) e.1 (fun H2 e2 l1 l2 => ⟨fun n e => (by cases e), ?_⟩) (fun H2 e2 _ => ⟨fun n e => (by cases e), ?_⟩)
  · rw [y_i2l, ac, y_i64 (by decide) (by decide)] at l1 l2
    exact T37y (y_sq e e2 rfl rfl) (by omega) l1 l2
  · exact T37n (y_sq e e2 rfl rfl)
end WG
