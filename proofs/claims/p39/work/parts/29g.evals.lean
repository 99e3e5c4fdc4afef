/-! ===== v3: the reference's thingOf, everyOf, eventOf, isOf ===== -/
def y_es (h : aH) (sg : List Int32) (r p st : Nat) : Prop := ∃ rI pI sI : Int32, w_hr z_D h ∧ w_a h 170 = some (0, .inl sg) ∧ w_f h 19616 = some (.int rI) ∧ rI.toInt = r ∧ w_f h 19617 = some (.int pI) ∧ pI.toInt = p ∧ w_f h 19618 = some (.int sI) ∧ sI.toInt = st ∧ r ≤ 11 ∧ p ≤ 40
theorem y_es_fr {h H : aH} {sg : List Int32} {r p st : Nat} (s : y_es h sg r p st) (e : y_fr h H [] []) : y_es H sg r p st := by
  obtain ⟨rI, pI, sI, hr, a1, a2, a3, a4, a5, a6, a7⟩ := s
  exact ⟨rI, pI, sI, e.1, (y_ae e rfl).trans a1, (y_fe e rfl).trans a2, a3, (y_fe e rfl).trans a4, a5, (y_fe e rfl).trans a6, a7⟩
theorem y_es_hr {h : aH} {sg : List Int32} {r p st : Nat} (s : y_es h sg r p st) : w_hr z_D h ∧ r ≤ 11 ∧ p ≤ 40 := by
  obtain ⟨rI, pI, sI, hr, a1, a2, a3, a4, a5, a6, a7, a8, a9⟩ := s
  exact ⟨hr, a8, a9⟩
theorem y_es_at {h H : aH} {sg : List Int32} {r p p' st : Nat} {pI' : Int32} (s : y_es h sg r p st) (e : y_fr h H [19617] []) (a : w_f H 19617 = some (.int pI')) (hp : pI'.toInt = p') (h40 : p' ≤ 40) : y_es H sg r p' st := by
  obtain ⟨rI, pI, sI, hr, a1, a2, a3, a4, a5, a6, a7, a8, a9⟩ := s
  exact ⟨rI, pI', sI, e.1, (y_ae e rfl).trans a1, (y_fe e rfl).trans a2, a3, a, hp, (y_fe e rfl).trans a6, a7, a8, h40⟩
def y_em (k : Nat) : aM := match k with
  | 0 => a_m240
  | 1 => a_m239
  | 2 => a_m238
  | 3 => a_m239
  | _ => a_m238
def y_epc (k : Nat) : Nat := match k with
  | 0 => 0
  | 1 => 0
  | 2 => 0
  | _ => 6
def y_el (k : Nat) (way : Int32) (b : Bool) (o3 : Option Value) : aL := match k with
  | 0 => [some (.ref 155), some (.int way), none, none]
  | 1 => [some (.ref 155), some (.int way), none, none]
  | 2 => [some (.ref 155), some (.int way), none, none]
  | _ => [some (.ref 155), some (.int way), some (.int (y_01 b)), o3]
def y_EV (X : aX) (C S d n : Nat) : Prop := ∀ (k : Nat) (h : aH) (K0 : Option Value → aH → Nat → Nat → Prop) (sg : List Int32) (r p q st : Nat) (way : Int32) (b : Bool) (o3 : Option Value), k < 5 → y_es h sg r p st → y_E (y_tx sg r) st n k p q → q ≤ 40 →
  (∀ (b' : Bool) (H : aH), y_fr h H [19617] [] → y_es H sg r q st → K0 (some (.int (y_01 b'))) H C S) →
  aOK s_P X (n + d + 2) (y_em k) (y_epc k) (y_el k way b o3) [] h C S K0
theorem y_c40 : ((Int8.ofInt 40).toInt32).toInt = ((40 : Nat) : Int) := by decide
theorem y_01b (b : Bool) : 0 ≤ (y_01 b).toInt ∧ (y_01 b).toInt ≤ 1 := by cases b <;> decide
section WG
variable {X : aX} {C S d n : Nat} {K0 : Option Value → aH → Nat → Nat → Prop} {h : aH} {sg : List Int32} {r p q st : Nat} {way : Int32}
theorem y_ev_thing (ih : y_EV X C S d n) (s : y_es h sg r p st) (hE : y_E (y_tx sg r) st (n + 1) 0 p q) (q40 : q ≤ 40) (hK : ∀ (b' : Bool) (H : aH), y_fr h H [19617] [] → y_es H sg r q st → K0 (some (.int (y_01 b'))) H C S) : aOK s_P X (n + 1 + d + 2) a_m240 0 [some (.ref 155), some (.int way), none, none] [] h C S K0 := by
  have lt := (y_E_lt (T := y_tx sg r) (st := st) (n + 1)).1 0 (by decide) hE
  have T47 : ∀ {G : aH} {c : Int32} {b : Bool}, y_fr h G [19617] [] → y_es G sg r q st → aOK s_P X (n + 1 + d + 2) a_m240 39 [some (.ref 155), some (.int way), some (.int c), none] [.int (y_01 b)] G C S K0 := by
    intro G c b e s2
    refine w_go z_hl [] [] 40 e.1 ?_
    refine ⟨fun _ => ⟨by decide, fun H hH => ?_⟩, fun _ => ⟨by decide, fun H hH => ?_⟩⟩
    · have f : y_fr G H [] [] := y_st (y_rf e.1) hH (by repeat (first | exact w_nil | refine w_cons (Or.inl (y_m rfl)) ?_ | refine w_cons (Or.inr (by assumption)) ?_)) (by repeat (first | exact w_nil | refine w_cons (Or.inl (y_m rfl)) ?_ | refine w_cons (Or.inr (by assumption)) ?_))
      exact hK false H (y_sq e f rfl rfl) (y_es_fr s2 f)
    · have f : y_fr G H [] [] := y_st (y_rf e.1) hH (by repeat (first | exact w_nil | refine w_cons (Or.inl (y_m rfl)) ?_ | refine w_cons (Or.inr (by assumption)) ?_)) (by repeat (first | exact w_nil | refine w_cons (Or.inl (y_m rfl)) ?_ | refine w_cons (Or.inr (by assumption)) ?_))
      exact hK true H (y_sq e f rfl rfl) (y_es_fr s2 f)
  have T59 : ∀ {G : aH} {c : Int32} {b : Bool} {r1 : Nat}, y_fr h G [19617] [] → y_es G sg r r1 st → q = r1 + 1 → aOK s_P X (n + 1 + d + 2) a_m240 59 [some (.ref 155), some (.int way), some (.int c), none] [.int (y_01 b)] G C S K0 := by
    intro G c b r1 e s2 hq
    obtain ⟨rI, pI, sI, hr, a1, a2, a3, a4, a5, a6, a7, a8, a9⟩ := id s2
    have inc : (pI + Int32.ofInt 1).toInt = ((r1 + 1 : Nat) : Int) := by rw [y_inc (by omega), a5]; rfl
    refine w_go z_hl [] [] 40 e.1 ?_
    intro x hx _ _
    obtain rfl := y_fi a4 hx
    refine ⟨rfl, y_zini (by show 0 ≤ (pI + Int32.ofInt 1).toInt; omega) (by show (pI + Int32.ofInt 1).toInt ≤ 40; omega), y_01b b, fun H hH => ?_⟩
    have f : y_fr G H [19617] [] := y_st (y_mo (y_rf e.1) rfl rfl) hH (by repeat (first | exact w_nil | refine w_cons (Or.inl (y_m rfl)) ?_ | refine w_cons (Or.inr (by assumption)) ?_)) (by repeat (first | exact w_nil | refine w_cons (Or.inl (y_m rfl)) ?_ | refine w_cons (Or.inr (by assumption)) ?_))
    subst hq
    exact hK b H (y_sq e f rfl rfl) (y_es_at s2 f (hH.2.1 19617 _ rfl) inc (by omega))
  obtain ⟨rI, pI, sI, hr, a1, a2, a3, a4, a5, a6, a7, a8, a9⟩ := id s
  have ix : ((Int8.ofInt 40).toInt32 * rI + pI).toInt = ((40 * r + p : Nat) : Int) := y_addS _ (y_mulS _ y_c40 a3 rfl (by omega)) a5 rfl (by omega)
  have cx := y_cl1 ix
  have bx : 0 ≤ ((Int8.ofInt 40).toInt32 * rI + pI).toInt ∧ ((Int8.ofInt 40).toInt32 * rI + pI).toInt < ((520 : Nat) : Int) := by omega
  have inc : (pI + Int32.ofInt 1).toInt = ((p + 1 : Nat) : Int) := by rw [y_inc (by omega), a5]; rfl
  have T28 : ∀ {G : aH} {c : Int32}, y_fr h G [19617] [] → y_es G sg r (p + 1) st → c.toInt = y_tx sg r p → aOK s_P X (n + 1 + d + 2) a_m240 28 [some (.ref 155), some (.int way), some (.int c), none] [] G C S K0 := by
    intro G c e s2 hc
    have c33 : ((Int8.ofInt 33).toInt32).toInt = 33 := by decide
    have c40 : ((Int8.ofInt 40).toInt32).toInt = 40 := by decide
    refine w_go z_hl [] [240, 238] 40 e.1 ?_
    refine ⟨fun q1 => ⟨fun q2 => ?_, fun q2 => fun H hH => ?_⟩, fun q1 => fun H hH => ?_⟩
    · -- a letter
      have h1 : c.toInt ≠ ((Int8.ofInt 33).toInt32).toInt := (y_ci .ne _ _).mp q1
      have h2 : c.toInt ≠ ((Int8.ofInt 40).toInt32).toInt := (y_ci .ne _ _).mp q2
      rw [c33] at h1
      rw [c40] at h2
      have hq : q = p + 1 := by
        rcases hE with ⟨x, -⟩ | ⟨-, x⟩ | ⟨x, -⟩
        · omega
        · exact x
        · omega
      subst hq
      refine ⟨fun _ => ⟨by decide, by decide, fun H hH => ?_⟩, fun _ => ⟨by decide, by decide, fun H hH => ?_⟩⟩
      · have f : y_fr G H [] [] := y_st (y_rf e.1) hH (by repeat (first | exact w_nil | refine w_cons (Or.inl (y_m rfl)) ?_ | refine w_cons (Or.inr (by assumption)) ?_)) (by repeat (first | exact w_nil | refine w_cons (Or.inl (y_m rfl)) ?_ | refine w_cons (Or.inr (by assumption)) ?_))
        exact hK false H (y_sq e f rfl rfl) (y_es_fr s2 f)
      · have f : y_fr G H [] [] := y_st (y_rf e.1) hH (by repeat (first | exact w_nil | refine w_cons (Or.inl (y_m rfl)) ?_ | refine w_cons (Or.inr (by assumption)) ?_)) (by repeat (first | exact w_nil | refine w_cons (Or.inl (y_m rfl)) ?_ | refine w_cons (Or.inr (by assumption)) ?_))
        exact hK true H (y_sq e f rfl rfl) (y_es_fr s2 f)
    · -- in brackets
      have h2 : ¬ (c.toInt ≠ ((Int8.ofInt 40).toInt32).toInt) := y_cif q2
      rw [c40] at h2
      obtain ⟨r1, hE1, hq⟩ : ∃ r1, y_E (y_tx sg r) st n 2 (p + 1) r1 ∧ q = r1 + 1 := by
        rcases hE with ⟨x, -⟩ | ⟨x, -⟩ | ⟨-, r1, x, -, y⟩
        · omega
        · omega
        · exact ⟨r1, x, y⟩
      have f : y_fr G H [] [] := y_st (y_rf e.1) hH (by repeat (first | exact w_nil | refine w_cons (Or.inl (y_m rfl)) ?_ | refine w_cons (Or.inr (by assumption)) ?_)) (by repeat (first | exact w_nil | refine w_cons (Or.inl (y_m rfl)) ?_ | refine w_cons (Or.inr (by assumption)) ?_))
      refine aOK_deep (d := n + d + 2) (by omega) (ih 2 H _ sg r (p + 1) r1 st way true none (by decide) (y_es_fr s2 f) hE1 (by omega) (fun b' H2 f2 s3 => ⟨fun n e => (by cases e), ?_⟩))
      exact T59 (y_sq (y_sq e f rfl rfl) f2 rfl rfl) s3 hq
    · -- not
      have h1 : ¬ (c.toInt ≠ ((Int8.ofInt 33).toInt32).toInt) := y_cif q1
      rw [c33] at h1
      have hE1 : y_E (y_tx sg r) st n 0 (p + 1) q := by
        rcases hE with ⟨-, x⟩ | ⟨x, -⟩ | ⟨x, -⟩
        · exact x
        · omega
        · omega
      have f : y_fr G H [] [] := y_st (y_rf e.1) hH (by repeat (first | exact w_nil | refine w_cons (Or.inl (y_m rfl)) ?_ | refine w_cons (Or.inr (by assumption)) ?_)) (by repeat (first | exact w_nil | refine w_cons (Or.inl (y_m rfl)) ?_ | refine w_cons (Or.inr (by assumption)) ?_))
      refine aOK_deep (d := n + d + 2) (by omega) (ih 0 H _ sg r (p + 1) q st way true none (by decide) (y_es_fr s2 f) hE1 q40 (fun b' H2 f2 s3 => ⟨fun n e => (by cases e), ?_⟩))
      exact T47 (y_sq (y_sq e f rfl rfl) f2 rfl rfl) s3
  refine w_go z_hl [28] [] 40 hr ?_
  intro x hx _ _
  obtain rfl := y_fi a2 hx
  intro y hy _ _
  obtain rfl := y_fi a4 hy
  refine ⟨bx, fun l hl len bb => ?_⟩
  obtain rfl := y_ai a1 hl
  refine ⟨rfl, y_zini (by show 0 ≤ (pI + Int32.ofInt 1).toInt; omega) (by show (pI + Int32.ofInt 1).toInt ≤ 40; omega), fun H hH => ?_⟩
  have f : y_fr h H [19617] [] := y_st (y_mo (y_rf hr) rfl rfl) hH (by repeat (first | exact w_nil | refine w_cons (Or.inl (y_m rfl)) ?_ | refine w_cons (Or.inr (by assumption)) ?_)) (by repeat (first | exact w_nil | refine w_cons (Or.inl (y_m rfl)) ?_ | refine w_cons (Or.inr (by assumption)) ?_))
  refine T28 f (y_es_at s f (hH.2.1 19617 _ rfl) inc (by omega)) ?_
  rw [cx]
  rfl
theorem y_ev_every (ih : y_EV X C S d n) (s : y_es h sg r p st) (hE : y_E (y_tx sg r) st (n + 1) 1 p q) (q40 : q ≤ 40) (hK : ∀ (b' : Bool) (H : aH), y_fr h H [19617] [] → y_es H sg r q st → K0 (some (.int (y_01 b'))) H C S) : aOK s_P X (n + 1 + d + 2) a_m239 0 [some (.ref 155), some (.int way), none, none] [] h C S K0 := by
  obtain ⟨r1, hE1, hE2⟩ := hE
  have le := (y_E_lt (T := y_tx sg r) (st := st) n).2.1 hE2
  obtain ⟨hr, -, -⟩ := y_es_hr s
  have T5 : ∀ {G : aH} {b : Bool}, y_fr h G [19617] [] → y_es G sg r r1 st → aOK s_P X (n + 1 + d + 2) a_m239 5 [some (.ref 155), some (.int way), none, none] [.int (y_01 b)] G C S K0 := by
    intro G b e s2
    refine w_go z_hl [6] [] 40 e.1 ?_
    intro H hH
    have f : y_fr G H [] [] := y_st (y_rf e.1) hH (by repeat (first | exact w_nil | refine w_cons (Or.inl (y_m rfl)) ?_ | refine w_cons (Or.inr (by assumption)) ?_)) (by repeat (first | exact w_nil | refine w_cons (Or.inl (y_m rfl)) ?_ | refine w_cons (Or.inr (by assumption)) ?_))
    exact aOK_deep (d := n + d + 2) (by omega) (ih 3 H _ sg r r1 q st way b none (by decide) (y_es_fr s2 f) hE2 q40 (fun b' H2 f2 s3 => hK b' H2 (y_sq (y_sq e f rfl rfl) f2 rfl rfl) s3))
  refine w_go z_hl [] [240] 40 hr ?_
  intro H hH
  have f : y_fr h H [] [] := y_st (y_rf hr) hH (by repeat (first | exact w_nil | refine w_cons (Or.inl (y_m rfl)) ?_ | refine w_cons (Or.inr (by assumption)) ?_)) (by repeat (first | exact w_nil | refine w_cons (Or.inl (y_m rfl)) ?_ | refine w_cons (Or.inr (by assumption)) ?_))
  refine aOK_deep (d := n + d + 2) (by omega) (ih 0 H _ sg r p r1 st way true none (by decide) (y_es_fr s f) hE1 (by omega) (fun b' H2 f2 s3 => ⟨fun n e => (by cases e), ?_⟩))
  exact T5 (y_sq (y_mo f rfl rfl) f2 rfl rfl) s3
theorem y_ev_and (ih : y_EV X C S d n) {b : Bool} {o3 : Option Value} (s : y_es h sg r p st) (hE : y_E (y_tx sg r) st (n + 1) 3 p q) (q40 : q ≤ 40) (hK : ∀ (b' : Bool) (H : aH), y_fr h H [19617] [] → y_es H sg r q st → K0 (some (.int (y_01 b'))) H C S) : aOK s_P X (n + 1 + d + 2) a_m239 6 [some (.ref 155), some (.int way), some (.int (y_01 b)), o3] [] h C S K0 := by
  obtain ⟨rI, pI, sI, hr, a1, a2, a3, a4, a5, a6, a7, a8, a9⟩ := id s
  have ix : ((Int8.ofInt 40).toInt32 * rI + pI).toInt = ((40 * r + p : Nat) : Int) := y_addS _ (y_mulS _ y_c40 a3 rfl (by omega)) a5 rfl (by omega)
  have cx := y_cl1 ix
  have bx : 0 ≤ ((Int8.ofInt 40).toInt32 * rI + pI).toInt ∧ ((Int8.ofInt 40).toInt32 * rI + pI).toInt < ((520 : Nat) : Int) := by omega
  have c38 : ((Int8.ofInt 38).toInt32).toInt = 38 := by decide
  have T72 : ∀ {G : aH}, y_fr h G [] [] → ¬ (y_tx sg r p = 38 ∧ p < st) → aOK s_P X (n + 1 + d + 2) a_m239 72 [some (.ref 155), some (.int way), some (.int (y_01 b)), o3] [] G C S K0 := by
    intro G e hne
    have hq : q = p := by
      rcases hE with ⟨-, x⟩ | ⟨x, y, -⟩
      · exact x
      · exact absurd ⟨x, y⟩ hne
    subst hq
    refine w_go z_hl [] [] 40 e.1 ?_
    exact ⟨y_01b b, fun H hH => hK b H (y_mo (y_st e hH (by repeat (first | exact w_nil | refine w_cons (Or.inl (y_m rfl)) ?_ | refine w_cons (Or.inr (by assumption)) ?_)) (by repeat (first | exact w_nil | refine w_cons (Or.inl (y_m rfl)) ?_ | refine w_cons (Or.inr (by assumption)) ?_))) rfl rfl) (y_es_fr s (y_st e hH (by repeat (first | exact w_nil | refine w_cons (Or.inl (y_m rfl)) ?_ | refine w_cons (Or.inr (by assumption)) ?_)) (by repeat (first | exact w_nil | refine w_cons (Or.inl (y_m rfl)) ?_ | refine w_cons (Or.inr (by assumption)) ?_))))⟩
  have T39 : ∀ {G : aH}, y_fr h G [] [] → y_tx sg r p = 38 → p < st → aOK s_P X (n + 1 + d + 2) a_m239 39 [some (.ref 155), some (.int way), some (.int (y_01 b)), o3] [] G C S K0 := by
    intro G e hc hst
    obtain ⟨s1, hE1, hE2⟩ : ∃ s1, y_E (y_tx sg r) st n 0 (p + 1) s1 ∧ y_E (y_tx sg r) st n 3 s1 q := by
      rcases hE with ⟨x, -⟩ | ⟨-, -, s1, x, y⟩
      · exact absurd ⟨hc, hst⟩ x
      · exact ⟨s1, x, y⟩
    have lt := (y_E_lt (T := y_tx sg r) (st := st) n).1 0 (by decide) hE1
    have le := (y_E_lt (T := y_tx sg r) (st := st) n).2.1 hE2
    have inc : (pI + Int32.ofInt 1).toInt = ((p + 1 : Nat) : Int) := by rw [y_inc (by omega), a5]; rfl
    have go : ∀ {G : aH} {b2 : Bool} {x3 : Int32}, y_fr h G [19617] [] → y_es G sg r s1 st → aOK s_P X (n + 1 + d + 2) a_m239 6 [some (.ref 155), some (.int way), some (.int (y_01 b2)), some (.int x3)] [] G C S K0 := by
      intro G b2 x3 e2 s2
      exact aOK_deep (d := n + d + 2) (by omega) (ih 3 G _ sg r s1 q st way b2 _ (by decide) s2 hE2 q40 (fun b' H2 f2 s3 => hK b' H2 (y_sq e2 f2 rfl rfl) s3))
    have T54 : ∀ {G : aH} {b2 : Bool}, y_fr h G [19617] [] → y_es G sg r s1 st → aOK s_P X (n + 1 + d + 2) a_m239 54 [some (.ref 155), some (.int way), some (.int (y_01 b)), o3] [.int (y_01 b2)] G C S K0 := by
      intro G b2 e2 s2
      refine w_go z_hl [6] [] 40 e2.1 ?_
      refine ⟨fun _ => fun H hH => ?_, fun _ => ⟨fun _ => fun H hH => ?_, fun _ => fun H hH => ?_⟩⟩
      · have f : y_fr G H [] [] := y_st (y_rf e2.1) hH (by repeat (first | exact w_nil | refine w_cons (Or.inl (y_m rfl)) ?_ | refine w_cons (Or.inr (by assumption)) ?_)) (by repeat (first | exact w_nil | refine w_cons (Or.inl (y_m rfl)) ?_ | refine w_cons (Or.inr (by assumption)) ?_))
        exact go (b2 := false) (y_sq e2 f rfl rfl) (y_es_fr s2 f)
      · have f : y_fr G H [] [] := y_st (y_rf e2.1) hH (by repeat (first | exact w_nil | refine w_cons (Or.inl (y_m rfl)) ?_ | refine w_cons (Or.inr (by assumption)) ?_)) (by repeat (first | exact w_nil | refine w_cons (Or.inl (y_m rfl)) ?_ | refine w_cons (Or.inr (by assumption)) ?_))
        exact go (b2 := false) (y_sq e2 f rfl rfl) (y_es_fr s2 f)
      · have f : y_fr G H [] [] := y_st (y_rf e2.1) hH (by repeat (first | exact w_nil | refine w_cons (Or.inl (y_m rfl)) ?_ | refine w_cons (Or.inr (by assumption)) ?_)) (by repeat (first | exact w_nil | refine w_cons (Or.inl (y_m rfl)) ?_ | refine w_cons (Or.inr (by assumption)) ?_))
        exact go (b2 := true) (y_sq e2 f rfl rfl) (y_es_fr s2 f)
    refine w_go z_hl [] [240] 40 e.1 ?_
    intro x hx _ _
    obtain rfl := y_fi ((y_fe e rfl).trans a4) hx
    refine ⟨rfl, y_zini (by show 0 ≤ (pI + Int32.ofInt 1).toInt; omega) (by show (pI + Int32.ofInt 1).toInt ≤ 40; omega), fun H hH => ?_⟩
    have f : y_fr G H [19617] [] := y_st (y_mo (y_rf e.1) rfl rfl) hH (by repeat (first | exact w_nil | refine w_cons (Or.inl (y_m rfl)) ?_ | refine w_cons (Or.inr (by assumption)) ?_)) (by repeat (first | exact w_nil | refine w_cons (Or.inl (y_m rfl)) ?_ | refine w_cons (Or.inr (by assumption)) ?_))
    have e2 : y_fr h H [19617] [] := y_sq (y_mo e rfl rfl) f rfl rfl
    refine aOK_deep (d := n + d + 2) (by omega) (ih 0 H _ sg r (p + 1) s1 st way true none (by decide) (y_es_at s e2 (hH.2.1 19617 _ rfl) inc (by omega)) hE1 (by omega) (fun b' H2 f2 s3 => ⟨fun n e => (by cases e), ?_⟩))
    exact T54 (y_sq e2 f2 rfl rfl) s3
  refine w_go z_hl [39, 72] [] 40 hr ?_
  intro x hx _ _
  obtain rfl := y_fi a2 hx
  intro y hy _ _
  obtain rfl := y_fi a4 hy
  refine ⟨bx, fun l hl len bb => ?_⟩
  obtain rfl := y_ai a1 hl
  refine ⟨fun q1 => fun H hH => ?_, fun q1 => ?_⟩
  · have h1 : (sg.getD ((Int8.ofInt 40).toInt32 * rI + pI).toNatClampNeg 0).toInt ≠ ((Int8.ofInt 38).toInt32).toInt := (y_ci .ne _ _).mp q1
    rw [cx, c38] at h1
    exact T72 (y_st (y_rf hr) hH (by repeat (first | exact w_nil | refine w_cons (Or.inl (y_m rfl)) ?_ | refine w_cons (Or.inr (by assumption)) ?_)) (by repeat (first | exact w_nil | refine w_cons (Or.inl (y_m rfl)) ?_ | refine w_cons (Or.inr (by assumption)) ?_))) (fun x => h1 x.1)
  · have h1 : ¬ ((sg.getD ((Int8.ofInt 40).toInt32 * rI + pI).toNatClampNeg 0).toInt ≠ ((Int8.ofInt 38).toInt32).toInt) := y_cif q1
    rw [cx, c38] at h1
    intro z hz _ _
    obtain rfl := y_fi a6 hz
    refine ⟨fun q2 => fun H hH => ?_, fun q2 => fun H hH => ?_⟩
    · have h2 : sI.toInt ≤ pI.toInt := (y_ci .ge _ _).mp q2
      exact T72 (y_st (y_rf hr) hH (by repeat (first | exact w_nil | refine w_cons (Or.inl (y_m rfl)) ?_ | refine w_cons (Or.inr (by assumption)) ?_)) (by repeat (first | exact w_nil | refine w_cons (Or.inl (y_m rfl)) ?_ | refine w_cons (Or.inr (by assumption)) ?_))) (fun x => by have := x.2; omega)
    · have h2 : ¬ (sI.toInt ≤ pI.toInt) := y_cif q2
      exact T39 (y_st (y_rf hr) hH (by repeat (first | exact w_nil | refine w_cons (Or.inl (y_m rfl)) ?_ | refine w_cons (Or.inr (by assumption)) ?_)) (by repeat (first | exact w_nil | refine w_cons (Or.inl (y_m rfl)) ?_ | refine w_cons (Or.inr (by assumption)) ?_))) (Decidable.not_not.mp h1) (by omega)
theorem y_ev_event (ih : y_EV X C S d n) (s : y_es h sg r p st) (hE : y_E (y_tx sg r) st (n + 1) 2 p q) (q40 : q ≤ 40) (hK : ∀ (b' : Bool) (H : aH), y_fr h H [19617] [] → y_es H sg r q st → K0 (some (.int (y_01 b'))) H C S) : aOK s_P X (n + 1 + d + 2) a_m238 0 [some (.ref 155), some (.int way), none, none] [] h C S K0 := by
  obtain ⟨r1, hE1, hE2⟩ := hE
  have le := (y_E_lt (T := y_tx sg r) (st := st) n).2.2 hE2
  obtain ⟨hr, -, -⟩ := y_es_hr s
  have T5 : ∀ {G : aH} {b : Bool}, y_fr h G [19617] [] → y_es G sg r r1 st → aOK s_P X (n + 1 + d + 2) a_m238 5 [some (.ref 155), some (.int way), none, none] [.int (y_01 b)] G C S K0 := by
    intro G b e s2
    refine w_go z_hl [6] [] 40 e.1 ?_
    intro H hH
    have f : y_fr G H [] [] := y_st (y_rf e.1) hH (by repeat (first | exact w_nil | refine w_cons (Or.inl (y_m rfl)) ?_ | refine w_cons (Or.inr (by assumption)) ?_)) (by repeat (first | exact w_nil | refine w_cons (Or.inl (y_m rfl)) ?_ | refine w_cons (Or.inr (by assumption)) ?_))
    exact aOK_deep (d := n + d + 2) (by omega) (ih 4 H _ sg r r1 q st way b none (by decide) (y_es_fr s2 f) hE2 q40 (fun b' H2 f2 s3 => hK b' H2 (y_sq (y_sq e f rfl rfl) f2 rfl rfl) s3))
  refine w_go z_hl [] [239] 40 hr ?_
  intro H hH
  have f : y_fr h H [] [] := y_st (y_rf hr) hH (by repeat (first | exact w_nil | refine w_cons (Or.inl (y_m rfl)) ?_ | refine w_cons (Or.inr (by assumption)) ?_)) (by repeat (first | exact w_nil | refine w_cons (Or.inl (y_m rfl)) ?_ | refine w_cons (Or.inr (by assumption)) ?_))
  refine aOK_deep (d := n + d + 2) (by omega) (ih 1 H _ sg r p r1 st way true none (by decide) (y_es_fr s f) hE1 (by omega) (fun b' H2 f2 s3 => ⟨fun n e => (by cases e), ?_⟩))
  exact T5 (y_sq (y_mo f rfl rfl) f2 rfl rfl) s3
theorem y_ev_or (ih : y_EV X C S d n) {b : Bool} {o3 : Option Value} (s : y_es h sg r p st) (hE : y_E (y_tx sg r) st (n + 1) 4 p q) (q40 : q ≤ 40) (hK : ∀ (b' : Bool) (H : aH), y_fr h H [19617] [] → y_es H sg r q st → K0 (some (.int (y_01 b'))) H C S) : aOK s_P X (n + 1 + d + 2) a_m238 6 [some (.ref 155), some (.int way), some (.int (y_01 b)), o3] [] h C S K0 := by
  obtain ⟨rI, pI, sI, hr, a1, a2, a3, a4, a5, a6, a7, a8, a9⟩ := id s
  have ix : ((Int8.ofInt 40).toInt32 * rI + pI).toInt = ((40 * r + p : Nat) : Int) := y_addS _ (y_mulS _ y_c40 a3 rfl (by omega)) a5 rfl (by omega)
  have cx := y_cl1 ix
  have bx : 0 ≤ ((Int8.ofInt 40).toInt32 * rI + pI).toInt ∧ ((Int8.ofInt 40).toInt32 * rI + pI).toInt < ((520 : Nat) : Int) := by omega
  have c124 : ((Int8.ofInt 124).toInt32).toInt = 124 := by decide
  have T72 : ∀ {G : aH}, y_fr h G [] [] → ¬ (y_tx sg r p = 124 ∧ p < st) → aOK s_P X (n + 1 + d + 2) a_m238 72 [some (.ref 155), some (.int way), some (.int (y_01 b)), o3] [] G C S K0 := by
    intro G e hne
    have hq : q = p := by
      rcases hE with ⟨-, x⟩ | ⟨x, y, -⟩
      · exact x
      · exact absurd ⟨x, y⟩ hne
    subst hq
    refine w_go z_hl [] [] 40 e.1 ?_
    exact ⟨y_01b b, fun H hH => hK b H (y_mo (y_st e hH (by repeat (first | exact w_nil | refine w_cons (Or.inl (y_m rfl)) ?_ | refine w_cons (Or.inr (by assumption)) ?_)) (by repeat (first | exact w_nil | refine w_cons (Or.inl (y_m rfl)) ?_ | refine w_cons (Or.inr (by assumption)) ?_))) rfl rfl) (y_es_fr s (y_st e hH (by repeat (first | exact w_nil | refine w_cons (Or.inl (y_m rfl)) ?_ | refine w_cons (Or.inr (by assumption)) ?_)) (by repeat (first | exact w_nil | refine w_cons (Or.inl (y_m rfl)) ?_ | refine w_cons (Or.inr (by assumption)) ?_))))⟩
  have T39 : ∀ {G : aH}, y_fr h G [] [] → y_tx sg r p = 124 → p < st → aOK s_P X (n + 1 + d + 2) a_m238 39 [some (.ref 155), some (.int way), some (.int (y_01 b)), o3] [] G C S K0 := by
    intro G e hc hst
    obtain ⟨s1, hE1, hE2⟩ : ∃ s1, y_E (y_tx sg r) st n 1 (p + 1) s1 ∧ y_E (y_tx sg r) st n 4 s1 q := by
      rcases hE with ⟨x, -⟩ | ⟨-, -, s1, x, y⟩
      · exact absurd ⟨hc, hst⟩ x
      · exact ⟨s1, x, y⟩
    have lt := (y_E_lt (T := y_tx sg r) (st := st) n).1 1 (by decide) hE1
    have le := (y_E_lt (T := y_tx sg r) (st := st) n).2.2 hE2
    have inc : (pI + Int32.ofInt 1).toInt = ((p + 1 : Nat) : Int) := by rw [y_inc (by omega), a5]; rfl
    have go : ∀ {G : aH} {b2 : Bool} {x3 : Int32}, y_fr h G [19617] [] → y_es G sg r s1 st → aOK s_P X (n + 1 + d + 2) a_m238 6 [some (.ref 155), some (.int way), some (.int (y_01 b2)), some (.int x3)] [] G C S K0 := by
      intro G b2 x3 e2 s2
      exact aOK_deep (d := n + d + 2) (by omega) (ih 4 G _ sg r s1 q st way b2 _ (by decide) s2 hE2 q40 (fun b' H2 f2 s3 => hK b' H2 (y_sq e2 f2 rfl rfl) s3))
    have T54 : ∀ {G : aH} {b2 : Bool}, y_fr h G [19617] [] → y_es G sg r s1 st → aOK s_P X (n + 1 + d + 2) a_m238 54 [some (.ref 155), some (.int way), some (.int (y_01 b)), o3] [.int (y_01 b2)] G C S K0 := by
      intro G b2 e2 s2
      refine w_go z_hl [6] [] 40 e2.1 ?_
      refine ⟨fun _ => fun H hH => ?_, fun _ => ⟨fun _ => fun H hH => ?_, fun _ => fun H hH => ?_⟩⟩
      · have f : y_fr G H [] [] := y_st (y_rf e2.1) hH (by repeat (first | exact w_nil | refine w_cons (Or.inl (y_m rfl)) ?_ | refine w_cons (Or.inr (by assumption)) ?_)) (by repeat (first | exact w_nil | refine w_cons (Or.inl (y_m rfl)) ?_ | refine w_cons (Or.inr (by assumption)) ?_))
        exact go (b2 := true) (y_sq e2 f rfl rfl) (y_es_fr s2 f)
      · have f : y_fr G H [] [] := y_st (y_rf e2.1) hH (by repeat (first | exact w_nil | refine w_cons (Or.inl (y_m rfl)) ?_ | refine w_cons (Or.inr (by assumption)) ?_)) (by repeat (first | exact w_nil | refine w_cons (Or.inl (y_m rfl)) ?_ | refine w_cons (Or.inr (by assumption)) ?_))
        exact go (b2 := false) (y_sq e2 f rfl rfl) (y_es_fr s2 f)
      · have f : y_fr G H [] [] := y_st (y_rf e2.1) hH (by repeat (first | exact w_nil | refine w_cons (Or.inl (y_m rfl)) ?_ | refine w_cons (Or.inr (by assumption)) ?_)) (by repeat (first | exact w_nil | refine w_cons (Or.inl (y_m rfl)) ?_ | refine w_cons (Or.inr (by assumption)) ?_))
        exact go (b2 := true) (y_sq e2 f rfl rfl) (y_es_fr s2 f)
    refine w_go z_hl [] [239] 40 e.1 ?_
    intro x hx _ _
    obtain rfl := y_fi ((y_fe e rfl).trans a4) hx
    refine ⟨rfl, y_zini (by show 0 ≤ (pI + Int32.ofInt 1).toInt; omega) (by show (pI + Int32.ofInt 1).toInt ≤ 40; omega), fun H hH => ?_⟩
    have f : y_fr G H [19617] [] := y_st (y_mo (y_rf e.1) rfl rfl) hH (by repeat (first | exact w_nil | refine w_cons (Or.inl (y_m rfl)) ?_ | refine w_cons (Or.inr (by assumption)) ?_)) (by repeat (first | exact w_nil | refine w_cons (Or.inl (y_m rfl)) ?_ | refine w_cons (Or.inr (by assumption)) ?_))
    have e2 : y_fr h H [19617] [] := y_sq (y_mo e rfl rfl) f rfl rfl
    refine aOK_deep (d := n + d + 2) (by omega) (ih 1 H _ sg r (p + 1) s1 st way true none (by decide) (y_es_at s e2 (hH.2.1 19617 _ rfl) inc (by omega)) hE1 (by omega) (fun b' H2 f2 s3 => ⟨fun n e => (by cases e), ?_⟩))
    exact T54 (y_sq e2 f2 rfl rfl) s3
  refine w_go z_hl [39, 72] [] 40 hr ?_
  intro x hx _ _
  obtain rfl := y_fi a2 hx
  intro y hy _ _
  obtain rfl := y_fi a4 hy
  refine ⟨bx, fun l hl len bb => ?_⟩
  obtain rfl := y_ai a1 hl
  refine ⟨fun q1 => fun H hH => ?_, fun q1 => ?_⟩
  · have h1 : (sg.getD ((Int8.ofInt 40).toInt32 * rI + pI).toNatClampNeg 0).toInt ≠ ((Int8.ofInt 124).toInt32).toInt := (y_ci .ne _ _).mp q1
    rw [cx, c124] at h1
    exact T72 (y_st (y_rf hr) hH (by repeat (first | exact w_nil | refine w_cons (Or.inl (y_m rfl)) ?_ | refine w_cons (Or.inr (by assumption)) ?_)) (by repeat (first | exact w_nil | refine w_cons (Or.inl (y_m rfl)) ?_ | refine w_cons (Or.inr (by assumption)) ?_))) (fun x => h1 x.1)
  · have h1 : ¬ ((sg.getD ((Int8.ofInt 40).toInt32 * rI + pI).toNatClampNeg 0).toInt ≠ ((Int8.ofInt 124).toInt32).toInt) := y_cif q1
    rw [cx, c124] at h1
    intro z hz _ _
    obtain rfl := y_fi a6 hz
    refine ⟨fun q2 => fun H hH => ?_, fun q2 => fun H hH => ?_⟩
    · have h2 : sI.toInt ≤ pI.toInt := (y_ci .ge _ _).mp q2
      exact T72 (y_st (y_rf hr) hH (by repeat (first | exact w_nil | refine w_cons (Or.inl (y_m rfl)) ?_ | refine w_cons (Or.inr (by assumption)) ?_)) (by repeat (first | exact w_nil | refine w_cons (Or.inl (y_m rfl)) ?_ | refine w_cons (Or.inr (by assumption)) ?_))) (fun x => by have := x.2; omega)
    · have h2 : ¬ (sI.toInt ≤ pI.toInt) := y_cif q2
      exact T39 (y_st (y_rf hr) hH (by repeat (first | exact w_nil | refine w_cons (Or.inl (y_m rfl)) ?_ | refine w_cons (Or.inr (by assumption)) ?_)) (by repeat (first | exact w_nil | refine w_cons (Or.inl (y_m rfl)) ?_ | refine w_cons (Or.inr (by assumption)) ?_))) (Decidable.not_not.mp h1) (by omega)
theorem y_evs : ∀ (n : Nat), y_EV X C S d n
  | 0 => fun k h K0 sg r p q st way b o3 _ _ hE => hE.elim
  | n + 1 => fun k h K0 sg r p q st way b o3 hk s hE q40 hK => by
    have ih := y_evs n
    match k, hk, hE with
    | 0, _, hE => exact y_ev_thing ih s hE q40 hK
    | 1, _, hE => exact y_ev_every ih s hE q40 hK
    | 2, _, hE => exact y_ev_event ih s hE q40 hK
    | 3, _, hE => exact y_ev_and ih s hE q40 hK
    | 4, _, hE => exact y_ev_or ih s hE q40 hK
theorem y_isOf {h : aH} (hr : w_hr z_D h) {rI fI tI way : Int32} {r b f : Nat} {sg : List Int32} (g : w_a h 170 = some (0, .inl sg)) (h1 : rI.toInt = r) (r11 : r ≤ 11) (h2 : fI.toInt = b) (h3 : tI.toInt = f) (f40 : f ≤ 40) (hE : y_E (y_tx sg r) f 163 2 b f) (hK : ∀ (b' : Bool) (H : aH), y_fr h H [19616, 19617, 19618] [] → K0 (some (.int (y_01 b'))) H C S) : aOK s_P X (d + 166) a_m237 0 [some (.ref 155), some (.int rI), some (.int fI), some (.int tI), some (.int way)] [] h C S K0 := by
  have lt := (y_E_lt (T := y_tx sg r) (st := f) 163).1 2 (by decide) hE
  have T21 : ∀ {G : aH} {b' : Bool}, y_fr h G [19616, 19617, 19618] [] → aOK s_P X (d + 166) a_m237 21 [some (.ref 155), some (.int rI), some (.int fI), some (.int tI), some (.int way)] [.int (y_01 b')] G C S K0 := by
    intro G b' e
    refine w_go z_hl [] [] 40 e.1 ?_
    exact ⟨y_01b b', fun H hH => hK b' H (y_st e hH (by repeat (first | exact w_nil | refine w_cons (Or.inl (y_m rfl)) ?_ | refine w_cons (Or.inr (by assumption)) ?_)) (by repeat (first | exact w_nil | refine w_cons (Or.inl (y_m rfl)) ?_ | refine w_cons (Or.inr (by assumption)) ?_)))⟩
  refine w_go z_hl [] [238] 40 hr ?_
  refine ⟨rfl, y_zini (by show 0 ≤ rI.toInt; omega) (by show rI.toInt ≤ 11; omega), rfl, y_zini (by show 0 ≤ fI.toInt; omega) (by show fI.toInt ≤ 40; omega), rfl, y_zini (by show -1 ≤ tI.toInt; omega) (by show tI.toInt ≤ 40; omega), fun H hH => ?_⟩
  have e : y_fr h H [19616, 19617, 19618] [] := y_st (y_mo (y_rf hr) rfl rfl) hH (by repeat (first | exact w_nil | refine w_cons (Or.inl (y_m rfl)) ?_ | refine w_cons (Or.inr (by assumption)) ?_)) (by repeat (first | exact w_nil | refine w_cons (Or.inl (y_m rfl)) ?_ | refine w_cons (Or.inr (by assumption)) ?_))
  refine aOK_deep (d := 163 + d + 2) (by omega) (y_evs 163 2 H _ sg r b f f way true none (by decide) ⟨rI, fI, tI, e.1, (y_ae e rfl).trans g, hH.2.1 19616 _ rfl, h1, hH.2.1 19617 _ rfl, h2, hH.2.1 19618 _ rfl, h3, r11, by omega⟩ hE f40 (fun b' H2 f2 s3 => ⟨fun n e => (by cases e), ?_⟩))
  exact T21 (y_sq e f2 rfl rfl)
end WG
