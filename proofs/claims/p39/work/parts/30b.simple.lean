/-! ===== v3: the reference's count, many, list, weight, odds, of ===== -/
/-- how many must be looked at -/
def y_mg (a b : Int32) : Nat → Int64 → Int32 → Int32
  | 0, _, _ => (Int8.ofInt (-2)).toInt32
  | n + 1, l, k => if l.toInt ≤ 500000000 then k else y_mg a b n (l * (b - a).toInt64 / b.toInt64) (k + Int32.ofInt 1)
section WG
variable {X : aX} {C S d : Nat} {K0 : Option Value → aH → Nat → Nat → Prop}
theorem y_isMark {h : aH} (hr : w_hr z_D h) {a b : Int32} (yes : ∀ H, y_fr h H [] [] → 1 ≤ a.toInt → a.toInt ≤ b.toInt → b.toInt ≤ 1000000 → K0 (some (.int (y_01 true))) H C S) (no : ∀ H, y_fr h H [] [] → (1 ≤ a.toInt → a.toInt ≤ b.toInt → b.toInt ≤ 1000000 → False) → K0 (some (.int (y_01 false))) H C S) : aOK s_P X (d + 1) a_m266 0 [some (.int a), some (.int b)] [] h C S K0 := by
  have T20 : ∀ {G : aH} {c : Bool}, y_fr h G [] [] → (c = true → 1 ≤ a.toInt ∧ a.toInt ≤ b.toInt ∧ b.toInt ≤ 1000000) → (c = false → 1 ≤ a.toInt → a.toInt ≤ b.toInt → b.toInt ≤ 1000000 → False) → aOK s_P X (d + 1) a_m266 20 [some (.int a), some (.int b)] [.int (y_01 c)] G C S K0 := by
    intro G c e hc hn
    refine w_go z_hl [] [] 30 e.1 ?_
    refine ⟨fun q => ⟨by decide, fun H hH => ?_⟩, fun q => ⟨by decide, fun H hH => ?_⟩⟩
    · cases c with
      | false => exact no H (y_st e hH (by repeat (first | exact w_nil | refine w_cons (Or.inl (y_m rfl)) ?_ | refine w_cons (Or.inr (by assumption)) ?_)) (by repeat (first | exact w_nil | refine w_cons (Or.inl (y_m rfl)) ?_ | refine w_cons (Or.inr (by assumption)) ?_))) (hn rfl)
      | true => exact absurd q (by decide)
    · cases c with
      | true =>
        have := hc rfl
        exact yes H (y_st e hH (by repeat (first | exact w_nil | refine w_cons (Or.inl (y_m rfl)) ?_ | refine w_cons (Or.inr (by assumption)) ?_)) (by repeat (first | exact w_nil | refine w_cons (Or.inl (y_m rfl)) ?_ | refine w_cons (Or.inr (by assumption)) ?_))) this.1 this.2.1 this.2.2
      | false => exact absurd q (by decide)
  have T8 : ∀ {G : aH}, y_fr h G [] [] → 1 ≤ a.toInt → a.toInt ≤ b.toInt → aOK s_P X (d + 1) a_m266 8 [some (.int a), some (.int b)] [.int (y_01 true)] G C S K0 := by
    intro G e a1 ab
    refine w_go z_hl [] [176] 30 e.1 ?_
    refine ⟨fun q => absurd q (by decide), fun _ => fun H hH => ?_⟩
    have e2 := y_st e hH (by repeat (first | exact w_nil | refine w_cons (Or.inl (y_m rfl)) ?_ | refine w_cons (Or.inr (by assumption)) ?_)) (by repeat (first | exact w_nil | refine w_cons (Or.inl (y_m rfl)) ?_ | refine w_cons (Or.inr (by assumption)) ?_))
    refine q_in (v := b.toInt64) (lo := Int64.ofNat 1) (hi := Int64.ofInt 1000000) e2.1 (fun H3 h3 l1 l2 => ⟨fun n e => (by cases e), ?_⟩) (fun H3 h3 l => ⟨fun n e => (by cases e), ?_⟩)
    · rw [y_i2l, y_i64 (by decide) (by decide)] at l2
      exact T20 (c := true) (y_sq e2 h3 rfl rfl) (fun _ => ⟨a1, ab, l2⟩) (fun q => by cases q)
    · rw [y_i2l, y_i64 (by decide) (by decide)] at l
      exact T20 (c := false) (y_sq e2 h3 rfl rfl) (fun q => by cases q) (fun _ _ _ q => l (by show (1 : Int) ≤ _; omega) q)
  have T8n : ∀ {G : aH}, y_fr h G [] [] → (1 ≤ a.toInt → a.toInt ≤ b.toInt → False) → aOK s_P X (d + 1) a_m266 8 [some (.int a), some (.int b)] [.int (y_01 false)] G C S K0 := by
    intro G e hn
    refine w_go z_hl [] [] 30 e.1 ?_
    exact ⟨fun _ => ⟨by decide, fun H hH => no H (y_st e hH (by repeat (first | exact w_nil | refine w_cons (Or.inl (y_m rfl)) ?_ | refine w_cons (Or.inr (by assumption)) ?_)) (by repeat (first | exact w_nil | refine w_cons (Or.inl (y_m rfl)) ?_ | refine w_cons (Or.inr (by assumption)) ?_))) (fun q1 q2 _ => hn q1 q2)⟩, fun q => absurd q (by decide)⟩
  refine w_go z_hl [] [176] 30 hr ?_
  intro H hH
  have e : y_fr h H [] [] := y_st (y_rf hr) hH (by repeat (first | exact w_nil | refine w_cons (Or.inl (y_m rfl)) ?_ | refine w_cons (Or.inr (by assumption)) ?_)) (by repeat (first | exact w_nil | refine w_cons (Or.inl (y_m rfl)) ?_ | refine w_cons (Or.inr (by assumption)) ?_))
  refine q_in (v := a.toInt64) (lo := Int64.ofNat 1) (hi := b.toInt64) e.1 (fun H3 h3 l1 l2 => ⟨fun n e => (by cases e), ?_⟩) (fun H3 h3 l => ⟨fun n e => (by cases e), ?_⟩)
  · rw [y_i2l] at l1
    rw [y_i2l, y_i2l] at l2
    exact T8 (y_sq e h3 rfl rfl) l1 l2
  · rw [y_i2l, y_i2l] at l
    exact T8n (y_sq e h3 rfl rfl) (fun q1 q2 => l q1 q2)
theorem y_many_loop {a b : Int32} (b1 : 1 ≤ b.toInt) : ∀ (m : Nat) (h : aH) (l : Int64) (kI : Int32), w_hr z_D h → kI.toInt + m = 100001 → 0 ≤ kI.toInt → (∀ (H : aH), y_fr h H [] [] → K0 (some (.int (y_mg a b m l kI))) H C S) → aOK s_P X d a_m267 22 [some (.ref 155), some (.int a), some (.int b), some (.long l), none, some (.int kI)] [] h C S K0 := by
  intro m
  induction m with
  | zero =>
    intro h l kI hr hm k0 hK
    refine w_go z_hl [22] [] 30 hr ?_
    refine ⟨fun _ => fun H hH => hK H (y_st (y_rf hr) hH (by repeat (first | exact w_nil | refine w_cons (Or.inl (y_m rfl)) ?_ | refine w_cons (Or.inr (by assumption)) ?_)) (by repeat (first | exact w_nil | refine w_cons (Or.inl (y_m rfl)) ?_ | refine w_cons (Or.inr (by assumption)) ?_))), fun q => ?_⟩
    have q2 : ¬ ((Int32.ofInt 100000).toInt < kI.toInt) := y_cif q
    rw [show (Int32.ofInt 100000).toInt = 100000 by decide] at q2
    omega
  | succ m ih =>
    intro h l kI hr hm k0 hK
    have ink : (kI + Int32.ofInt 1).toInt = kI.toInt + 1 := y_inc (by omega)
    refine w_go z_hl [22] [] 30 hr ?_
    refine ⟨fun q => ?_, fun _ => ⟨fun q => ?_, fun q => fun H hH => ?_⟩⟩
    · have q2 : (Int32.ofInt 100000).toInt < kI.toInt := (y_ci .gt _ _).mp q
      rw [show (Int32.ofInt 100000).toInt = 100000 by decide] at q2
      omega
    · have q2 : (Int64.ofInt 500000000).toInt < l.toInt := (y_cl .gt _ _).mp q
      rw [y_i64 (by decide) (by decide)] at q2
      refine ⟨fun e => ?_, fun H hH => ?_⟩
      · have e2 : b.toInt64.toInt = 0 := by rw [e]; rfl
        rw [y_i2l] at e2
        omega
      · have e : y_fr h H [] [] := y_st (y_rf hr) hH (by repeat (first | exact w_nil | refine w_cons (Or.inl (y_m rfl)) ?_ | refine w_cons (Or.inr (by assumption)) ?_)) (by repeat (first | exact w_nil | refine w_cons (Or.inl (y_m rfl)) ?_ | refine w_cons (Or.inr (by assumption)) ?_))
        refine ih H _ _ e.1 (by omega) (by omega) (fun H' f => ?_)
        have := hK H' (y_sq e f rfl rfl)
        unfold y_mg at this
        rw [if_neg (by omega)] at this
        exact this
    · have q2 : ¬ ((Int64.ofInt 500000000).toInt < l.toInt) := y_clf q
      rw [y_i64 (by decide) (by decide)] at q2
      have := hK H (y_st (y_rf hr) hH (by repeat (first | exact w_nil | refine w_cons (Or.inl (y_m rfl)) ?_ | refine w_cons (Or.inr (by assumption)) ?_)) (by repeat (first | exact w_nil | refine w_cons (Or.inl (y_m rfl)) ?_ | refine w_cons (Or.inr (by assumption)) ?_)))
      unfold y_mg at this
      rw [if_pos (by omega)] at this
      exact this
/-- the answer of many -/
def y_mn (a b : Int32) : Int32 := if 1 ≤ a.toInt ∧ a.toInt ≤ b.toInt ∧ b.toInt ≤ 1000000 then y_mg a b 100001 (Int64.ofInt 1000000000) (Int32.ofInt 0) else Int32.ofInt (-1)
theorem p_many {h : aH} (hr : w_hr z_D h) {a b : Int32} (hk : ∀ (H : aH), y_fr h H [19584] [] → K0 (some (.int (y_mn a b))) H C S) : aOK s_P X (d + 2) a_m267 0 [some (.ref 155), some (.int a), some (.int b), none, none, none] [] h C S K0 := by
  have T10 : ∀ {G : aH}, y_fr h G [19584] [] → 1 ≤ a.toInt → a.toInt ≤ b.toInt → b.toInt ≤ 1000000 → aOK s_P X (d + 2) a_m267 10 [some (.ref 155), some (.int a), some (.int b), none, none, none] [.int (y_01 true)] G C S K0 := by
    intro G e a1 ab b6
    refine w_go z_hl [22] [] 30 e.1 ?_
    refine ⟨fun _ => fun H hH => ?_, fun q => absurd q (by decide)⟩
    have e2 := y_st e hH (by repeat (first | exact w_nil | refine w_cons (Or.inl (y_m rfl)) ?_ | refine w_cons (Or.inr (by assumption)) ?_)) (by repeat (first | exact w_nil | refine w_cons (Or.inl (y_m rfl)) ?_ | refine w_cons (Or.inr (by assumption)) ?_))
    refine y_many_loop (by omega) 100001 H _ _ e2.1 (by rw [show (Int32.ofInt 0).toInt = 0 by decide]; rfl) (by decide) (fun H' f => ?_)
    have := hk H' (y_sq e2 f rfl rfl)
    unfold y_mn at this
    rw [if_pos ⟨a1, ab, b6⟩] at this
    exact this
  have T10n : ∀ {G : aH}, y_fr h G [19584] [] → (1 ≤ a.toInt → a.toInt ≤ b.toInt → b.toInt ≤ 1000000 → False) → aOK s_P X (d + 2) a_m267 10 [some (.ref 155), some (.int a), some (.int b), none, none, none] [.int (y_01 false)] G C S K0 := by
    intro G e hn
    refine w_go z_hl [22] [] 30 e.1 ?_
    refine ⟨fun q => absurd q (by decide), fun _ => fun H hH => ?_⟩
    have := hk H (y_st e hH (by repeat (first | exact w_nil | refine w_cons (Or.inl (y_m rfl)) ?_ | refine w_cons (Or.inr (by assumption)) ?_)) (by repeat (first | exact w_nil | refine w_cons (Or.inl (y_m rfl)) ?_ | refine w_cons (Or.inr (by assumption)) ?_)))
    unfold y_mn at this
    rw [if_neg (fun q => hn q.1 q.2.1 q.2.2)] at this
    exact this
  refine w_go z_hl [] [266] 30 hr ?_
  refine ⟨rfl, y_zini (by decide) (by decide), fun H hH => ?_⟩
  have e : y_fr h H [19584] [] := y_st (y_mo (y_rf hr) rfl rfl) hH (by repeat (first | exact w_nil | refine w_cons (Or.inl (y_m rfl)) ?_ | refine w_cons (Or.inr (by assumption)) ?_)) (by repeat (first | exact w_nil | refine w_cons (Or.inl (y_m rfl)) ?_ | refine w_cons (Or.inr (by assumption)) ?_))
  refine y_isMark e.1 (fun H3 h3 a1 ab b6 => ⟨fun n e => (by cases e), ?_⟩) (fun H3 h3 l => ⟨fun n e => (by cases e), ?_⟩)
  · exact T10 (y_sq e h3 rfl rfl) a1 ab b6
  · exact T10n (y_sq e h3 rfl rfl) l
theorem p_list {h : aH} (hr : w_hr z_D h) {p n a b : Int32} (hk : ∀ (r : Int32) (H : aH), y_fr h H [19584, 19585, 19587, 19588] [154] → K0 (some (.int r)) H C S) : aOK s_P X (d + 2) a_m265 0 [some (.ref 155), some (.int p), some (.int n), some (.int a), some (.int b)] [] h C S K0 := by
  have T68 : ∀ {G : aH}, y_fr h G [19584, 19585, 19587, 19588] [154] → aOK s_P X (d + 2) a_m265 68 [some (.ref 155), some (.int p), some (.int n), some (.int a), some (.int b)] [] G C S K0 := by
    intro G e
    refine w_go z_hl [] [] 30 e.1 ?_
    exact fun H hH => hk _ H (y_st e hH (by repeat (first | exact w_nil | refine w_cons (Or.inl (y_m rfl)) ?_ | refine w_cons (Or.inr (by assumption)) ?_)) (by repeat (first | exact w_nil | refine w_cons (Or.inl (y_m rfl)) ?_ | refine w_cons (Or.inr (by assumption)) ?_)))
  have T59 : ∀ {G : aH}, y_fr h G [19584, 19585, 19587, 19588] [154] → aOK s_P X (d + 2) a_m265 59 [some (.ref 155), some (.int p), some (.int n), some (.int a), some (.int b)] [] G C S K0 := by
    intro G e
    refine w_go z_hl [] [196] 30 e.1 ?_
    refine ⟨rfl, y_zini (by decide) (by decide), fun H hH => ?_⟩
    have e2 := y_st e hH (by repeat (first | exact w_nil | refine w_cons (Or.inl (y_m rfl)) ?_ | refine w_cons (Or.inr (by assumption)) ?_)) (by repeat (first | exact w_nil | refine w_cons (Or.inl (y_m rfl)) ?_ | refine w_cons (Or.inr (by assumption)) ?_))
    refine y_tells e2.1 (hH.2.1 19585 _ rfl) (by decide) (by decide) (fun H2 r2 e3 _ _ => ⟨fun n e => (by cases e), ?_⟩)
    exact T68 (y_sq e2 e3 rfl rfl)
  have T36 : ∀ {G : aH}, y_fr h G [19584, 19585, 19587, 19588] [154] → 1 ≤ n.toInt → n.toInt ≤ p.toInt → p.toInt ≤ 100000000 → 1 ≤ a.toInt → a.toInt ≤ b.toInt → b.toInt ≤ 1000000 → aOK s_P X (d + 2) a_m265 36 [some (.ref 155), some (.int p), some (.int n), some (.int a), some (.int b)] [.int (y_01 true)] G C S K0 := by
    intro G e n1 np p8 a1 ab b6
    obtain ⟨pn, hp⟩ : ∃ pn : Nat, p.toInt = pn := ⟨p.toInt.toNat, by omega⟩
    obtain ⟨nn, hn⟩ : ∃ nn : Nat, n.toInt = nn := ⟨n.toInt.toNat, by omega⟩
    obtain ⟨an, ha⟩ : ∃ an : Nat, a.toInt = an := ⟨a.toInt.toNat, by omega⟩
    obtain ⟨bn, hb⟩ : ∃ bn : Nat, b.toInt = bn := ⟨b.toInt.toNat, by omega⟩
    have s1 : (p - n).toInt64.toInt = ((pn - nn : Nat) : Int) := by rw [y_i2l]; exact y_subS _ hp hn (by omega) (by omega)
    have hle : (pn - nn) * an ≤ 100000000 * 1000000 := Nat.mul_le_mul (by omega) (by omega)
    have m1 : ((p - n).toInt64 * a.toInt64).toInt = (((pn - nn) * an : Nat) : Int) := y_mul64 _ s1 (by rw [y_i2l]; exact ha) rfl (by omega)
    have m2 : (b.toInt64 + (p - n).toInt64 * a.toInt64).toInt = ((bn + (pn - nn) * an : Nat) : Int) := y_add64 _ (by rw [y_i2l]; exact hb) m1 rfl (by omega)
    refine w_go z_hl [] [194] 40 e.1 ?_
    refine ⟨fun _ => fun H hH => ?_, fun q => absurd q (by decide)⟩
    have e2 := y_st e hH (by repeat (first | exact w_nil | refine w_cons (Or.inl (y_m rfl)) ?_ | refine w_cons (Or.inr (by assumption)) ?_)) (by repeat (first | exact w_nil | refine w_cons (Or.inl (y_m rfl)) ?_ | refine w_cons (Or.inr (by assumption)) ?_))
    refine q_lowest (n := b.toInt64) (m := b.toInt64 + (p - n).toInt64 * a.toInt64) e2.1 (by rw [y_i2l]; omega) (by rw [m2]; omega) (fun u l H2 e3 _ _ _ _ _ _ _ => ⟨fun n e => (by cases e), ?_⟩)
    exact T59 (y_sq e2 e3 rfl rfl)
  have N : ∀ {G : aH} {pc : Nat}, (pc = 14 ∨ pc = 27) → y_fr h G [19584, 19585, 19587, 19588] [154] → aOK s_P X (d + 2) a_m265 pc [some (.ref 155), some (.int p), some (.int n), some (.int a), some (.int b)] [.int (y_01 false)] G C S K0 := by
    intro G pc hpc e
    rcases hpc with rfl | rfl
    · refine w_go z_hl [] [] 30 e.1 ?_
      exact ⟨fun _ => fun H hH => hk _ H (y_st e hH (by repeat (first | exact w_nil | refine w_cons (Or.inl (y_m rfl)) ?_ | refine w_cons (Or.inr (by assumption)) ?_)) (by repeat (first | exact w_nil | refine w_cons (Or.inl (y_m rfl)) ?_ | refine w_cons (Or.inr (by assumption)) ?_))), fun q => absurd q (by decide)⟩
    · refine w_go z_hl [] [] 30 e.1 ?_
      exact ⟨fun _ => fun H hH => hk _ H (y_st e hH (by repeat (first | exact w_nil | refine w_cons (Or.inl (y_m rfl)) ?_ | refine w_cons (Or.inr (by assumption)) ?_)) (by repeat (first | exact w_nil | refine w_cons (Or.inl (y_m rfl)) ?_ | refine w_cons (Or.inr (by assumption)) ?_))), fun q => absurd q (by decide)⟩
  have N36 : ∀ {G : aH}, y_fr h G [19584, 19585, 19587, 19588] [154] → aOK s_P X (d + 2) a_m265 36 [some (.ref 155), some (.int p), some (.int n), some (.int a), some (.int b)] [.int (y_01 false)] G C S K0 := by
    intro G e
    refine w_go z_hl [] [] 30 e.1 ?_
    exact ⟨fun q => absurd q (by decide), fun _ => fun H hH => hk _ H (y_st e hH (by repeat (first | exact w_nil | refine w_cons (Or.inl (y_m rfl)) ?_ | refine w_cons (Or.inr (by assumption)) ?_)) (by repeat (first | exact w_nil | refine w_cons (Or.inl (y_m rfl)) ?_ | refine w_cons (Or.inr (by assumption)) ?_)))⟩
  have T27 : ∀ {G : aH}, y_fr h G [19584, 19585, 19587, 19588] [154] → 1 ≤ n.toInt → n.toInt ≤ p.toInt → p.toInt ≤ 100000000 → aOK s_P X (d + 2) a_m265 27 [some (.ref 155), some (.int p), some (.int n), some (.int a), some (.int b)] [.int (y_01 true)] G C S K0 := by
    intro G e n1 np p8
    refine w_go z_hl [] [266] 30 e.1 ?_
    refine ⟨fun q => absurd q (by decide), fun _ => fun H hH => ?_⟩
    have e2 := y_st e hH (by repeat (first | exact w_nil | refine w_cons (Or.inl (y_m rfl)) ?_ | refine w_cons (Or.inr (by assumption)) ?_)) (by repeat (first | exact w_nil | refine w_cons (Or.inl (y_m rfl)) ?_ | refine w_cons (Or.inr (by assumption)) ?_))
    refine y_isMark e2.1 (fun H3 h3 a1 ab b6 => ⟨fun n e => (by cases e), ?_⟩) (fun H3 h3 l => ⟨fun n e => (by cases e), ?_⟩)
    · exact T36 (y_sq e2 h3 rfl rfl) n1 np p8 a1 ab b6
    · exact N36 (y_sq e2 h3 rfl rfl)
  have T14 : ∀ {G : aH}, y_fr h G [19584, 19585, 19587, 19588] [154] → 1 ≤ n.toInt → aOK s_P X (d + 2) a_m265 14 [some (.ref 155), some (.int p), some (.int n), some (.int a), some (.int b)] [.int (y_01 true)] G C S K0 := by
    intro G e n1
    refine w_go z_hl [] [176] 30 e.1 ?_
    refine ⟨fun q => absurd q (by decide), fun _ => fun H hH => ?_⟩
    have e2 := y_st e hH (by repeat (first | exact w_nil | refine w_cons (Or.inl (y_m rfl)) ?_ | refine w_cons (Or.inr (by assumption)) ?_)) (by repeat (first | exact w_nil | refine w_cons (Or.inl (y_m rfl)) ?_ | refine w_cons (Or.inr (by assumption)) ?_))
    refine q_in (v := p.toInt64) (lo := n.toInt64) (hi := Int64.ofInt 100000000) e2.1 (fun H3 h3 l1 l2 => ⟨fun n e => (by cases e), ?_⟩) (fun H3 h3 l => ⟨fun n e => (by cases e), ?_⟩)
    · rw [y_i2l, y_i2l] at l1
      rw [y_i2l, y_i64 (by decide) (by decide)] at l2
      exact T27 (y_sq e2 h3 rfl rfl) n1 l1 l2
    · exact N (Or.inr rfl) (y_sq e2 h3 rfl rfl)
  refine w_go z_hl [] [176] 30 hr ?_
  refine ⟨rfl, y_zini (by decide) (by decide), fun H hH => ?_⟩
  have e : y_fr h H [19584, 19585, 19587, 19588] [154] := y_st (y_mo (y_rf hr) rfl rfl) hH (by repeat (first | exact w_nil | refine w_cons (Or.inl (y_m rfl)) ?_ | refine w_cons (Or.inr (by assumption)) ?_)) (by repeat (first | exact w_nil | refine w_cons (Or.inl (y_m rfl)) ?_ | refine w_cons (Or.inr (by assumption)) ?_))
  refine q_in (v := n.toInt64) (lo := Int64.ofNat 1) e.1 (fun H3 h3 l1 l2 => ⟨fun n e => (by cases e), ?_⟩) (fun H3 h3 l => ⟨fun n e => (by cases e), ?_⟩)
  · rw [y_i2l] at l1
    exact T14 (y_sq e h3 rfl rfl) l1
  · exact N (Or.inl rfl) (y_sq e h3 rfl rfl)
theorem p_weight {h : aH} (hr : w_hr z_D h) (hJ : y_J h) {a : Int32} (hk : ∀ (r : Int32) (H : aH), y_fr h H [19584] [] → K0 (some (.int r)) H C S) : aOK s_P X (d + 2) a_m183 0 [some (.ref 155), some (.int a)] [] h C S K0 := by
  obtain ⟨nd, le, de, ta, n1, n2, n3, n4, c1, c2, c3, c4, c5⟩ := id hJ.1
  obtain ⟨b1, b2⟩ := y_ndb hr n1
  obtain ⟨ea, l1, l2⟩ := y_all b1 b2
  have T18 : ∀ {G : aH} {x : Int64}, y_fr h G [19584] [] → aOK s_P X (d + 2) a_m183 18 [some (.ref 155), some (.int a)] [.long x] G C S K0 := by
    intro G x e
    refine w_go z_hl [] [] 30 e.1 ?_
    exact fun H hH => hk _ H (y_st e hH (by repeat (first | exact w_nil | refine w_cons (Or.inl (y_m rfl)) ?_ | refine w_cons (Or.inr (by assumption)) ?_)) (by repeat (first | exact w_nil | refine w_cons (Or.inl (y_m rfl)) ?_ | refine w_cons (Or.inr (by assumption)) ?_)))
  have T10 : ∀ {G : aH} {v : Nat}, y_fr h G [19584] [] → a.toInt = v → v < 1024 → aOK s_P X (d + 2) a_m183 10 [some (.ref 155), some (.int a)] [.int (y_01 true)] G C S K0 := by
    intro G v e hv v10
    refine w_go z_hl [] [184] 30 e.1 ?_
    refine ⟨fun q => absurd q (by decide), fun _ => fun H hH => ?_⟩
    have e2 := y_st e hH (by repeat (first | exact w_nil | refine w_cons (Or.inl (y_m rfl)) ?_ | refine w_cons (Or.inr (by assumption)) ?_)) (by repeat (first | exact w_nil | refine w_cons (Or.inl (y_m rfl)) ?_ | refine w_cons (Or.inr (by assumption)) ?_))
    obtain ⟨fo, z5, z6, -⟩ := w_arrI e2.1 (o := 159) (t := 0) (n := 10) (lo := -1) (hi := 1) (by decide) rfl
    refine y_weightOf hv v10 e2.1 (⟨(y_fe e2 rfl).trans n1, (y_ae e2 rfl).trans n2, (y_ae e2 rfl).trans n3, (y_ae e2 rfl).trans n4, w_a_at z5, c1, c2, c3, c4⟩ : y_net H nd le de ta fo) b1 (fun r H2 e3 _ => ⟨fun n e => (by cases e), ?_⟩)
    exact T18 (y_sq e2 e3 rfl rfl)
  have T10n : ∀ {G : aH}, y_fr h G [19584] [] → aOK s_P X (d + 2) a_m183 10 [some (.ref 155), some (.int a)] [.int (y_01 false)] G C S K0 := by
    intro G e
    refine w_go z_hl [] [] 30 e.1 ?_
    exact ⟨fun _ => fun H hH => hk _ H (y_st e hH (by repeat (first | exact w_nil | refine w_cons (Or.inl (y_m rfl)) ?_ | refine w_cons (Or.inr (by assumption)) ?_)) (by repeat (first | exact w_nil | refine w_cons (Or.inl (y_m rfl)) ?_ | refine w_cons (Or.inr (by assumption)) ?_))), fun q => absurd q (by decide)⟩
  refine w_go z_hl [] [174] 30 hr ?_
  refine ⟨rfl, y_zini (by decide) (by decide), fun H hH => ?_⟩
  have e : y_fr h H [19584] [] := y_st (y_mo (y_rf hr) rfl rfl) hH (by repeat (first | exact w_nil | refine w_cons (Or.inl (y_m rfl)) ?_ | refine w_cons (Or.inr (by assumption)) ?_)) (by repeat (first | exact w_nil | refine w_cons (Or.inl (y_m rfl)) ?_ | refine w_cons (Or.inr (by assumption)) ?_))
  refine q_isSet (v := a) e.1 ((y_fe e rfl).trans n1) (fun H3 vv h3 hv hw _ => ⟨fun n e => (by cases e), ?_⟩) (fun H3 h3 => ⟨fun n e => (by cases e), ?_⟩)
  · exact T10 (y_sq e h3 rfl rfl) hv (by omega)
  · exact T10n (y_sq e h3 rfl rfl)
end WG
