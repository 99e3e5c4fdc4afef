/-! ===== v5: pairs told as functions (laid by wip/tools/mk33h.py) ===== -/
abbrev n_hd (a b x : Int32) : Prop := 0 ≤ a.toInt ∧ a.toInt ≤ 31 ∧ 1 ≤ b.toInt ∧ b.toInt ≤ 99 ∧ x.toInt ≤ 5
abbrev n_dy (b c x : Int32) : Prop := x.toInt ≤ 29 ∧ (c.toInt = 0 ∨ b.toInt ≠ 0)
abbrev n_shV (a x : Int32) : Prop := ¬ (x.toInt = 0) ∧ 0 ≤ a.toInt ∧ a.toInt ≤ 1
abbrev n_agV (i k0 k1 k2 : Int32) : Prop := 0 ≤ i.toInt ∧ i.toInt ≤ 2 ∧ (([k0, k1, k2] : List Int32).getD i.toNatClampNeg 0).toInt ≠ (0 : Int32).toInt
def n_ag (i k0 k1 k2 : Int32) : Int32 := if n_agV i k0 k1 k2 then Int32.ofInt 1 else Int32.ofInt 0
def n_kk (a : Int32) : Nat := 17408 + 512 * a.toInt.toNat
def n_s127 (us : List Int32) (v : Nat → Int32) : (Nat → Int32) × Int32 := match us with
  | [a, b] => if n_hd a b (v 16) then (n_up v 16 (v 16 + Int32.ofInt 1), v 16) else (v, Int32.ofInt (-1))
  | _ => (v, 0)
def n_s157 (us : List Int32) (v : Nat → Int32) : (Nat → Int32) × Int32 := match us with
  | [_, b, c] => if n_dy b c (v 17152) then (n_up v 17152 (v 17152 + Int32.ofInt 1), v 17152 + Int32.ofInt 1) else (v, Int32.ofInt (-1))
  | _ => (v, 0)
def n_s74 (us : List Int32) (v : Nat → Int32) : (Nat → Int32) × Int32 := match us with
  | [_] => if (v 1537).toInt ≤ 56 then (n_up v 1537 (v 1537 + Int32.ofInt 4), v 1537 + Int32.ofInt 4) else (v, Int32.ofInt (-1))
  | _ => (v, 0)
def n_s76 (us : List Int32) (v : Nat → Int32) : (Nat → Int32) × Int32 := match us with
  | [a] => if 0 ≤ a.toInt ∧ a.toInt ≤ (v 1537).toInt then (n_up v 1537 a, Int32.ofInt 1) else (v, Int32.ofInt 0)
  | _ => (v, 0)
def n_s12 (us : List Int32) (v : Nat → Int32) : (Nat → Int32) × Int32 := match us with
  | [a, b] => if n_nd a b (v 128) (v 129) then (n_up (n_up v 128 (v 128 + Int32.ofInt 1)) 129 (v 129 * b), v 128) else (v, Int32.ofInt (-1))
  | _ => (v, 0)
def n_s21 (us : List Int32) (v : Nat → Int32) : (Nat → Int32) × Int32 := match us with
  | [a, b] => if n_fsV a b (v 128) then (v, Int32.ofInt 1) else (v, Int32.ofInt 0)
  | _ => (v, 0)
def n_s77 (_ : List Int32) (v : Nat → Int32) : (Nat → Int32) × Int32 := (n_up v 1537 (Int32.ofInt 0), 0)
def n_s159 (us : List Int32) (v : Nat → Int32) : (Nat → Int32) × Int32 := match us with
  | [a] => if n_shV a (v 17152) then (v, Int32.ofInt 0) else (v, Int32.ofInt (-1))
  | _ => (v, 0)
def n_s163 (us : List Int32) (v : Nat → Int32) : (Nat → Int32) × Int32 := match us with
  | [a] => if 0 ≤ a.toInt ∧ a.toInt ≤ 2 then (n_up v (n_kk a) (Int32.ofInt 1), Int32.ofInt 1) else (v, Int32.ofInt 0)
  | _ => (v, 0)
def n_s165 (us : List Int32) (v : Nat → Int32) : (Nat → Int32) × Int32 := match us with
  | [a] => (v, n_ag a (v 17408) (v 17920) (v 18432))
  | _ => (v, 0)
section NP
variable {X : aX} {C S d : Nat} {K0 : Option Value → aH → Nat → Nat → Prop}
theorem f_head {h : aH} (hr : w_hr z_D h) {a b X0 : Int32} (g0 : w_f h 19625 = some (.int X0)) (yes : n_hd a b X0 → ∀ (H : aH), y_fr h H [19584, 19625] [177, 178] → w_f H 19625 = some (.int (X0 + Int32.ofInt 1)) → K0 (some (.int (X0 + Int32.ofInt 1 - Int32.ofInt 1))) H C S) (no : ¬ n_hd a b X0 → ∀ (H : aH), y_fr h H [19584] [] → K0 (some (.int (Int32.ofInt (-1)))) H C S) : aOK s_P X (d + 1) a_m255 0 [some (.ref 155), some (.int a), some (.int b)] [] h C S K0 := by
  have T40 : ∀ {G : aH} {x : Int32}, x = X0 → y_fr h G [19584, 19625] [177, 178] → w_f G 19625 = some (.int x) → 0 ≤ x.toInt → x.toInt ≤ 5 → 0 ≤ a.toInt → a.toInt ≤ 31 → 1 ≤ b.toInt → b.toInt ≤ 99 → aOK s_P X (d + 1) a_m255 40 [some (.ref 155), some (.int a), some (.int b)] [] G C S K0 := by
    intro G x ex e g x0 x5 a0 a1 b0 b1
    subst ex
    have inc : (x + Int32.ofInt 1).toInt = x.toInt + 1 := y_inc (by omega)
    refine w_go z_hl [] [] 60 e.1 ?_
    intro y hy _ _
    obtain rfl := y_fi g hy
    refine ⟨⟨by omega, by omega⟩, ⟨by omega, by omega⟩, fun l1 _ _ _ => ⟨⟨by omega, by omega⟩, ⟨by omega, by omega⟩, fun l2 _ _ _ => ?_⟩⟩
    exact ⟨rfl, y_zini (by show 0 ≤ (x + Int32.ofInt 1).toInt; omega) (by show (x + Int32.ofInt 1).toInt ≤ 6; omega), fun H hH => yes ⟨a0, a1, b0, b1, x5⟩ H (y_st e hH (by repeat (first | exact w_nil | refine w_cons (Or.inl (y_m rfl)) ?_ | refine w_cons (Or.inr (by assumption)) ?_)) (by repeat (first | exact w_nil | refine w_cons (Or.inl (y_m rfl)) ?_ | refine w_cons (Or.inr (by assumption)) ?_))) (hH.2.1 19625 _ rfl)⟩
  have T26 : ∀ {G : aH}, y_fr h G [19584] [] → 0 ≤ a.toInt → a.toInt ≤ 31 → 1 ≤ b.toInt → b.toInt ≤ 99 → aOK s_P X (d + 1) a_m255 26 [some (.ref 155), some (.int a), some (.int b)] [.int (y_01 true)] G C S K0 := by
    intro G e a0 a1 b0 b1
    refine w_go z_hl [40] [] 40 e.1 ?_
    refine ⟨fun q => absurd q (by decide), fun _ => ?_⟩
    intro x hx x0 x6
    have x0' : 0 ≤ x.toInt := x0
    have x6' : x.toInt ≤ 6 := x6
    have ex : x = X0 := (y_fi ((y_fe e rfl).trans g0) hx).symm
    have nv : a_cnd .ne x ((Int8.ofInt 6).toInt32) = false → ¬ n_hd a b X0 := by
      intro q v
      have q2 : ¬ (x.toInt ≠ ((Int8.ofInt 6).toInt32).toInt) := y_cif q
      rw [y_c6] at q2
      have := v.2.2.2.2
      rw [← ex] at this
      omega
    refine ⟨fun q => fun H hH => ?_, fun q => fun H hH => no (nv q) H (y_st e hH (by repeat (first | exact w_nil | refine w_cons (Or.inl (y_m rfl)) ?_ | refine w_cons (Or.inr (by assumption)) ?_)) (by repeat (first | exact w_nil | refine w_cons (Or.inl (y_m rfl)) ?_ | refine w_cons (Or.inr (by assumption)) ?_)))⟩
    have q2 : x.toInt ≠ ((Int8.ofInt 6).toInt32).toInt := (y_ci .ne _ _).mp q
    rw [y_c6] at q2
    exact T40 ex (y_st (y_mo e rfl rfl) hH (by repeat (first | exact w_nil | refine w_cons (Or.inl (y_m rfl)) ?_ | refine w_cons (Or.inr (by assumption)) ?_)) (by repeat (first | exact w_nil | refine w_cons (Or.inl (y_m rfl)) ?_ | refine w_cons (Or.inr (by assumption)) ?_))) (hH.2.1 19625 _ rfl) x0' (by omega) a0 a1 b0 b1
  have T26n : ∀ {G : aH}, ¬ n_hd a b X0 → y_fr h G [19584] [] → aOK s_P X (d + 1) a_m255 26 [some (.ref 155), some (.int a), some (.int b)] [.int (y_01 false)] G C S K0 := by
    intro G nv e
    refine w_go z_hl [] [] 40 e.1 ?_
    exact ⟨fun _ => fun H hH => no nv H (y_st e hH (by repeat (first | exact w_nil | refine w_cons (Or.inl (y_m rfl)) ?_ | refine w_cons (Or.inr (by assumption)) ?_)) (by repeat (first | exact w_nil | refine w_cons (Or.inl (y_m rfl)) ?_ | refine w_cons (Or.inr (by assumption)) ?_))), fun q => absurd q (by decide)⟩
  have T14 : ∀ {G : aH}, y_fr h G [19584] [] → 0 ≤ a.toInt → a.toInt ≤ 31 → aOK s_P X (d + 1) a_m255 14 [some (.ref 155), some (.int a), some (.int b)] [.int (y_01 true)] G C S K0 := by
    intro G e a0 a1
    refine w_go z_hl [] [176] 40 e.1 ?_
    refine ⟨fun q => absurd q (by decide), fun _ => fun H hH => ?_⟩
    have e2 := y_st e hH (by repeat (first | exact w_nil | refine w_cons (Or.inl (y_m rfl)) ?_ | refine w_cons (Or.inr (by assumption)) ?_)) (by repeat (first | exact w_nil | refine w_cons (Or.inl (y_m rfl)) ?_ | refine w_cons (Or.inr (by assumption)) ?_))
    refine q_in (v := b.toInt64) (lo := Int64.ofNat 1) (hi := Int64.ofInt 99) e2.1 (fun H3 h3 l1 l2 => ⟨fun n e => (by cases e), ?_⟩) (fun H3 h3 l => ⟨fun n e => (by cases e), ?_⟩)
    · rw [y_i2l] at l1 l2
      rw [y_i64 (by decide) (by decide)] at l2
      exact T26 (y_sq e2 h3 rfl rfl) a0 a1 l1 l2
    · rw [y_i2l, y_i64 (by decide) (by decide)] at l
      exact T26n (fun v => l v.2.2.1 v.2.2.2.1) (y_sq e2 h3 rfl rfl)
  have T14n : ∀ {G : aH}, ¬ n_hd a b X0 → y_fr h G [19584] [] → aOK s_P X (d + 1) a_m255 14 [some (.ref 155), some (.int a), some (.int b)] [.int (y_01 false)] G C S K0 := by
    intro G nv e
    refine w_go z_hl [] [] 40 e.1 ?_
    exact ⟨fun _ => fun H hH => no nv H (y_st e hH (by repeat (first | exact w_nil | refine w_cons (Or.inl (y_m rfl)) ?_ | refine w_cons (Or.inr (by assumption)) ?_)) (by repeat (first | exact w_nil | refine w_cons (Or.inl (y_m rfl)) ?_ | refine w_cons (Or.inr (by assumption)) ?_))), fun q => absurd q (by decide)⟩
  refine w_go z_hl [] [176] 30 hr ?_
  refine ⟨rfl, y_zini (by decide) (by decide), fun H hH => ?_⟩
  have e : y_fr h H [19584] [] := y_st (y_mo (y_rf hr) rfl rfl) hH (by repeat (first | exact w_nil | refine w_cons (Or.inl (y_m rfl)) ?_ | refine w_cons (Or.inr (by assumption)) ?_)) (by repeat (first | exact w_nil | refine w_cons (Or.inl (y_m rfl)) ?_ | refine w_cons (Or.inr (by assumption)) ?_))
  refine q_in (v := a.toInt64) (lo := Int64.ofNat 0) (hi := Int64.ofInt 31) e.1 (fun H3 h3 l1 l2 => ⟨fun n e => (by cases e), ?_⟩) (fun H3 h3 l => ⟨fun n e => (by cases e), ?_⟩)
  · rw [y_i2l] at l1 l2
    rw [y_i64 (by decide) (by decide)] at l2
    exact T14 (y_sq e h3 rfl rfl) l1 l2
  · rw [y_i2l, y_i64 (by decide) (by decide)] at l
    exact T14n (fun v => l v.1 v.2.1) (y_sq e h3 rfl rfl)
theorem f_day {h : aH} (hr : w_hr z_D h) {a b c : Int32} (a0 : 0 ≤ a.toInt) (a1 : a.toInt ≤ 1) (b0 : 0 ≤ b.toInt) (b1 : b.toInt ≤ 1) (c0 : 0 ≤ c.toInt) (c1 : c.toInt ≤ 1) {X0 : Int32} (g0 : w_f h 19643 = some (.int X0)) (yes : n_dy b c X0 → ∀ (H : aH), y_fr h H [19584, 19643] [184, 185, 186] → w_f H 19643 = some (.int (X0 + Int32.ofInt 1)) → K0 (some (.int (X0 + Int32.ofInt 1))) H C S) (no : ¬ n_dy b c X0 → ∀ (H : aH), y_fr h H [19584] [] → K0 (some (.int (Int32.ofInt (-1)))) H C S) : aOK s_P X d a_m273 0 [some (.ref 155), some (.int a), some (.int b), some (.int c)] [] h C S K0 := by
  have e0 : y_fr h h [19584, 19643] [184, 185, 186] := y_mo (y_rf hr) rfl rfl
  have T24 : ∀ {G : aH} {x : Int32}, x = X0 → (c.toInt = 0 ∨ b.toInt ≠ 0) → y_fr h G [19584, 19643] [184, 185, 186] → w_f G 19643 = some (.int x) → 0 ≤ x.toInt → x.toInt ≤ 29 → aOK s_P X d a_m273 24 [some (.ref 155), some (.int a), some (.int b), some (.int c)] [] G C S K0 := by
    intro G x ex hv e g x0 x29
    subst ex
    have inc : (x + Int32.ofInt 1).toInt = x.toInt + 1 := y_inc (by omega)
    refine w_go z_hl [] [] 60 e.1 ?_
    intro y hy _ _
    obtain rfl := y_fi g hy
    refine ⟨⟨by omega, by omega⟩, ⟨a0, a1, a0, a1⟩, fun l1 _ _ _ => ⟨⟨by omega, by omega⟩, ⟨b0, b1, b0, b1⟩, fun l2 _ _ _ => ⟨⟨by omega, by omega⟩, ⟨c0, c1, c0, c1⟩, fun l3 _ _ _ => ?_⟩⟩⟩
    exact ⟨rfl, y_zini (by show 0 ≤ (x + Int32.ofInt 1).toInt; omega) (by show (x + Int32.ofInt 1).toInt ≤ 30; omega), fun H hH => yes ⟨x29, hv⟩ H (y_st e hH (by repeat (first | exact w_nil | refine w_cons (Or.inl (y_m rfl)) ?_ | refine w_cons (Or.inr (by assumption)) ?_)) (by repeat (first | exact w_nil | refine w_cons (Or.inl (y_m rfl)) ?_ | refine w_cons (Or.inr (by assumption)) ?_))) (hH.2.1 19643 _ rfl)⟩
  refine w_go z_hl [24] [] 40 hr ?_
  refine ⟨rfl, y_zini (by decide) (by decide), ?_⟩
  intro x hx x0 x30
  have x0' : 0 ≤ x.toInt := x0
  have x30' : x.toInt ≤ 30 := x30
  have ex : x = X0 := (y_fi g0 hx).symm
  have e1 : y_fr h h [19584] [] := y_mo (y_rf hr) rfl rfl
  refine ⟨fun q => fun H hH => no (fun v => ?_) H (y_st e1 hH (by repeat (first | exact w_nil | refine w_cons (Or.inl (y_m rfl)) ?_ | refine w_cons (Or.inr (by assumption)) ?_)) (by repeat (first | exact w_nil | refine w_cons (Or.inl (y_m rfl)) ?_ | refine w_cons (Or.inr (by assumption)) ?_))), fun q => ?_⟩
  · have q2 : x.toInt = ((Int8.ofInt 30).toInt32).toInt := (y_ci .eq _ _).mp q
    rw [show ((Int8.ofInt 30).toInt32).toInt = 30 by decide] at q2
    have := v.1
    rw [← ex] at this
    omega
  have q2 : ¬ (x.toInt = ((Int8.ofInt 30).toInt32).toInt) := y_cif q
  rw [show ((Int8.ofInt 30).toInt32).toInt = 30 by decide] at q2
  have go : ∀ {H : aH}, (c.toInt = 0 ∨ b.toInt ≠ 0) → w_rel z_D h [(19643, .int x), (19584, .int (Int32.ofInt 0))] [] H → aOK s_P X d a_m273 24 [some (.ref 155), some (.int a), some (.int b), some (.int c)] [] H C S K0 := fun hv hH => T24 ex hv (y_st e0 hH (by repeat (first | exact w_nil | refine w_cons (Or.inl (y_m rfl)) ?_ | refine w_cons (Or.inr (by assumption)) ?_)) (by repeat (first | exact w_nil | refine w_cons (Or.inl (y_m rfl)) ?_ | refine w_cons (Or.inr (by assumption)) ?_))) (hH.2.1 19643 _ rfl) x0' (by omega)
  refine ⟨fun q3 => fun H hH => go (Or.inl ?_) hH, fun q3 => ⟨fun q4 => fun H hH => go (Or.inr ?_) hH, fun q4 => fun H hH => no (fun v => ?_) H (y_st e1 hH (by repeat (first | exact w_nil | refine w_cons (Or.inl (y_m rfl)) ?_ | refine w_cons (Or.inr (by assumption)) ?_)) (by repeat (first | exact w_nil | refine w_cons (Or.inl (y_m rfl)) ?_ | refine w_cons (Or.inr (by assumption)) ?_)))⟩⟩
  · exact (y_ci .eq _ _).mp q3
  · exact (y_ci .ne _ _).mp q4
  · have z3 : ¬ (c.toInt = (0 : Int32).toInt) := y_cif q3
    have z4 : ¬ (b.toInt ≠ (0 : Int32).toInt) := y_cif q4
    rcases v.2 with w | w
    · exact z3 w
    · exact z4 w
theorem f_shifts {h : aH} (hr : w_hr z_D h) {a X0 : Int32} (g0 : w_f h 19643 = some (.int X0)) (yes : n_shV a X0 → ∀ (H : aH), y_fr h H [19584, 19585, 19587, 19588] [154] → K0 (some (.int (Int32.ofInt 0))) H C S) (no : ¬ n_shV a X0 → ∀ (H : aH), y_fr h H [19584, 19585, 19587, 19588] [154] → K0 (some (.int (Int32.ofInt (-1)))) H C S) : aOK s_P X (d + 3) a_m274 0 [some (.ref 155), some (.int a), none] [] h C S K0 := by
  obtain ⟨dy, gd, d0, d30⟩ := y_dyE hr
  have T75 : n_shV a X0 → ∀ {G : aH} {on : Int32}, y_fr h G [19584, 19585, 19587, 19588] [154] → aOK s_P X (d + 3) a_m274 75 [some (.ref 155), some (.int a), some (.int on)] [] G C S K0 := by
    intro v G on e
    refine w_go z_hl [] [] 30 e.1 ?_
    exact fun H hH => yes v H (y_st e hH (by repeat (first | exact w_nil | refine w_cons (Or.inl (y_m rfl)) ?_ | refine w_cons (Or.inr (by assumption)) ?_)) (by repeat (first | exact w_nil | refine w_cons (Or.inl (y_m rfl)) ?_ | refine w_cons (Or.inr (by assumption)) ?_)))
  have T69 : n_shV a X0 → ∀ {G : aH} {on r1 : Int32}, y_fr h G [19584, 19585, 19587, 19588] [154] → w_f G 19585 = some (.int r1) → r1.toInt = 2 → aOK s_P X (d + 3) a_m274 69 [some (.ref 155), some (.int a), some (.int on)] [] G C S K0 := by
    intro v G on r1 e g hr1
    refine w_go z_hl [] [197] 30 e.1 ?_
    intro H hH
    have f : y_fr G H [] [] := y_st (y_rf e.1) hH (by repeat (first | exact w_nil | refine w_cons (Or.inl (y_m rfl)) ?_ | refine w_cons (Or.inr (by assumption)) ?_)) (by repeat (first | exact w_nil | refine w_cons (Or.inl (y_m rfl)) ?_ | refine w_cons (Or.inr (by assumption)) ?_))
    refine y_enters f.1 ((y_fe f rfl).trans g) (by omega) (by omega) (fun H2 r2 e3 _ _ => ⟨fun n e => (by cases e), ?_⟩)
    exact T75 v (y_sq (y_sq e f rfl rfl) e3 rfl rfl)
  have T60 : n_shV a X0 → ∀ {G : aH} {on : Int32}, y_fr h G [19584, 19585, 19587, 19588] [154] → aOK s_P X (d + 3) a_m274 60 [some (.ref 155), some (.int a), some (.int on)] [] G C S K0 := by
    intro v G on e
    refine w_go z_hl [] [196] 30 e.1 ?_
    refine ⟨rfl, y_zini (by decide) (by decide), fun H hH => ?_⟩
    have e2 := y_st e hH (by repeat (first | exact w_nil | refine w_cons (Or.inl (y_m rfl)) ?_ | refine w_cons (Or.inr (by assumption)) ?_)) (by repeat (first | exact w_nil | refine w_cons (Or.inl (y_m rfl)) ?_ | refine w_cons (Or.inr (by assumption)) ?_))
    refine y_tells e2.1 (hH.2.1 19585 _ rfl) (by decide) (by decide) (fun H2 r2 e3 g3 hr3 => ⟨fun n e => (by cases e), ?_⟩)
    exact T69 v (y_sq e2 e3 rfl rfl) g3 (by rw [hr3]; decide)
  have T56 : n_shV a X0 → ∀ {G : aH} {on de : Int32}, y_fr h G [19584, 19585, 19587, 19588] [154] → 0 ≤ on.toInt → on.toInt ≤ 30 → 0 ≤ de.toInt → de.toInt ≤ dy.toInt → aOK s_P X (d + 3) a_m274 56 [some (.ref 155), some (.int a), some (.int on)] [.int de, .ref 155] G C S K0 := by
    intro v G on de e o0 o1 e0 e1
    refine w_go z_hl [] [276] 30 e.1 ?_
    intro H hH
    have e2 := y_st e hH (by repeat (first | exact w_nil | refine w_cons (Or.inl (y_m rfl)) ?_ | refine w_cons (Or.inr (by assumption)) ?_)) (by repeat (first | exact w_nil | refine w_cons (Or.inl (y_m rfl)) ?_ | refine w_cons (Or.inr (by assumption)) ?_))
    refine y_byLot e2.1 ((y_fe e2 rfl).trans gd) d0 d30 e0 e1 o0 (by omega) (fun H2 f2 => ⟨fun n e => (by cases e), ?_⟩)
    exact T60 v (y_sq e2 f2 rfl rfl)
  have T52 : n_shV a X0 → ∀ {G : aH} {on : Int32} {b : Bool}, y_fr h G [19584, 19585, 19587, 19588] [154] → 0 ≤ on.toInt → on.toInt ≤ 30 → aOK s_P X (d + 3) a_m274 52 [some (.ref 155), some (.int a), some (.int on)] [.int (y_01 b), .ref 155, .ref 155] G C S K0 := by
    intro v G on b e o0 o1
    refine w_go z_hl [] [275] 30 e.1 ?_
    intro H hH
    have e2 := y_st e hH (by repeat (first | exact w_nil | refine w_cons (Or.inl (y_m rfl)) ?_ | refine w_cons (Or.inr (by assumption)) ?_)) (by repeat (first | exact w_nil | refine w_cons (Or.inl (y_m rfl)) ?_ | refine w_cons (Or.inr (by assumption)) ?_))
    refine aOK_deep (d := d + 1) (by omega) (y_deaths e2.1 ((y_fe e2 rfl).trans gd) d0 d30 (fun r H2 f2 r0 r1 => ⟨fun n e => (by cases e), ?_⟩))
    exact T56 v (y_sq e2 f2 rfl rfl) o0 o1 r0 r1
  have T39 : n_shV a X0 → ∀ {G : aH} {on : Int32}, y_fr h G [19584, 19585, 19587, 19588] [154] → 0 ≤ on.toInt → on.toInt ≤ 30 → aOK s_P X (d + 3) a_m274 39 [some (.ref 155), some (.int a), none] [.int on] G C S K0 := by
    intro v G on e o0 o1
    refine w_go z_hl [52] [] 30 e.1 ?_
    exact ⟨fun _ => fun H hH => T52 v (b := false) (y_st e hH (by repeat (first | exact w_nil | refine w_cons (Or.inl (y_m rfl)) ?_ | refine w_cons (Or.inr (by assumption)) ?_)) (by repeat (first | exact w_nil | refine w_cons (Or.inl (y_m rfl)) ?_ | refine w_cons (Or.inr (by assumption)) ?_))) o0 o1, fun _ => fun H hH => T52 v (b := true) (y_st e hH (by repeat (first | exact w_nil | refine w_cons (Or.inl (y_m rfl)) ?_ | refine w_cons (Or.inr (by assumption)) ?_)) (by repeat (first | exact w_nil | refine w_cons (Or.inl (y_m rfl)) ?_ | refine w_cons (Or.inr (by assumption)) ?_))) o0 o1⟩
  have T35 : n_shV a X0 → ∀ {G : aH} {b : Bool}, y_fr h G [19584, 19585, 19587, 19588] [154] → aOK s_P X (d + 3) a_m274 35 [some (.ref 155), some (.int a), none] [.int (y_01 b), .ref 155] G C S K0 := by
    intro v G b e
    refine w_go z_hl [] [275] 30 e.1 ?_
    intro H hH
    have e2 := y_st e hH (by repeat (first | exact w_nil | refine w_cons (Or.inl (y_m rfl)) ?_ | refine w_cons (Or.inr (by assumption)) ?_)) (by repeat (first | exact w_nil | refine w_cons (Or.inl (y_m rfl)) ?_ | refine w_cons (Or.inr (by assumption)) ?_))
    refine aOK_deep (d := d + 1) (by omega) (y_deaths e2.1 ((y_fe e2 rfl).trans gd) d0 d30 (fun r H2 f2 r0 r1 => ⟨fun n e => (by cases e), ?_⟩))
    exact T39 v (y_sq e2 f2 rfl rfl) r0 (by omega)
  have T19y : n_shV a X0 → ∀ {G : aH}, y_fr h G [19584, 19585, 19587, 19588] [154] → aOK s_P X (d + 3) a_m274 19 [some (.ref 155), some (.int a), none] [.int (y_01 true)] G C S K0 := by
    intro v G e
    refine w_go z_hl [35] [] 30 e.1 ?_
    exact ⟨fun _ => ⟨fun _ => fun H hH => T35 v (b := false) (y_st e hH (by repeat (first | exact w_nil | refine w_cons (Or.inl (y_m rfl)) ?_ | refine w_cons (Or.inr (by assumption)) ?_)) (by repeat (first | exact w_nil | refine w_cons (Or.inl (y_m rfl)) ?_ | refine w_cons (Or.inr (by assumption)) ?_))), fun _ => fun H hH => T35 v (b := true) (y_st e hH (by repeat (first | exact w_nil | refine w_cons (Or.inl (y_m rfl)) ?_ | refine w_cons (Or.inr (by assumption)) ?_)) (by repeat (first | exact w_nil | refine w_cons (Or.inl (y_m rfl)) ?_ | refine w_cons (Or.inr (by assumption)) ?_)))⟩, fun q => absurd q (by decide)⟩
  have T19n : ¬ n_shV a X0 → ∀ {G : aH}, y_fr h G [19584, 19585, 19587, 19588] [154] → aOK s_P X (d + 3) a_m274 19 [some (.ref 155), some (.int a), none] [.int (y_01 false)] G C S K0 := by
    intro v G e
    refine w_go z_hl [35] [] 30 e.1 ?_
    exact ⟨fun q => absurd q (by decide), fun _ => fun H hH => no v H (y_st e hH (by repeat (first | exact w_nil | refine w_cons (Or.inl (y_m rfl)) ?_ | refine w_cons (Or.inr (by assumption)) ?_)) (by repeat (first | exact w_nil | refine w_cons (Or.inl (y_m rfl)) ?_ | refine w_cons (Or.inr (by assumption)) ?_)))⟩
  have e0 : y_fr h h [19584, 19585, 19587, 19588] [154] := y_mo (y_rf hr) rfl rfl
  refine w_go z_hl [] [176] 30 hr ?_
  refine ⟨rfl, y_zini (by decide) (by decide), ?_⟩
  intro x hx _ _
  have ex : x = X0 := (y_fi g0 hx).symm
  subst ex
  refine ⟨fun q => fun H hH => no (fun v => v.1 ((y_ci .eq _ _).mp q)) H (y_st e0 hH (by repeat (first | exact w_nil | refine w_cons (Or.inl (y_m rfl)) ?_ | refine w_cons (Or.inr (by assumption)) ?_)) (by repeat (first | exact w_nil | refine w_cons (Or.inl (y_m rfl)) ?_ | refine w_cons (Or.inr (by assumption)) ?_))), fun q => fun H hH => ?_⟩
  have q2 : ¬ (x.toInt = (0 : Int32).toInt) := y_cif q
  have e := y_st e0 hH (by repeat (first | exact w_nil | refine w_cons (Or.inl (y_m rfl)) ?_ | refine w_cons (Or.inr (by assumption)) ?_)) (by repeat (first | exact w_nil | refine w_cons (Or.inl (y_m rfl)) ?_ | refine w_cons (Or.inr (by assumption)) ?_))
  refine q_in e.1 (fun H3 h3 l1 l2 => ⟨fun n e => (by cases e), ?_⟩) (fun H3 h3 l => ⟨fun n e => (by cases e), ?_⟩)
  · rw [y_i2l] at l1 l2
    exact T19y ⟨q2, l1, l2⟩ (y_sq e h3 rfl rfl)
  · exact T19n (fun v => l (by rw [y_i2l]; exact v.2.1) (by rw [y_i2l]; exact v.2.2)) (y_sq e h3 rfl rfl)
theorem f_keep2 {h : aH} (hr : w_hr z_D h) (hJ : y_J h) (hC : j_cost h) {iI : Int32} (hk : ∀ (r : Int32) (H : aH), y_fr h H [19584] [187, 188, 189, 190, 191, 192, 193, 194] → y_J H → j_cost H → (∀ l, w_a h 188 = some (2, .inl l) → w_a H 188 = some (2, .inl (if 0 ≤ iI.toInt ∧ iI.toInt ≤ 2 then l.set iI.toInt.toNat (Int32.ofInt 1) else l))) → r = n_ke iI → K0 (some (.int r)) H C S) : aOK s_P X (d + 1) a_m279 0 [some (.ref 155), some (.int iI), none, none] [] h C S K0 := by
  have hJ' := hJ
  obtain ⟨q1, q2, q3, q4, q5, q6, q7⟩ := hJ'
  obtain ⟨nd, le, de, ta, n1, n2, n3, n4, c1, c2, c3, c4, c5⟩ := q1
  obtain ⟨nd', sm, so, sa, s1, s2, s3, s4, s5⟩ := q5
  obtain rfl := y_fi n1 s1
  obtain ⟨nd', kn, km, ko, ks, k1, k2, k3, k4, k5, k6⟩ := q6
  obtain rfl := y_fi n1 k1
  obtain ⟨de', to, kt, sn, sl, sh, o1, o2, o3, o4, o5, o6, o7, o8, o9⟩ := q3
  obtain rfl := y_ai n3 o1
  refine w_go z_hl [48] [176] 30 hr ?_
  refine ⟨rfl, y_zini (by decide) (by decide), fun H1 h1 => ?_⟩
  have e1 : y_fr h H1 [19584] [] := y_st (y_mo (y_rf hr) rfl rfl) h1 (by repeat (first | exact w_nil | refine w_cons (Or.inl (y_m rfl)) ?_ | refine w_cons (Or.inr (by assumption)) ?_)) (by repeat (first | exact w_nil | refine w_cons (Or.inl (y_m rfl)) ?_ | refine w_cons (Or.inr (by assumption)) ?_))
  refine q_in e1.1 (fun H2 h2 l1 l2 => ⟨fun n e => (by cases e), ?_⟩) (fun H2 h2 nl => ⟨fun n e => (by cases e), ?_⟩)
  · have l1 : 0 ≤ iI.toInt := by rw [y_i2l] at l1; exact l1
    have l2 : iI.toInt ≤ 2 := by rw [y_i2l] at l2; exact l2
    have lv : 0 ≤ iI.toInt ∧ iI.toInt ≤ 2 := ⟨l1, l2⟩
    obtain ⟨i, hi⟩ : ∃ i : Nat, iI.toInt = i := ⟨iI.toInt.toNat, by omega⟩
    have ci := y_cl1 hi
    have e2 := y_sq e1 h2 rfl rfl
    refine w_go z_hl [48] [176] 40 e2.1 ?_
    refine ⟨fun _ => ?_, fun q => absurd q (by decide)⟩
    refine ⟨⟨by omega, by omega⟩, by decide, fun l hl len bb => ?_⟩
    intro x hx b1 b2
    obtain rfl := y_fi ((y_fe e2 rfl).trans n1) hx
    refine ⟨⟨by omega, by omega⟩, ⟨by omega, by omega⟩, fun l2 hl2 len2 bb2 => ?_⟩
    obtain rfl := y_ai ((y_ae e2 rfl).trans k2) hl2
    intro y hy b3 b4
    obtain rfl := y_fi ((y_fe e2 rfl).trans s2) hy
    refine ⟨⟨by omega, by omega⟩, ⟨by omega, by omega⟩, fun l3 hl3 len3 bb3 => ?_⟩
    obtain rfl := y_ai ((y_ae e2 rfl).trans k3) hl3
    intro H3 h3
    have e3 : y_fr h H3 [19584] [187, 188, 193] := y_st (y_mo e2 rfl rfl) h3 (by repeat (first | exact w_nil | refine w_cons (Or.inl (y_m rfl)) ?_ | refine w_cons (Or.inr (by assumption)) ?_)) (by repeat (first | exact w_nil | refine w_cons (Or.inl (y_m rfl)) ?_ | refine w_cons (Or.inr (by assumption)) ?_))
    have A1 := h3.2.2.1 187 _ rfl
    have A2 := h3.2.2.1 193 _ rfl
    have A0 := h3.2.2.1 188 _ rfl
    obtain ⟨kf, z1, z2, -⟩ := w_arrI e3.1 (o := 189) (t := 0) (n := 30) (lo := -1) (hi := 1) (by decide) rfl
    obtain ⟨kc, z3, z4, -⟩ := w_arrI e3.1 (o := 191) (t := 0) (n := 30) (lo := 0) (hi := 99) (by decide) rfl
    obtain ⟨fo, z5, z6, -⟩ := w_arrI e3.1 (o := 159) (t := 0) (n := 10) (lo := -1) (hi := 1) (by decide) rfl
    obtain ⟨co, z7, z8, -⟩ := w_arrI e3.1 (o := 161) (t := 0) (n := 10) (lo := 0) (hi := 99) (by decide) rfl
    obtain ⟨ndc, co', knc, kcc, x1, x2, x3, x4, x5, x6⟩ := id hC
    obtain rfl := y_fi n1 x1
    obtain rfl := y_ai ((y_ae e3 rfl).trans x2) (w_a_at z7)
    obtain rfl := y_ai ((y_ae e3 rfl).trans x4) (w_a_at z3)
    obtain rfl := y_ai k2 x3
    refine y_keep_out (de := de) (ks0 := ks) (ko0 := ko) (kc0 := kcc) hi (by omega) c2 10 H3 _ 0 none kf ks kcc ko kt e3.1 (w_a_at z1) ((y_ae e3 rfl).trans k5) (w_a_at z3) ((y_ae e3 rfl).trans k4) ((y_ae e3 rfl).trans o3) ((y_ae e3 rfl).trans n4) (w_a_at z5) ((y_ae e3 rfl).trans s4) (w_a_at z7) ((y_ae e3 rfl).trans s3) rfl rfl o8 (fun j => by rw [if_neg (by omega)]) (fun j => by rw [if_neg (by omega)]) (fun j => by rw [if_neg (by omega)]) (fun H4 ks' ko' kt' kc' f1 f2 f3 f4 f5 f6 f7 f8 f9 => ?_)
    have e4 : y_fr h H4 [19584] [187, 188, 189, 190, 191, 192, 193, 194] := y_sq (y_mo e3 rfl rfl) f1 rfl rfl
    have HC4 : j_cost H4 := by
      refine ⟨nd, co', _, kc', (y_fe e4 rfl).trans n1, (y_ae e4 rfl).trans x2, (y_ae f1 rfl).trans A1, f8, x5, fun j v hj hv => ?_⟩
      rw [ci, y_Nnset (by omega)] at hv
      rw [f9]
      by_cases q : j = i
      · subst q
        rw [if_pos rfl] at hv
        rw [if_pos (by omega), show 10 * j + v - 10 * j = v by omega]
        exact x5 v (by omega)
      · rw [if_neg q] at hv
        have hb10 : y_Nn kn j ≤ 10 := by
          have := (k6 j hj).1
          unfold y_N at this
          unfold y_Nn
          omega
        rw [if_neg (by omega)]
        exact x6 j v hj hv
    have K188 : ∀ l0, w_a h 188 = some (2, .inl l0) → w_a H4 188 = some (2, .inl (if 0 ≤ iI.toInt ∧ iI.toInt ≤ 2 then l0.set iI.toInt.toNat (Int32.ofInt 1) else l0)) := by
      intro l0 hl0
      rw [if_pos lv]
      obtain rfl := y_ai ((y_ae e2 rfl).trans hl0) hl
      have := (y_ae f1 rfl).trans A0
      rw [ci] at this
      rw [show iI.toInt.toNat = i by omega]
      exact this
    refine hk _ _ e4 ⟨⟨nd, le, de, ta, (y_fe e4 rfl).trans n1, (y_ae e4 rfl).trans n2, (y_ae e4 rfl).trans n3, (y_ae e4 rfl).trans n4, c1, c2, c3, c4, c5⟩, j_dp_e (y_fe e4 rfl) (y_fe e4 rfl) (y_ae e4 rfl) q2, ⟨de, to, kt', sn, sl, sh, (y_ae e4 rfl).trans n3, (y_ae e4 rfl).trans o2, f4, (y_ae e4 rfl).trans o4, (y_ae e4 rfl).trans o5, (y_ae e4 rfl).trans o6, o7, f5, o9⟩, j_w_e (y_fe e4 rfl) (y_ae e4 rfl) q4, ⟨nd, sm, so, sa, (y_fe e4 rfl).trans n1, (y_fe e4 rfl).trans s2, (y_ae e4 rfl).trans s3, (y_ae e4 rfl).trans s4, s5⟩, ⟨nd, _, _, ko', ks', (y_fe e4 rfl).trans n1, (y_ae f1 rfl).trans A1, (y_ae f1 rfl).trans A2, f3, f2, fun j hj => ?_⟩, j_land_e (y_fe e4 rfl) (y_ae e4 rfl) q7⟩ HC4 K188 (by unfold n_ke; rw [if_pos lv])
    rw [ci]
    have en : y_Nn (kn.set i nd) j = if j = i then nd.toInt.toNat else y_Nn kn j := y_Nnset (by omega)
    have en2 : y_N (kn.set i nd) j = if j = i then nd.toInt else y_N kn j := y_Nset (by omega)
    have em : y_Nn (km.set i sm) j = if j = i then sm.toInt.toNat else y_Nn km j := y_Nnset (by omega)
    rw [en, en2, em]
    by_cases q : j = i
    · subst q
      rw [if_pos rfl, if_pos rfl, if_pos rfl]
      refine ⟨Int.le_refl _, y_ord_c s5 (fun k hk' => ?_) (fun k hk' => ?_)⟩
      · rw [f7, if_pos (by omega), show 10 * j + k - 10 * j = k by omega]
      · rw [f6, if_pos (by omega), show 10 * j + k - 10 * j = k by omega]
    · rw [if_neg q, if_neg q, if_neg q]
      have kj := k6 j hj
      have hb10 : y_Nn kn j ≤ 10 := by
        unfold y_Nn
        have := kj.1
        unfold y_N at this
        omega
      refine ⟨kj.1, y_ord_c kj.2 (fun k hk' => ?_) (fun k hk' => ?_)⟩
      · rw [f7, if_neg (by omega)]
      · rw [f6, if_neg (by omega)]
  · refine w_go z_hl [48] [176] 30 h2.1 ?_
    refine ⟨fun q => absurd q (by decide), fun _ => ⟨by decide, fun H3 h3 => ?_⟩⟩
    have g := y_st (y_sq e1 h2 rfl rfl) h3 (by repeat (first | exact w_nil | refine w_cons (Or.inl (y_m rfl)) ?_ | refine w_cons (Or.inr (by assumption)) ?_)) (by repeat (first | exact w_nil | refine w_cons (Or.inl (y_m rfl)) ?_ | refine w_cons (Or.inr (by assumption)) ?_))
    exact hk _ _ (y_mo g rfl rfl) (y_J_fr g rfl rfl hJ) (j_cost_e g rfl rfl hC) (fun l0 hl0 => (by rw [if_neg (fun q => nl (by rw [y_i2l]; exact q.1) (by rw [y_i2l]; exact q.2))]; exact (y_ae g rfl).trans hl0)) (by unfold n_ke; rw [if_neg (fun q => nl (by rw [y_i2l]; exact q.1) (by rw [y_i2l]; exact q.2))])
theorem f_again {h : aH} (hr : w_hr z_D h) (hJ : y_J h) (hC : j_cost h) {iI j0 j1 j2 : Int32} (g0 : w_a h 188 = some (2, .inl [j0, j1, j2])) (hk : ∀ (r : Int32) (H : aH), y_fr h H [19584, 19598] [158, 159, 160, 161, 162] → y_J H → j_cost H → r = n_ag iI j0 j1 j2 → K0 (some (.int r)) H C S) : aOK s_P X (d + 1) a_m280 0 [some (.ref 155), some (.int iI), none, none, none] [] h C S K0 := by
  have hJ' := hJ
  obtain ⟨q1, q2, q3, q4, q5, q6, q7⟩ := hJ'
  obtain ⟨nd, le, de, ta, n1, n2, n3, n4, c1, c2, c3, c4, c5⟩ := q1
  obtain ⟨nd', sm, so, sa, s1, s2, s3, s4, s5⟩ := q5
  obtain rfl := y_fi n1 s1
  obtain ⟨nd', kn, km, ko, ks, k1, k2, k3, k4, k5, k6⟩ := id q6
  obtain rfl := y_fi n1 k1
  obtain ⟨de', to, kt, sn, sl, sh, o1, o2, o3, o4, o5, o6, o7, o8, o9⟩ := id q3
  obtain rfl := y_ai n3 o1
  obtain ⟨b1, b2⟩ := y_ndb hr n1
  refine w_go z_hl [40] [176] 30 hr ?_
  refine ⟨rfl, y_zini (by decide) (by decide), fun H1 h1 => ?_⟩
  have e1 : y_fr h H1 [19584] [] := y_st (y_mo (y_rf hr) rfl rfl) h1 (by repeat (first | exact w_nil | refine w_cons (Or.inl (y_m rfl)) ?_ | refine w_cons (Or.inr (by assumption)) ?_)) (by repeat (first | exact w_nil | refine w_cons (Or.inl (y_m rfl)) ?_ | refine w_cons (Or.inr (by assumption)) ?_))
  have out : ∀ {G : aH}, ¬ n_agV iI j0 j1 j2 → y_fr h G [19584] [] → K0 (some (.int (Int32.ofInt 0))) G C S := fun nv g => hk _ _ (y_mo g rfl rfl) (y_J_fr g rfl rfl hJ) (j_cost_e g rfl rfl hC) (by unfold n_ag; rw [if_neg nv])
  refine q_in e1.1 (fun H2 h2 l1 l2 => ⟨fun n e => (by cases e), ?_⟩) (fun H2 h2 nl => ⟨fun n e => (by cases e), ?_⟩)
  · have l1 : 0 ≤ iI.toInt := by rw [y_i2l] at l1; exact l1
    have l2 : iI.toInt ≤ 2 := by rw [y_i2l] at l2; exact l2
    obtain ⟨i, hi⟩ : ∃ i : Nat, iI.toInt = i := ⟨iI.toInt.toNat, by omega⟩
    have ci := y_cl1 hi
    have e2 := y_sq e1 h2 rfl rfl
    refine w_go z_hl [40] [176] 40 e2.1 ?_
    refine ⟨fun q => absurd q (by decide), fun _ => ?_⟩
    refine ⟨⟨by omega, by omega⟩, fun l hl len bb => ?_⟩
    obtain rfl := y_ai ((y_ae e2 rfl).trans g0) hl
    have hix : iI.toNatClampNeg = iI.toInt.toNat := rfl
    refine ⟨fun qz => ?_, fun qz => ⟨by decide, fun H3 h3 => out (fun v => (y_cif qz) v.2.2) (y_st e2 h3 (by repeat (first | exact w_nil | refine w_cons (Or.inl (y_m rfl)) ?_ | refine w_cons (Or.inr (by assumption)) ?_)) (by repeat (first | exact w_nil | refine w_cons (Or.inl (y_m rfl)) ?_ | refine w_cons (Or.inr (by assumption)) ?_)))⟩⟩
    have hv : n_agV iI j0 j1 j2 := ⟨l1, l2, (y_ci .ne _ _).mp qz⟩
    refine ⟨⟨by omega, by omega⟩, fun l2 hl2 len2 bb2 => ?_⟩
    obtain rfl := y_ai ((y_ae e2 rfl).trans k3) hl2
    have hm := bb2 _ (z_gd (0 : Int32) (show iI.toNatClampNeg < km.length by omega))
    refine ⟨rfl, y_zini hm.1 hm.2, ?_⟩
    intro H3 h3
    have e3 : y_fr h H3 [19584, 19598] [] := y_st (y_mo e2 rfl rfl) h3 (by repeat (first | exact w_nil | refine w_cons (Or.inl (y_m rfl)) ?_ | refine w_cons (Or.inr (by assumption)) ?_)) (by repeat (first | exact w_nil | refine w_cons (Or.inl (y_m rfl)) ?_ | refine w_cons (Or.inr (by assumption)) ?_))
    have F := h3.2.1 19598 _ rfl
    obtain ⟨kf, z1, z2, -⟩ := w_arrI e3.1 (o := 189) (t := 0) (n := 30) (lo := -1) (hi := 1) (by decide) rfl
    obtain ⟨kc, z3, z4, -⟩ := w_arrI e3.1 (o := 191) (t := 0) (n := 30) (lo := 0) (hi := 99) (by decide) rfl
    obtain ⟨fo, z5, z6, -⟩ := w_arrI e3.1 (o := 159) (t := 0) (n := 10) (lo := -1) (hi := 1) (by decide) rfl
    obtain ⟨co, z7, z8, -⟩ := w_arrI e3.1 (o := 161) (t := 0) (n := 10) (lo := 0) (hi := 99) (by decide) rfl
    obtain ⟨kn', z9, z10, z11⟩ := w_arrI e3.1 (o := 187) (t := 0) (n := 3) (lo := 0) (hi := 10) (by decide) rfl
    obtain rfl := y_ai ((y_ae e3 rfl).trans k2) (w_a_at z9)
    have pn : y_N kn i = y_Nn kn i := by
      have := z11 _ (z_gd (0 : Int32) (show i < kn.length by omega))
      unfold y_N y_Nn
      omega
    obtain ⟨ndc, co', knc, kcc, x1, x2, x3, x4, x5, x6⟩ := id hC
    obtain rfl := y_fi n1 x1
    obtain rfl := y_ai ((y_ae e3 rfl).trans x2) (w_a_at z7)
    obtain rfl := y_ai ((y_ae e3 rfl).trans x4) (w_a_at z3)
    obtain rfl := y_ai k2 x3
    refine y_again_out (de := de) (ks := ks) (ko := ko) (fun v hv => x6 i v (by omega) hv) hi (by omega) o8 b1 b2 pn nd.toInt.toNat H3 _ 0 none none fo sa co' so ta e3.1 ((y_fe e3 rfl).trans n1) ((y_ae e3 rfl).trans k2) (w_a_at z1) ((y_ae e3 rfl).trans k5) (w_a_at z3) ((y_ae e3 rfl).trans k4) ((y_ae e3 rfl).trans o3) ((y_ae e3 rfl).trans n4) (w_a_at z5) ((y_ae e3 rfl).trans s4) (w_a_at z7) ((y_ae e3 rfl).trans s3) rfl (by omega) c2 (fun u hu => absurd hu (by omega)) x5 (fun H4 sa' so' ta' co'' w1 w2 f1 f2 f3 f4 f5 f6 => ?_)
    have e4 : y_fr h H4 [19584, 19598] [158, 159, 160, 161, 162] := y_sq (y_mo e3 rfl rfl) f1 rfl rfl
    refine hk _ _ e4 ⟨⟨nd, le, de, ta', (y_fe e4 rfl).trans n1, (y_ae e4 rfl).trans n2, (y_ae e4 rfl).trans n3, f4, c1, f5, c3, c4, c5⟩, j_dp_e (y_fe e4 rfl) (y_fe e4 rfl) (y_ae e4 rfl) q2, j_old_e (y_ae e4 rfl) (y_ae e4 rfl) (y_ae e4 rfl) (y_ae e4 rfl) (y_ae e4 rfl) (y_ae e4 rfl) q3, j_w_e (y_fe e4 rfl) (y_ae e4 rfl) q4, ⟨nd, _, so', sa', (y_fe e4 rfl).trans n1, (y_fe f1 rfl).trans F, f3, f2, ?_⟩, j_kept_e (y_fe e4 rfl) (y_ae e4 rfl) (y_ae e4 rfl) (y_ae e4 rfl) (y_ae e4 rfl) q6, j_land_e (y_fe e4 rfl) (y_ae e4 rfl) q7⟩ ⟨nd, co'', kn, kcc, (y_fe e4 rfl).trans n1, w1, (y_ae e4 rfl).trans k2, (y_ae e4 rfl).trans x4, w2, x6⟩ (by unfold n_ag; rw [if_pos hv])
    rw [ci]
    have kj := k6 i (by omega)
    refine y_ord_x (p := y_Nn kn i) kj.2 (by have := kj.1; omega) (fun k hk' => (f6 k hk').2) (fun k hk' => (f6 k hk').1)
  · refine w_go z_hl [40] [176] 30 h2.1 ?_
    refine ⟨fun _ => ⟨by decide, fun H3 h3 => ?_⟩, fun q => absurd q (by decide)⟩
    exact out (fun v => nl (by rw [y_i2l]; exact v.1) (by rw [y_i2l]; exact v.2.1)) (y_st (y_sq e1 h2 rfl rfl) h3 (by repeat (first | exact w_nil | refine w_cons (Or.inl (y_m rfl)) ?_ | refine w_cons (Or.inr (by assumption)) ?_)) (by repeat (first | exact w_nil | refine w_cons (Or.inl (y_m rfl)) ?_ | refine w_cons (Or.inr (by assumption)) ?_)))
theorem f_sign_loop {a tI : Int32} (t0 : 0 ≤ tI.toInt) (t56 : tI.toInt ≤ 56) : ∀ (m : Nat) (h : aH) (kI : Int32) (k : Nat), w_hr z_D h → w_f h 19612 = some (.int tI) → kI.toInt = k → k + m = 4 → (∀ (H : aH), y_fr h H [19612] [171] → w_f H 19612 = some (.int (tI + Int32.ofInt 4)) → K0 (some (.int (tI + Int32.ofInt 4))) H C S) → aOK s_P X d a_m219 18 [some (.ref 155), some (.int a), some (.int kI)] [] h C S K0 := by
  intro m
  induction m with
  | zero =>
    intro h kI k hr g hk hm hK
    have inc : (tI + Int32.ofInt 4).toInt = tI.toInt + 4 := by
      rw [Int32.toInt_add, show (Int32.ofInt 4).toInt = 4 by decide]
      exact Int.bmod_eq_of_le (by omega) (by omega)
    refine w_go z_hl [18] [] 40 hr ?_
    refine ⟨fun _ => ?_, fun q => ?_⟩
    · intro x hx _ _
      obtain rfl := y_fi g hx
      exact ⟨rfl, y_zini (by show 0 ≤ (tI + Int32.ofInt 4).toInt; omega) (by show (tI + Int32.ofInt 4).toInt ≤ 60; omega), fun H hH => hK H (y_st (y_mo (y_rf hr) rfl rfl) hH (by repeat (first | exact w_nil | refine w_cons (Or.inl (y_m rfl)) ?_ | refine w_cons (Or.inr (by assumption)) ?_)) (by repeat (first | exact w_nil | refine w_cons (Or.inl (y_m rfl)) ?_ | refine w_cons (Or.inr (by assumption)) ?_))) (hH.2.1 19612 _ rfl)⟩
    · have : ¬ ((Int32.ofInt 4).toInt ≤ kI.toInt) := y_cif q
      rw [show (Int32.ofInt 4).toInt = 4 by decide] at this
      omega
  | succ m ih =>
    intro h kI k hr g hk hm hK
    have ink : (kI + Int32.ofInt 1).toInt = ((k + 1 : Nat) : Int) := by rw [y_inc (by omega), hk]; rfl
    have tk : (tI + kI).toInt = tI.toInt + k := by
      rw [Int32.toInt_add, hk]
      exact Int.bmod_eq_of_le (by omega) (by omega)
    have bx : 0 ≤ (tI + kI).toInt ∧ (tI + kI).toInt < ((60 : Nat) : Int) := by omega
    have b255 : ∀ x : Int32, 0 ≤ (x &&& (Int16.ofInt 255).toInt32).toInt ∧ (x &&& (Int16.ofInt 255).toInt32).toInt ≤ 255 := fun x => by
      have := z_t_and (x := x) (y := (Int16.ofInt 255).toInt32) (by decide)
      rw [show ((Int16.ofInt 255).toInt32).toInt = 255 by decide] at this
      exact this
    refine w_go z_hl [18] [] 40 hr ?_
    refine ⟨fun q => ?_, fun _ => ?_⟩
    · have : (Int32.ofInt 4).toInt ≤ kI.toInt := (y_ci .ge _ _).mp q
      rw [show (Int32.ofInt 4).toInt = 4 by decide] at this
      omega
    · intro x hx _ _
      obtain rfl := y_fi g hx
      refine ⟨bx, b255 _, fun l hl len bb => fun H hH => ?_⟩
      have e : y_fr h H [] [171] := y_st (y_mo (y_rf hr) rfl rfl) hH (by repeat (first | exact w_nil | refine w_cons (Or.inl (y_m rfl)) ?_ | refine w_cons (Or.inr (by assumption)) ?_)) (by repeat (first | exact w_nil | refine w_cons (Or.inl (y_m rfl)) ?_ | refine w_cons (Or.inr (by assumption)) ?_))
      exact ih H _ (k + 1) e.1 ((y_fe e rfl).trans g) ink (by omega) (fun H' f g' => hK H' (y_sq (y_mo e rfl rfl) f rfl rfl) g')
theorem f_sign {h : aH} (hr : w_hr z_D h) {a X0 : Int32} (g0 : w_f h 19612 = some (.int X0)) (yes : X0.toInt ≤ 56 → ∀ (H : aH), y_fr h H [19584, 19612] [171] → w_f H 19612 = some (.int (X0 + Int32.ofInt 4)) → K0 (some (.int (X0 + Int32.ofInt 4))) H C S) (no : ¬ X0.toInt ≤ 56 → ∀ (H : aH), y_fr h H [19584] [] → K0 (some (.int (Int32.ofInt (-1)))) H C S) : aOK s_P X d a_m219 0 [some (.ref 155), some (.int a), none] [] h C S K0 := by
  refine w_go z_hl [18] [] 40 hr ?_
  refine ⟨rfl, y_zini (by decide) (by decide), ?_⟩
  intro x hx x0 x60
  have ex : x = X0 := (y_fi g0 hx).symm
  subst ex
  have nv : a_cnd .le x ((Int8.ofInt 56).toInt32) = false → ¬ x.toInt ≤ 56 := by
    intro q v
    have q2 : ¬ (x.toInt ≤ ((Int8.ofInt 56).toInt32).toInt) := y_cif q
    rw [show ((Int8.ofInt 56).toInt32).toInt = 56 by decide] at q2
    exact q2 v
  refine ⟨fun q => fun H hH => ?_, fun q => fun H hH => no (nv q) H (y_st (y_mo (y_rf hr) rfl rfl) hH (by repeat (first | exact w_nil | refine w_cons (Or.inl (y_m rfl)) ?_ | refine w_cons (Or.inr (by assumption)) ?_)) (by repeat (first | exact w_nil | refine w_cons (Or.inl (y_m rfl)) ?_ | refine w_cons (Or.inr (by assumption)) ?_)))⟩
  have q2 : x.toInt ≤ ((Int8.ofInt 56).toInt32).toInt := (y_ci .le _ _).mp q
  rw [show ((Int8.ofInt 56).toInt32).toInt = 56 by decide] at q2
  have e : y_fr h H [19584, 19612] [171] := y_st (y_mo (y_rf hr) rfl rfl) hH (by repeat (first | exact w_nil | refine w_cons (Or.inl (y_m rfl)) ?_ | refine w_cons (Or.inr (by assumption)) ?_)) (by repeat (first | exact w_nil | refine w_cons (Or.inl (y_m rfl)) ?_ | refine w_cons (Or.inr (by assumption)) ?_))
  have e0 : y_fr h H [19584] [] := y_st (y_mo (y_rf hr) rfl rfl) hH (by repeat (first | exact w_nil | refine w_cons (Or.inl (y_m rfl)) ?_ | refine w_cons (Or.inr (by assumption)) ?_)) (by repeat (first | exact w_nil | refine w_cons (Or.inl (y_m rfl)) ?_ | refine w_cons (Or.inr (by assumption)) ?_))
  exact f_sign_loop x0 q2 4 H _ 0 e.1 ((y_fe e0 rfl).trans hx) rfl rfl (fun H' f g => yes q2 H' (y_sq e f rfl rfl) g)
theorem f_end {h : aH} (hr : w_hr z_D h) {a X0 : Int32} (g0 : w_f h 19612 = some (.int X0)) (yes : 0 ≤ a.toInt ∧ a.toInt ≤ X0.toInt → ∀ (H : aH), y_fr h H [19584, 19612] [] → w_f H 19612 = some (.int a) → K0 (some (.int (Int32.ofInt 1))) H C S) (no : ¬ (0 ≤ a.toInt ∧ a.toInt ≤ X0.toInt) → ∀ (H : aH), y_fr h H [19584] [] → K0 (some (.int (Int32.ofInt 0))) H C S) : aOK s_P X (d + 1) a_m220 0 [some (.ref 155), some (.int a)] [] h C S K0 := by
  have T16 : ∀ {G : aH}, (0 ≤ a.toInt ∧ a.toInt ≤ X0.toInt) → y_fr h G [19584, 19612] [] → 0 ≤ a.toInt → a.toInt ≤ 60 → aOK s_P X (d + 1) a_m220 16 [some (.ref 155), some (.int a)] [.int (y_01 true)] G C S K0 := by
    intro G v e a0 a6
    refine w_go z_hl [] [] 30 e.1 ?_
    exact ⟨fun _ => ⟨rfl, y_zini a0 a6, by decide, fun H hH => yes v H (y_st e hH (by repeat (first | exact w_nil | refine w_cons (Or.inl (y_m rfl)) ?_ | refine w_cons (Or.inr (by assumption)) ?_)) (by repeat (first | exact w_nil | refine w_cons (Or.inl (y_m rfl)) ?_ | refine w_cons (Or.inr (by assumption)) ?_))) (hH.2.1 19612 _ rfl)⟩, fun q => absurd q (by decide)⟩
  have T16n : ∀ {G : aH}, ¬ (0 ≤ a.toInt ∧ a.toInt ≤ X0.toInt) → y_fr h G [19584] [] → aOK s_P X (d + 1) a_m220 16 [some (.ref 155), some (.int a)] [.int (y_01 false)] G C S K0 := by
    intro G v e
    refine w_go z_hl [] [] 30 e.1 ?_
    exact ⟨fun q => absurd q (by decide), fun _ => ⟨by decide, fun H hH => no v H (y_st e hH (by repeat (first | exact w_nil | refine w_cons (Or.inl (y_m rfl)) ?_ | refine w_cons (Or.inr (by assumption)) ?_)) (by repeat (first | exact w_nil | refine w_cons (Or.inl (y_m rfl)) ?_ | refine w_cons (Or.inr (by assumption)) ?_)))⟩⟩
  refine w_go z_hl [] [176] 30 hr ?_
  refine ⟨rfl, y_zini (by decide) (by decide), ?_⟩
  intro x hx x0 x60
  intro H hH
  have ex : x = X0 := (y_fi g0 hx).symm
  subst ex
  have e : y_fr h H [19584] [] := y_st (y_mo (y_rf hr) rfl rfl) hH (by repeat (first | exact w_nil | refine w_cons (Or.inl (y_m rfl)) ?_ | refine w_cons (Or.inr (by assumption)) ?_)) (by repeat (first | exact w_nil | refine w_cons (Or.inl (y_m rfl)) ?_ | refine w_cons (Or.inr (by assumption)) ?_))
  refine q_in (v := a.toInt64) (lo := Int64.ofNat 0) (hi := x.toInt64) e.1 (fun H3 h3 l1 l2 => ⟨fun n e => (by cases e), ?_⟩) (fun H3 h3 l => ⟨fun n e => (by cases e), ?_⟩)
  · rw [y_i2l] at l1
    rw [y_i2l, y_i2l] at l2
    have x60' : x.toInt ≤ 60 := x60
    exact T16 ⟨l1, l2⟩ (y_sq (y_mo e rfl rfl) h3 rfl rfl) l1 (by omega)
  · exact T16n (fun v => l (by rw [y_i2l]; exact v.1) (by rw [y_i2l, y_i2l]; exact v.2)) (y_sq e h3 rfl rfl)
theorem f_say52 {h : aH} (hr : w_hr z_D h) (hJ : y_J h) (hS : j_say h) {nI mI sy0 : Int32} (w1 : w_f h 19603 = some (.int sy0)) (w2 : w_f h 19610 = some (.int sy0)) (w3 : w_f h 19613 = some (.int (Int32.ofInt 0))) (w4 : w_f h 19615 = some (.int (Int32.ofInt 0))) (s11 : sy0.toInt ≤ 11) (m0 : 0 ≤ mI.toInt) (m40 : mI.toInt ≤ 40) (hk : ∀ (r : Int32) (H : aH), y_fr h H [19584, 19603, 19610, 19613, 19614, 19615] [165, 166, 167, 168, 169, 170] → y_J H → j_say H → K0 (some (.int r)) H C S) : aOK s_P X (d + 169) a_m221 52 [some (.ref 155), some (.int nI), none, none] [.int mI, .ref 155] h C S K0 := by
  obtain ⟨q1, q2, q3, q4, q5, q6, q7⟩ := id hJ
  obtain ⟨sy, acl, kdl, nul, bel, fil, sgl, y1, y2, y3, y4, y5, y6, y7, y8⟩ := id hS
  obtain ⟨y0, y12⟩ := y_syb hr y1
  obtain ⟨tp, z1, z2, -⟩ := w_arrI hr (o := 171) (t := 0) (n := 60) (lo := 0) (hi := 255) (by decide) rfl
  have g171 := w_a_at z1
  obtain ⟨nd, le, de, ta, n1, n2, n3, n4, c1, c2, c3, c4, c5⟩ := id q1
  have keep : ∀ {G : aH}, y_fr h G [19584, 19603, 19610, 19613, 19614, 19615] [165, 166, 167, 168, 169, 170] → y_J G := fun e => ⟨j_net_e (y_fe e rfl) (y_ae e rfl) (y_ae e rfl) (y_ae e rfl) q1, j_dp_e (y_fe e rfl) (y_fe e rfl) (y_ae e rfl) q2, j_old_e (y_ae e rfl) (y_ae e rfl) (y_ae e rfl) (y_ae e rfl) (y_ae e rfl) (y_ae e rfl) q3, j_w_e (y_fe e rfl) (y_ae e rfl) q4, j_seen_e (y_fe e rfl) (y_fe e rfl) (y_ae e rfl) (y_ae e rfl) q5, j_kept_e (y_fe e rfl) (y_ae e rfl) (y_ae e rfl) (y_ae e rfl) (y_ae e rfl) q6, j_land_e (y_fe e rfl) (y_ae e rfl) q7⟩
  -- nothing new told
  have sayO : ∀ {G : aH} {kd' : List Int32} {nu' : List Int64} {be' fi' ac' sg' : List Int32}, w_f G 19603 = some (.int sy) → w_a G 165 = some (0, .inl ac') → w_a G 166 = some (0, .inl kd') → w_a G 167 = some (1, .inr (.inl nu')) → w_a G 168 = some (0, .inl be') → w_a G 169 = some (0, .inl fi') → w_a G 170 = some (0, .inl sg') → y_rw sy.toInt.toNat kdl kd' nul nu' bel be' fil fi' → (∀ j, j ≠ sy.toInt.toNat → y_N ac' j = y_N acl j) → (∀ j, j / 40 ≠ sy.toInt.toNat → y_N sg' j = y_N sgl j) → ∀ s : Nat, (s : Int) < sy.toInt → y_s1 ac' kd' nu' be' fi' sg' s := by
    intro G kd' nu' be' fi' ac' sg' e1 e2 e3 e4 e5 e6 e7 rw' ha hsg s hs
    obtain ⟨t0, t1, t2⟩ := y8 s hs
    have hT : ∀ j, j < 40 → y_tx sg' s j = y_tx sgl s j := fun j hj => hsg _ (by omega)
    refine ⟨y_tm_c (y_tm_rw t0 rw' (by omega)) hT (Nat.le_refl _), y_tm_c (y_tm_rw t1 rw' (by omega)) hT (Nat.le_refl _), fun q => ?_⟩
    rw [ha s (by omega)] at q
    rw [rw'.1 (2 * s) (by omega), rw'.1 (2 * s + 1) (by omega)]
    exact t2 q
  have T148 : ∀ {G : aH} {nI gI k' : Int32} {t q : Nat} {o : Int} {kd' : List Int32} {nu' : List Int64} {be' fi' ac' sg' : List Int32}, y_fr h G [19584, 19610, 19613, 19614, 19615] [165, 166, 167, 168, 169, 170] → y_rs G tp t q o sy.toInt.toNat kd' nu' be' fi' → w_a G 165 = some (0, .inl ac') → w_a G 170 = some (0, .inl sg') → y_rw sy.toInt.toNat kdl kd' nul nu' bel be' fil fi' → (∀ j, j ≠ sy.toInt.toNat → y_N ac' j = y_N acl j) → (∀ j, j / 40 ≠ sy.toInt.toNat → y_N sg' j = y_N sgl j) → (∀ j, j < t → y_N sg' (40 * sy.toInt.toNat + j) = y_N tp j) → y_tm (y_N tp) t (2 * sy.toInt.toNat) kd' nu' be' fi' → y_tm (y_N tp) t (2 * sy.toInt.toNat + 1) kd' nu' be' fi' → (y_N ac' sy.toInt.toNat = 126 → y_N kd' (2 * sy.toInt.toNat) ≠ 0 ∧ y_N kd' (2 * sy.toInt.toNat + 1) ≠ 0) → sy.toInt ≤ 11 → aOK s_P X (d + 169) a_m221 148 [some (.ref 155), some (.int nI), some (.int gI), some (.int k')] [] G C S K0 := by
    intro G nI gI k' t q o kd' nu' be' fi' ac' sg' e rs a1 a2 rw' ha hsg hT t0 t1 t2 s11
    obtain ⟨hr', -, t40, -⟩ := y_rs_hr rs
    obtain ⟨r1, r2, r4, r5, r6, r7, r8⟩ := rs
    have hinc : (sy + Int32.ofInt 1).toInt = sy.toInt + 1 := y_inc (by omega)
    refine w_go z_hl [] [] 40 e.1 ?_
    intro x hx _ _
    obtain rfl := y_fi ((y_fe e rfl).trans y1) hx
    refine ⟨rfl, y_zini (by show 0 ≤ (sy + Int32.ofInt 1).toInt; omega) (by show (sy + Int32.ofInt 1).toInt ≤ 12; omega), ?_⟩
    intro H hH
    have f : y_fr G H [19603] [] := y_st (y_mo (y_rf e.1) rfl rfl) hH (by repeat (first | exact w_nil | refine w_cons (Or.inl (y_m rfl)) ?_ | refine w_cons (Or.inr (by assumption)) ?_)) (by repeat (first | exact w_nil | refine w_cons (Or.inl (y_m rfl)) ?_ | refine w_cons (Or.inr (by assumption)) ?_))
    have e2 : y_fr h H [19584, 19603, 19610, 19613, 19614, 19615] [165, 166, 167, 168, 169, 170] := y_sq (y_mo e rfl rfl) f rfl rfl
    refine hk _ H e2 (keep e2) ⟨_, ac', kd', nu', be', fi', sg', hH.2.1 19603 _ rfl, (y_ae f rfl).trans a1, (y_ae f rfl).trans r5, (y_ae f rfl).trans r6, (y_ae f rfl).trans r7, (y_ae f rfl).trans r8, (y_ae f rfl).trans a2, fun s hs => ?_⟩
    have hs2 : (s : Int) < (sy + Int32.ofInt 1).toInt := hs
    by_cases qs : (s : Int) < sy.toInt
    · exact sayO ((y_fe e rfl).trans y1) a1 r5 r6 r7 r8 a2 rw' ha hsg s qs
    · have es : s = sy.toInt.toNat := by omega
      subst es
      exact ⟨y_tm_c t0 hT t40, y_tm_c t1 hT t40, t2⟩
  have out : ∀ {G : aH} {r : Int32} {t q : Nat} {o : Int} {kd' : List Int32} {nu' : List Int64} {be' fi' ac' : List Int32}, y_fr h G [19584, 19610, 19613, 19614, 19615] [165, 166, 167, 168, 169] → y_rs G tp t q o sy.toInt.toNat kd' nu' be' fi' → w_a G 165 = some (0, .inl ac') → y_rw sy.toInt.toNat kdl kd' nul nu' bel be' fil fi' → (∀ j, j ≠ sy.toInt.toNat → y_N ac' j = y_N acl j) → K0 (some (.int r)) G C S := by
    intro G r t q o kd' nu' be' fi' ac' e rs a1 rw' ha
    have e2 : y_fr h G [19584, 19603, 19610, 19613, 19614, 19615] [165, 166, 167, 168, 169, 170] := y_mo e rfl rfl
    obtain ⟨r1, r2, r4, r5, r6, r7, r8⟩ := rs
    exact hk _ G e2 (keep e2) ⟨sy, ac', kd', nu', be', fi', sgl, (y_fe e rfl).trans y1, a1, r5, r6, r7, r8, (y_ae e rfl).trans y7, sayO ((y_fe e rfl).trans y1) a1 r5 r6 r7 r8 ((y_ae e rfl).trans y7) rw' ha (fun _ _ => rfl)⟩
  -- behind the reading
  have T78 : ∀ {G : aH} {nI gI : Int32} {t q : Nat} {o : Int} {kd' : List Int32} {nu' : List Int64} {be' fi' ac' : List Int32}, y_fr h G [19584, 19610, 19613, 19614, 19615] [165, 166, 167, 168, 169] → y_rs G tp t q o sy.toInt.toNat kd' nu' be' fi' → w_a G 165 = some (0, .inl ac') → y_rw sy.toInt.toNat kdl kd' nul nu' bel be' fil fi' → (∀ j, j ≠ sy.toInt.toNat → y_N ac' j = y_N acl j) → sy.toInt ≤ 11 → (gI ≠ 0 → y_tm (y_N tp) t (2 * sy.toInt.toNat) kd' nu' be' fi' ∧ y_tm (y_N tp) t (2 * sy.toInt.toNat + 1) kd' nu' be' fi' ∧ (y_N ac' sy.toInt.toNat = 126 → y_N kd' (2 * sy.toInt.toNat) ≠ 0 ∧ y_N kd' (2 * sy.toInt.toNat + 1) ≠ 0)) → aOK s_P X (d + 169) a_m221 78 [some (.ref 155), some (.int nI), none, none] [.int gI] G C S K0 := by
    intro G nI gI t q o kd' nu' be' fi' ac' e rs a1 rw' ha s11 hg
    have fin : ∀ {H : aH} {r : Int32}, y_fr G H [] [] → K0 (some (.int r)) H C S := fun f => out (y_sq e f rfl rfl) (y_rs_fr rs f) ((y_ae f rfl).trans a1) rw' ha
    obtain ⟨toI, atI, opI, nd', hr', b1, b2, b3, b4, b5, b6, b7, b8, pt', t40, o0', o5'⟩ := id rs.1
    obtain ⟨iI, i1, i2⟩ := id rs.2.1
    have T112 : ∀ {H : aH}, y_fr G H [] [] → gI ≠ 0 → aOK s_P X (d + 169) a_m221 112 [some (.ref 155), some (.int nI), some (.int gI), none] [] H C S K0 := by
      intro H f hg0
      refine w_go z_hl [114] [] 40 f.1 ?_
      intro H2 h2
      have f2 := y_st f h2 (by repeat (first | exact w_nil | refine w_cons (Or.inl (y_m rfl)) ?_ | refine w_cons (Or.inr (by assumption)) ?_)) (by repeat (first | exact w_nil | refine w_cons (Or.inl (y_m rfl)) ?_ | refine w_cons (Or.inr (by assumption)) ?_))
      have e2 := y_sq e f2 rfl rfl
      refine y_say_copy b3 t40 i2 (by omega) t H2 _ 0 sgl f2.1 ((y_fe f2 rfl).trans b2) ((y_fe f2 rfl).trans i1) ((y_ae f2 rfl).trans b1) ((y_ae e2 rfl).trans y7) rfl (by omega) (fun j hj => absurd hj (by omega)) (fun H3 k' sg' f3 a3 hT hsg => ?_)
      obtain ⟨t0, t1, t2⟩ := hg hg0
      obtain ⟨r1, ⟨jI, r2, r3⟩, r4, r5, r6, r7, r8⟩ := y_rs_fr rs f2
      exact T148 (y_sq (y_mo e2 rfl rfl) f3 rfl rfl) ⟨y_ps_fr r1 f3 rfl rfl, ⟨jI, (y_fe f3 rfl).trans r2, r3⟩, r4, (y_ae f3 rfl).trans r5, (y_ae f3 rfl).trans r6, (y_ae f3 rfl).trans r7, (y_ae f3 rfl).trans r8⟩ ((y_ae f3 rfl).trans ((y_ae f2 rfl).trans a1)) a3 rw' ha hsg hT t0 t1 t2 s11
    have T101 : ∀ {H : aH}, y_fr G H [] [] → aOK s_P X (d + 169) a_m221 101 [some (.ref 155), some (.int nI), some (.int gI), none] [] H C S K0 := by
      intro H f
      refine w_go z_hl [112] [] 40 f.1 ?_
      refine ⟨fun q => fun H2 h2 => ?_, fun _ => ?_⟩
      · have q2 : gI.toInt ≠ (0 : Int32).toInt := (y_ci .ne _ _).mp q
        exact T112 (y_st f h2 (by repeat (first | exact w_nil | refine w_cons (Or.inl (y_m rfl)) ?_ | refine w_cons (Or.inr (by assumption)) ?_)) (by repeat (first | exact w_nil | refine w_cons (Or.inl (y_m rfl)) ?_ | refine w_cons (Or.inr (by assumption)) ?_))) (fun e => q2 (by rw [e]))
      · intro x hx _ _
        exact fun H2 h2 => fin (y_st f h2 (by repeat (first | exact w_nil | refine w_cons (Or.inl (y_m rfl)) ?_ | refine w_cons (Or.inr (by assumption)) ?_)) (by repeat (first | exact w_nil | refine w_cons (Or.inl (y_m rfl)) ?_ | refine w_cons (Or.inr (by assumption)) ?_)))
    refine w_go z_hl [101] [] 40 e.1 ?_
    refine ⟨fun _ => fun H hH => T101 (y_st (y_rf e.1) hH (by repeat (first | exact w_nil | refine w_cons (Or.inl (y_m rfl)) ?_ | refine w_cons (Or.inr (by assumption)) ?_)) (by repeat (first | exact w_nil | refine w_cons (Or.inl (y_m rfl)) ?_ | refine w_cons (Or.inr (by assumption)) ?_))), fun _ => ⟨fun _ => fun H hH => fin (y_st (y_rf e.1) hH (by repeat (first | exact w_nil | refine w_cons (Or.inl (y_m rfl)) ?_ | refine w_cons (Or.inr (by assumption)) ?_)) (by repeat (first | exact w_nil | refine w_cons (Or.inl (y_m rfl)) ?_ | refine w_cons (Or.inr (by assumption)) ?_))), fun _ => ?_⟩⟩
    intro x hx _ _
    exact ⟨fun _ => fun H hH => T101 (y_st (y_rf e.1) hH (by repeat (first | exact w_nil | refine w_cons (Or.inl (y_m rfl)) ?_ | refine w_cons (Or.inr (by assumption)) ?_)) (by repeat (first | exact w_nil | refine w_cons (Or.inl (y_m rfl)) ?_ | refine w_cons (Or.inr (by assumption)) ?_))), fun _ => fun H hH => fin (y_st (y_rf e.1) hH (by repeat (first | exact w_nil | refine w_cons (Or.inl (y_m rfl)) ?_ | refine w_cons (Or.inr (by assumption)) ?_)) (by repeat (first | exact w_nil | refine w_cons (Or.inl (y_m rfl)) ?_ | refine w_cons (Or.inr (by assumption)) ?_)))⟩
  have T59y : ∀ {G : aH} {nI : Int32} {t q : Nat} {o : Int} {kd' : List Int32} {nu' : List Int64} {be' fi' ac' : List Int32}, y_fr h G [19584, 19610, 19613, 19614, 19615] [165, 166, 167, 168, 169] → y_rs G tp t q o sy.toInt.toNat kd' nu' be' fi' → w_a G 165 = some (0, .inl ac') → y_rw sy.toInt.toNat kdl kd' nul nu' bel be' fil fi' → (∀ j, j ≠ sy.toInt.toNat → y_N ac' j = y_N acl j) → sy.toInt ≤ 11 → y_tm (y_N tp) t (2 * sy.toInt.toNat) kd' nu' be' fi' → y_tm (y_N tp) t (2 * sy.toInt.toNat + 1) kd' nu' be' fi' → (y_N ac' sy.toInt.toNat = 126 → y_N kd' (2 * sy.toInt.toNat) ≠ 0 ∧ y_N kd' (2 * sy.toInt.toNat + 1) ≠ 0) → aOK s_P X (d + 169) a_m221 59 [some (.ref 155), some (.int nI), none, none] [.int (Int32.ofInt 1)] G C S K0 := by
    intro G nI t q o kd' nu' be' fi' ac' e rs a1 rw' ha s11 t0 t1 t2
    refine w_go z_hl [78] [] 40 e.1 ?_
    refine ⟨fun q => absurd q (by decide), fun _ => ?_⟩
    intro x hx _ _
    intro y hy _ _
    refine ⟨fun _ => fun H hH => ?_, fun _ => fun H hH => ?_⟩
    · have f : y_fr G H [] [] := y_st (y_rf e.1) hH (by repeat (first | exact w_nil | refine w_cons (Or.inl (y_m rfl)) ?_ | refine w_cons (Or.inr (by assumption)) ?_)) (by repeat (first | exact w_nil | refine w_cons (Or.inl (y_m rfl)) ?_ | refine w_cons (Or.inr (by assumption)) ?_))
      exact T78 (y_sq e f rfl rfl) (y_rs_fr rs f) ((y_ae f rfl).trans a1) rw' ha s11 (fun q => absurd rfl q)
    · have f : y_fr G H [] [] := y_st (y_rf e.1) hH (by repeat (first | exact w_nil | refine w_cons (Or.inl (y_m rfl)) ?_ | refine w_cons (Or.inr (by assumption)) ?_)) (by repeat (first | exact w_nil | refine w_cons (Or.inl (y_m rfl)) ?_ | refine w_cons (Or.inr (by assumption)) ?_))
      exact T78 (y_sq e f rfl rfl) (y_rs_fr rs f) ((y_ae f rfl).trans a1) rw' ha s11 (fun _ => ⟨t0, t1, t2⟩)
  have T59n : ∀ {G : aH} {nI : Int32} {t q : Nat} {o : Int} {kd' : List Int32} {nu' : List Int64} {be' fi' ac' : List Int32}, y_fr h G [19584, 19610, 19613, 19614, 19615] [165, 166, 167, 168, 169] → y_rs G tp t q o sy.toInt.toNat kd' nu' be' fi' → w_a G 165 = some (0, .inl ac') → y_rw sy.toInt.toNat kdl kd' nul nu' bel be' fil fi' → (∀ j, j ≠ sy.toInt.toNat → y_N ac' j = y_N acl j) → sy.toInt ≤ 11 → aOK s_P X (d + 169) a_m221 59 [some (.ref 155), some (.int nI), none, none] [.int (Int32.ofInt 0)] G C S K0 := by
    intro G nI t q o kd' nu' be' fi' ac' e rs a1 rw' ha s11
    refine w_go z_hl [78] [] 40 e.1 ?_
    refine ⟨fun _ => fun H hH => ?_, fun q => absurd q (by decide)⟩
    have f : y_fr G H [] [] := y_st (y_rf e.1) hH (by repeat (first | exact w_nil | refine w_cons (Or.inl (y_m rfl)) ?_ | refine w_cons (Or.inr (by assumption)) ?_)) (by repeat (first | exact w_nil | refine w_cons (Or.inl (y_m rfl)) ?_ | refine w_cons (Or.inr (by assumption)) ?_))
    exact T78 (y_sq e f rfl rfl) (y_rs_fr rs f) ((y_ae f rfl).trans a1) rw' ha s11 (fun q => absurd rfl q)
  have T52 : ∀ {G : aH} {nI mI : Int32}, y_fr h G [19584, 19610, 19613, 19615] [] → w_f G 19610 = some (.int sy) → w_f G 19613 = some (.int (Int32.ofInt 0)) → w_f G 19615 = some (.int (Int32.ofInt 0)) → sy.toInt ≤ 11 → 0 ≤ mI.toInt → mI.toInt ≤ 40 → aOK s_P X (d + 169) a_m221 52 [some (.ref 155), some (.int nI), none, none] [.int mI, .ref 155] G C S K0 := by
    intro G nI mI e f1 f2 f3 s11 m0 m40
    refine w_go z_hl [] [222] 40 e.1 ?_
    refine ⟨rfl, y_zini m0 m40, fun H hH => ?_⟩
    have f : y_fr G H [19614] [] := y_st (y_mo (y_rf e.1) rfl rfl) hH (by repeat (first | exact w_nil | refine w_cons (Or.inl (y_m rfl)) ?_ | refine w_cons (Or.inr (by assumption)) ?_)) (by repeat (first | exact w_nil | refine w_cons (Or.inl (y_m rfl)) ?_ | refine w_cons (Or.inr (by assumption)) ?_))
    have e2 : y_fr h H [19584, 19610, 19613, 19614, 19615] [] := y_sq (y_mo e rfl rfl) f rfl rfl
    have ps : y_ps H tp mI.toInt.toNat 0 0 := ⟨mI, _, _, nd, f.1, (y_ae e2 rfl).trans g171, hH.2.1 19614 _ rfl, by omega, (y_fe f rfl).trans f2, rfl, (y_fe f rfl).trans f3, rfl, (y_fe e2 rfl).trans n1, by omega, by omega, by decide, by decide⟩
    have rs : y_rs H tp mI.toInt.toNat 0 0 sy.toInt.toNat kdl nul bel fil := ⟨ps, ⟨sy, (y_fe f rfl).trans f1, by omega⟩, by omega, (y_ae e2 rfl).trans y3, (y_ae e2 rfl).trans y4, (y_ae e2 rfl).trans y5, (y_ae e2 rfl).trans y6⟩
    refine y_readsSaying rs ((y_ae e2 rfl).trans y2) (fun H2 q kd' nu' be' fi' ac' sg t0 t1 t2 => ⟨fun n e => (by cases e), ?_⟩) (fun H2 q o' kd' nu' be' fi' ac' sg => ⟨fun n e => (by cases e), ?_⟩)
    · exact T59y (y_sq (y_mo e2 rfl rfl) sg.1 rfl rfl) sg.2.1 sg.2.2.2.1 sg.2.2.1 sg.2.2.2.2.2 s11 t0 t1 t2
    · exact T59n (y_sq (y_mo e2 rfl rfl) sg.1 rfl rfl) sg.2.1 sg.2.2.2.1 sg.2.2.1 sg.2.2.2.2.2 s11
  obtain rfl := y_fi y1 w1
  exact T52 (y_mo (y_rf hr) rfl rfl) w2 w3 w4 s11 m0 m40
theorem f_say {h : aH} (hr : w_hr z_D h) (hJ : y_J h) (hS : j_say h) (hk : ∀ (r : Int32) (H : aH), y_fr h H [19584, 19603, 19610, 19612, 19613, 19614, 19615] [165, 166, 167, 168, 169, 170] → y_J H → j_say H → w_f H 19612 = some (.int (Int32.ofInt 0)) → K0 (some (.int r)) H C S) : aOK s_P X (d + 169) a_m221 0 [some (.ref 155), none, none, none] [] h C S K0 := by
  obtain ⟨sy, acl, kdl, nul, bel, fil, sgl, y1, y2, y3, y4, y5, y6, y7, y8⟩ := id hS
  obtain ⟨y0, y12⟩ := y_syb hr y1
  refine w_go z_hl [52] [] 40 hr ?_
  refine ⟨rfl, y_zini (by decide) (by decide), ?_⟩
  intro x hx x0 x60
  refine ⟨rfl, y_zini (by decide) (by decide), ?_⟩
  intro y hy _ _
  obtain rfl := y_fi y1 hy
  refine ⟨fun q => ?_, fun _ => fun H hH => ?_⟩
  · have q2 : sy.toInt ≠ ((Int8.ofInt 12).toInt32).toInt := (y_ci .ne _ _).mp q
    rw [show ((Int8.ofInt 12).toInt32).toInt = 12 by decide] at q2
    refine ⟨rfl, y_zini (by show 0 ≤ sy.toInt; omega) (by show sy.toInt ≤ 12; omega), rfl, y_zini (by decide) (by decide), rfl, y_zini (by decide) (by decide), ?_⟩
    have c40 : ((Int8.ofInt 40).toInt32).toInt = 40 := by decide
    refine ⟨fun q3 => fun H hH => ?_, fun q3 => fun H hH => ?_⟩
    · have e2 : y_fr h H [19584, 19610, 19612, 19613, 19615] [] := y_st (y_mo (y_rf hr) rfl rfl) hH (by repeat (first | exact w_nil | refine w_cons (Or.inl (y_m rfl)) ?_ | refine w_cons (Or.inr (by assumption)) ?_)) (by repeat (first | exact w_nil | refine w_cons (Or.inl (y_m rfl)) ?_ | refine w_cons (Or.inr (by assumption)) ?_))
      exact f_say52 e2.1 (y_J_fr e2 rfl rfl hJ) (j_say_e e2 rfl rfl hS) ((y_fe e2 rfl).trans y1) (hH.2.1 19610 _ rfl) (hH.2.1 19613 _ rfl) (hH.2.1 19615 _ rfl) (by omega) (by rw [c40]; decide) (by rw [c40]; decide) (fun r H2 f qJ qS => hk r H2 (y_sq (y_mo e2 rfl rfl) f rfl rfl) qJ qS ((y_fe f rfl).trans (hH.2.1 19612 _ rfl)))
    · have q4 : ¬ (((Int8.ofInt 40).toInt32).toInt < x.toInt) := y_cif q3
      rw [c40] at q4
      have e2 : y_fr h H [19584, 19610, 19612, 19613, 19615] [] := y_st (y_mo (y_rf hr) rfl rfl) hH (by repeat (first | exact w_nil | refine w_cons (Or.inl (y_m rfl)) ?_ | refine w_cons (Or.inr (by assumption)) ?_)) (by repeat (first | exact w_nil | refine w_cons (Or.inl (y_m rfl)) ?_ | refine w_cons (Or.inr (by assumption)) ?_))
      exact f_say52 e2.1 (y_J_fr e2 rfl rfl hJ) (j_say_e e2 rfl rfl hS) ((y_fe e2 rfl).trans y1) (hH.2.1 19610 _ rfl) (hH.2.1 19613 _ rfl) (hH.2.1 19615 _ rfl) (by omega) x0 (by omega) (fun r H2 f qJ qS => hk r H2 (y_sq (y_mo e2 rfl rfl) f rfl rfl) qJ qS ((y_fe f rfl).trans (hH.2.1 19612 _ rfl)))
  · have e2 : y_fr h H [19584, 19612] [] := y_st (y_mo (y_rf hr) rfl rfl) hH (by repeat (first | exact w_nil | refine w_cons (Or.inl (y_m rfl)) ?_ | refine w_cons (Or.inr (by assumption)) ?_)) (by repeat (first | exact w_nil | refine w_cons (Or.inl (y_m rfl)) ?_ | refine w_cons (Or.inr (by assumption)) ?_))
    exact hk _ H (y_mo e2 rfl rfl) (y_J_fr e2 rfl rfl hJ) (j_say_e e2 rfl rfl hS) (hH.2.1 19612 _ rfl)

theorem n_bd {h : aH} {key : Nat} {lo hi : Int} {x : Int32} (hr : w_hr z_D h) (hf : w_f h key = some (.int x)) (hd : t_dk key = some (1, lo, hi)) : lo ≤ x.toInt ∧ x.toInt ≤ hi := by
  obtain ⟨w, w1, w2⟩ := t_dk_ok hd hr
  rw [hf] at w1
  cases w1
  rcases w2 with ⟨-, y, e, q1, q2⟩ | ⟨q, -⟩
  · cases e
    exact ⟨q1, q2⟩
  · exact absurd (show (1 : Nat) = 2 from q) (by decide)
theorem n_cV_up {h H : aH} {v : Nat → Int32} {k0 : Nat} {x : Int32} (s : ∀ k ∈ nC, k ∉ [k0] → w_f H k = w_f h k) (sa : ∀ o ∈ nCA, o * 128 ∉ [k0] → w_a H o = w_a h o) (q : n_cV h v) (g : w_f H k0 = some (.int x)) (h0 : n_fr0 k0 = true) (h1 : nCA.all (fun o => decide (o * 128 ≠ k0)) = true) : n_cV H (n_up v k0 x) := by
  refine ⟨fun k hk => ?_, n_cA_S (fun o ho => sa o ho (fun w => ?_)) (n_cA_up h0 q.2)⟩
  · unfold n_up
    by_cases e : k = k0
    · subst e
      rw [if_pos rfl]
      exact g
    · rw [if_neg e]
      exact (s k hk (fun w => e (List.mem_singleton.mp w))).trans (q.1 k hk)
  · exact of_decide_eq_true (List.all_eq_true.mp h1 o ho) (List.mem_singleton.mp w)
/-- the same where the reference's rows rest on the field, and the class's do not -/
theorem n_cV_upK {h H : aH} {v : Nat → Int32} {k0 : Nat} {x : Int32} (s : ∀ k ∈ nC, k ∉ [k0] → w_f H k = w_f h k) (_ : ∀ o ∈ nCA, o * 128 ∉ [k0] → w_a H o = w_a h o) (q : n_cV h v) (g : w_f H k0 = some (.int x)) (_ : nCA.all (fun o => decide (o * 128 ≠ k0)) = true) : n_cV H (n_up v k0 x) := by
  refine ⟨fun k hk => ?_, trivial⟩
  unfold n_up
  by_cases e : k = k0
  · subst e
    rw [if_pos rfl]
    exact g
  · rw [if_neg e]
    exact (s k hk (fun w => e (List.mem_singleton.mp w))).trans (q.1 k hk)
/-- class and reference of a pair -/
def n_pc (X : aX) (M : aM) (n : Nat) (b : Bool) (st : List Int32 → (Nat → Int32) → (Nat → Int32) × Int32) : Prop := ∀ (us : List Int32) (h : aH) (v : Nat → Int32) (C S : Nat) (K0 : Option Value → aH → Nat → Nat → Prop), us.length = n → (b = true → ∀ u ∈ us, 0 ≤ u.toInt ∧ u.toInt ≤ 1) → t_I h → n_cV h v → n_mV h v → (∀ (H : aH), t_I H → n_cV H (st us v).1 → n_mV H v → K0 (some (.int (st us v).2)) H C S) → aOK s_P X 200 M 0 (a_ent (.ref 2 :: us.map .int) M.2.2.1) [] h C S K0
def n_pr (X : aX) (M : aM) (n : Nat) (b : Bool) (st : List Int32 → (Nat → Int32) → (Nat → Int32) × Int32) : Prop := ∀ (us : List Int32) (h : aH) (w v : Nat → Int32) (C S : Nat) (K0 : Option Value → aH → Nat → Nat → Prop), us.length = n → (b = true → ∀ u ∈ us, 0 ≤ u.toInt ∧ u.toInt ≤ 1) → t_I h → n_cV h w → n_mV h v → (∀ (H : aH), t_I H → n_cV H w → n_mV H (st us v).1 → K0 (some (.int (st us v).2)) H C S) → aOK s_P X 200 M 0 (a_ent (.ref 155 :: us.map .int) M.2.2.1) [] h C S K0
theorem n_c127 : n_pc X a_m127 2 false n_s127 := by
  intro us h v C S K0 hl _ hI hc hm hk
  match us, hl with
  | [a, b], _ =>
    have i1 := s_i32 a
    have i2 := s_i32 b
    have f16 := hc.1 16 (by decide)
    have b16 := n_bd (lo := 0) (hi := 6) hI.1 f16 rfl
    by_cases q : n_hd a b (v 16)
    · rw [show n_s127 [a, b] v = (n_up v 16 (v 16 + Int32.ofInt 1), v 16) from if_pos q] at hk
      obtain ⟨q1, q2, q3, q4, q5⟩ := q
      refine n_ctx (us := [a, b]) (ws := [.int a, .int b, .int (v 16)]) (m := 0) (z_hd0_s (y_jx_l y_JA_x)) rfl rfl rfl hI rfl rfl (by decide +kernel) (by decide +kernel) rfl (n_Ra (by omega) (by omega) rfl (n_Ra (by omega) (by omega) rfl (n_Rf rfl f16 (by omega) (by omega) n_Rn))) (fun _ h => absurd h List.not_mem_nil) (fun T hT ρX x H hI' htm hg => ?_)
      obtain rfl := List.mem_singleton.mp hT
      have r0 := n_v (j := 0) htm rfl rfl rfl
      obtain ⟨y, r1, g1, -, -⟩ := n_f (o := 0) (k := 16) (j := 1) htm rfl rfl (by decide) rfl rfl
      have r2 : ρX[2]? = some (.int (v 16)) := hg 2 2 rfl
      have s1 := n_r (a := 0) (b := 2) (w := 0) htm rfl r0 r2
      have s2 := n_r (a := 2) (b := 0) (w := 0) htm rfl r2 r0
      have s3 := n_r (a := 1) (b := 2) (w := 1) htm rfl r1 r2
      have s4 := n_r (a := 2) (b := 1) (w := -1) htm rfl r2 r1
      have ex : x = v 16 := Int32.toInt_inj.mp (by omega)
      have ey : y = v 16 + Int32.ofInt 1 := Int32.toInt_inj.mp (by rw [y_inc (by omega)]; omega)
      rw [ey] at g1
      rw [ex]
      have hf := htm.2.2.2.2.2.1
      exact hk H hI' (n_cV_up (n_mk_c hI.1 hf (by decide +kernel)) (n_mk_a hf (by decide +kernel)) hc g1 rfl rfl) (n_mS_V (n_mk_m (ex := [16]) hI.1 hf (by decide +kernel)) hm)
    · rw [show n_s127 [a, b] v = (v, Int32.ofInt (-1)) from if_neg q] at hk
      by_cases q1 : a.toInt ≤ -1
      · exact n_ctxc (us := [a, b]) (ws := [.int a, .int b]) (m := 0) (Int32.ofInt (-1)) (z_hd1_s (y_jx_l y_JA_x)) rfl rfl rfl hI rfl rfl (by decide +kernel) (by decide +kernel) rfl (by decide +kernel) (n_Ra (by omega) (by omega) rfl (n_Ra (by omega) (by omega) rfl (n_Rn))) (fun _ h => absurd h List.not_mem_nil) (fun H h1 hf => hk H h1 (n_cS_V (n_sC hI.1 hf (by decide +kernel)) hc) (n_mS_V (n_mk_m (ex := []) hI.1 hf (by decide +kernel)) hm))
      · by_cases q2 : 32 ≤ a.toInt
        · exact n_ctxc (us := [a, b]) (ws := [.int a, .int b]) (m := 0) (Int32.ofInt (-1)) (z_hd2_s (y_jx_l y_JA_x)) rfl rfl rfl hI rfl rfl (by decide +kernel) (by decide +kernel) rfl (by decide +kernel) (n_Ra (by omega) (by omega) rfl (n_Ra (by omega) (by omega) rfl (n_Rn))) (fun _ h => absurd h List.not_mem_nil) (fun H h1 hf => hk H h1 (n_cS_V (n_sC hI.1 hf (by decide +kernel)) hc) (n_mS_V (n_mk_m (ex := []) hI.1 hf (by decide +kernel)) hm))
        · by_cases q3 : b.toInt ≤ 0
          · exact n_ctxc (us := [a, b]) (ws := [.int a, .int b]) (m := 0) (Int32.ofInt (-1)) (z_hd3_s (y_jx_l y_JA_x)) rfl rfl rfl hI rfl rfl (by decide +kernel) (by decide +kernel) rfl (by decide +kernel) (n_Ra (by omega) (by omega) rfl (n_Ra (by omega) (by omega) rfl (n_Rn))) (fun _ h => absurd h List.not_mem_nil) (fun H h1 hf => hk H h1 (n_cS_V (n_sC hI.1 hf (by decide +kernel)) hc) (n_mS_V (n_mk_m (ex := []) hI.1 hf (by decide +kernel)) hm))
          · by_cases q4 : 100 ≤ b.toInt
            · exact n_ctxc (us := [a, b]) (ws := [.int a, .int b]) (m := 0) (Int32.ofInt (-1)) (z_hd4_s (y_jx_l y_JA_x)) rfl rfl rfl hI rfl rfl (by decide +kernel) (by decide +kernel) rfl (by decide +kernel) (n_Ra (by omega) (by omega) rfl (n_Ra (by omega) (by omega) rfl (n_Rn))) (fun _ h => absurd h List.not_mem_nil) (fun H h1 hf => hk H h1 (n_cS_V (n_sC hI.1 hf (by decide +kernel)) hc) (n_mS_V (n_mk_m (ex := []) hI.1 hf (by decide +kernel)) hm))
            · have q5 : (v 16).toInt = 6 := by
                by_cases q5 : (v 16).toInt < 6
                · exact absurd ⟨by omega, by omega, by omega, by omega, by omega⟩ q
                · omega
              exact n_ctxc (us := [a, b]) (ws := [.int a, .int b, .int (v 16)]) (m := 0) (Int32.ofInt (-1)) (z_hd5_s (y_jx_l y_JA_x)) rfl rfl rfl hI rfl rfl (by decide +kernel) (by decide +kernel) rfl (by decide +kernel) (n_Ra (by omega) (by omega) rfl (n_Ra (by omega) (by omega) rfl (n_Rf rfl f16 (by omega) (by omega) (n_Rn)))) (fun _ h => absurd h List.not_mem_nil) (fun H h1 hf => hk H h1 (n_cS_V (n_sC hI.1 hf (by decide +kernel)) hc) (n_mS_V (n_mk_m (ex := []) hI.1 hf (by decide +kernel)) hm))
theorem n_days {h : aH} (hI : t_I h) {y : Int32} (hy : w_f h 17152 = some (.int y)) {k : Nat} (hk : k ∈ t_K) (hd : t_dk k = some (1, 0, 30)) : ∃ x : Int32, w_f h k = some (.int x) ∧ x.toInt ≤ y.toInt ∧ 0 ≤ x.toInt ∧ x.toInt ≤ 30 := by
  obtain ⟨x, y', q1, q2, q3⟩ := hI.2.2 k hk
  rw [hy] at q2
  cases q2
  have := n_bd hI.1 q1 hd
  exact ⟨x, q1, q3, this.1, this.2⟩
theorem n_c157 : n_pc X a_m157 3 true n_s157 := by
  intro us h v C S K0 hl hb hI hc hm hk
  match us, hl with
  | [a, b, c], _ =>
    have ha := hb rfl a (by simp)
    have hb' := hb rfl b (by simp)
    have hc' := hb rfl c (by simp)
    have f0 := hc.1 17152 (by decide)
    have b0 := n_bd (lo := 0) (hi := 30) hI.1 f0 rfl
    obtain ⟨x1, f1, p1, l1, u1⟩ := n_days hI f0 (k := 17153) (by decide) rfl
    obtain ⟨x2, f2, p2, l2, u2⟩ := n_days hI f0 (k := 17154) (by decide) rfl
    obtain ⟨x3, f3, p3, l3, u3⟩ := n_days hI f0 (k := 17155) (by decide) rfl
    obtain ⟨x4, f4, p4, l4, u4⟩ := n_days hI f0 (k := 17156) (by decide) rfl
    obtain ⟨x5, f5, p5, l5, u5⟩ := n_days hI f0 (k := 17157) (by decide) rfl
    by_cases q : n_dy b c (v 17152)
    · rw [show n_s157 [a, b, c] v = (n_up v 17152 (v 17152 + Int32.ofInt 1), v 17152 + Int32.ofInt 1) from if_pos q] at hk
      obtain ⟨q1, q2⟩ := q
      by_cases q3 : c.toInt = 0
      · refine n_ctx (us := [a, b, c]) (ws := [.int a, .int b, .int c, .int (v 17152), .int x1, .int x2, .int x3, .int x4, .int x5]) (m := 0) (z_da0_s (y_jx_l y_JA_x)) rfl rfl rfl hI rfl rfl (by decide +kernel) (by decide +kernel) rfl (n_Ra (by omega) (by omega) rfl (n_Ra (by omega) (by omega) rfl (n_Ra (by omega) (by omega) rfl (n_Rf rfl f0 (by omega) (by omega) (n_Rf rfl f1 (by omega) (by omega) (n_Rf rfl f2 (by omega) (by omega) (n_Rf rfl f3 (by omega) (by omega) (n_Rf rfl f4 (by omega) (by omega) (n_Rf rfl f5 (by omega) (by omega) (n_Rn)))))))))) (List.forall_mem_cons.mpr ⟨⟨x1, v 17152, rfl, rfl, by dsimp only; omega⟩, List.forall_mem_cons.mpr ⟨⟨x2, v 17152, rfl, rfl, by dsimp only; omega⟩, List.forall_mem_cons.mpr ⟨⟨x3, v 17152, rfl, rfl, by dsimp only; omega⟩, List.forall_mem_cons.mpr ⟨⟨x4, v 17152, rfl, rfl, by dsimp only; omega⟩, List.forall_mem_cons.mpr ⟨⟨x5, v 17152, rfl, rfl, by dsimp only; omega⟩, fun _ h => absurd h List.not_mem_nil⟩⟩⟩⟩⟩) (fun T hT ρX x H hI' htm hg => ?_)
        obtain rfl := List.mem_singleton.mp hT
        have r0 := n_v (j := 0) htm rfl rfl rfl
        obtain ⟨y, r1, g1, -, -⟩ := n_f (o := 134) (k := 0) (j := 1) htm rfl rfl (by decide) rfl rfl
        have r2 : ρX[7]? = some (.int (v 17152)) := hg 7 3 rfl
        have s1 := n_r (a := 0) (b := 7) (w := 1) htm rfl r0 r2
        have s2 := n_r (a := 7) (b := 0) (w := -1) htm rfl r2 r0
        have s3 := n_r (a := 0) (b := 1) (w := 0) htm rfl r0 r1
        have s4 := n_r (a := 1) (b := 0) (w := 0) htm rfl r1 r0
        have ei : (v 17152 + Int32.ofInt 1).toInt = (v 17152).toInt + 1 := y_inc (by omega)
        have ex : x = v 17152 + Int32.ofInt 1 := Int32.toInt_inj.mp (by omega)
        have ey : y = v 17152 + Int32.ofInt 1 := Int32.toInt_inj.mp (by omega)
        rw [ey] at g1
        rw [ex]
        have hf := htm.2.2.2.2.2.1
        exact hk H hI' (n_cV_up (k0 := 17152) (n_mk_c hI.1 hf (by decide +kernel)) (n_mk_a hf (by decide +kernel)) hc g1 rfl rfl) (n_mS_V (n_mk_m (ex := [17152]) hI.1 hf (by decide +kernel)) hm)
      · have q4 : b.toInt ≠ 0 := q2.resolve_left q3
        refine n_ctx (us := [a, b, c]) (ws := [.int a, .int b, .int c, .int (v 17152), .int x1, .int x2, .int x3, .int x4, .int x5]) (m := 0) (z_da1_s (y_jx_l y_JA_x)) rfl rfl rfl hI rfl rfl (by decide +kernel) (by decide +kernel) rfl (n_Ra (by omega) (by omega) rfl (n_Ra (by omega) (by omega) rfl (n_Ra (by omega) (by omega) rfl (n_Rf rfl f0 (by omega) (by omega) (n_Rf rfl f1 (by omega) (by omega) (n_Rf rfl f2 (by omega) (by omega) (n_Rf rfl f3 (by omega) (by omega) (n_Rf rfl f4 (by omega) (by omega) (n_Rf rfl f5 (by omega) (by omega) (n_Rn)))))))))) (List.forall_mem_cons.mpr ⟨⟨x1, v 17152, rfl, rfl, by dsimp only; omega⟩, List.forall_mem_cons.mpr ⟨⟨x2, v 17152, rfl, rfl, by dsimp only; omega⟩, List.forall_mem_cons.mpr ⟨⟨x3, v 17152, rfl, rfl, by dsimp only; omega⟩, List.forall_mem_cons.mpr ⟨⟨x4, v 17152, rfl, rfl, by dsimp only; omega⟩, List.forall_mem_cons.mpr ⟨⟨x5, v 17152, rfl, rfl, by dsimp only; omega⟩, fun _ h => absurd h List.not_mem_nil⟩⟩⟩⟩⟩) (fun T hT ρX x H hI' htm hg => ?_)
        obtain rfl := List.mem_singleton.mp hT
        have r0 := n_v (j := 0) htm rfl rfl rfl
        obtain ⟨y, r1, g1, -, -⟩ := n_f (o := 134) (k := 0) (j := 1) htm rfl rfl (by decide) rfl rfl
        have r2 : ρX[7]? = some (.int (v 17152)) := hg 7 3 rfl
        have s1 := n_r (a := 0) (b := 7) (w := 1) htm rfl r0 r2
        have s2 := n_r (a := 7) (b := 0) (w := -1) htm rfl r2 r0
        have s3 := n_r (a := 0) (b := 1) (w := 0) htm rfl r0 r1
        have s4 := n_r (a := 1) (b := 0) (w := 0) htm rfl r1 r0
        have ei : (v 17152 + Int32.ofInt 1).toInt = (v 17152).toInt + 1 := y_inc (by omega)
        have ex : x = v 17152 + Int32.ofInt 1 := Int32.toInt_inj.mp (by omega)
        have ey : y = v 17152 + Int32.ofInt 1 := Int32.toInt_inj.mp (by omega)
        rw [ey] at g1
        rw [ex]
        have hf := htm.2.2.2.2.2.1
        exact hk H hI' (n_cV_up (k0 := 17152) (n_mk_c hI.1 hf (by decide +kernel)) (n_mk_a hf (by decide +kernel)) hc g1 rfl rfl) (n_mS_V (n_mk_m (ex := [17152]) hI.1 hf (by decide +kernel)) hm)
    · rw [show n_s157 [a, b, c] v = (v, Int32.ofInt (-1)) from if_neg q] at hk
      by_cases q3 : (v 17152).toInt = 30
      · exact n_ctxc (us := [a, b, c]) (ws := [.int a, .int b, .int c, .int (v 17152), .int (x1), .int (x2), .int (x3), .int (x4), .int (x5)]) (m := 0) (Int32.ofInt (-1)) (z_da2_s (y_jx_l y_JA_x)) rfl rfl rfl hI rfl rfl (by decide +kernel) (by decide +kernel) rfl (by decide +kernel) (n_Ra (by omega) (by omega) rfl (n_Ra (by omega) (by omega) rfl (n_Ra (by omega) (by omega) rfl (n_Rf rfl f0 (by omega) (by omega) (n_Rf rfl f1 (by omega) (by omega) (n_Rf rfl f2 (by omega) (by omega) (n_Rf rfl f3 (by omega) (by omega) (n_Rf rfl f4 (by omega) (by omega) (n_Rf rfl f5 (by omega) (by omega) (n_Rn)))))))))) (List.forall_mem_cons.mpr ⟨⟨x1, v 17152, rfl, rfl, by dsimp only; omega⟩, List.forall_mem_cons.mpr ⟨⟨x2, v 17152, rfl, rfl, by dsimp only; omega⟩, List.forall_mem_cons.mpr ⟨⟨x3, v 17152, rfl, rfl, by dsimp only; omega⟩, List.forall_mem_cons.mpr ⟨⟨x4, v 17152, rfl, rfl, by dsimp only; omega⟩, List.forall_mem_cons.mpr ⟨⟨x5, v 17152, rfl, rfl, by dsimp only; omega⟩, fun _ h => absurd h List.not_mem_nil⟩⟩⟩⟩⟩) (fun H h1 hf => hk H h1 (n_cS_V (n_sC hI.1 hf (by decide +kernel)) hc) (n_mS_V (n_mk_m (ex := []) hI.1 hf (by decide +kernel)) hm))
      · have q4 : c.toInt = 1 ∧ b.toInt = 0 := by
          by_cases z1 : c.toInt = 0
          · exact absurd ⟨by omega, Or.inl z1⟩ q
          · by_cases z2 : b.toInt = 0
            · exact ⟨by omega, z2⟩
            · exact absurd ⟨by omega, Or.inr z2⟩ q
        exact n_ctxc (us := [a, b, c]) (ws := [.int a, .int b, .int c, .int (v 17152), .int (x1), .int (x2), .int (x3), .int (x4), .int (x5)]) (m := 0) (Int32.ofInt (-1)) (z_da3_s (y_jx_l y_JA_x)) rfl rfl rfl hI rfl rfl (by decide +kernel) (by decide +kernel) rfl (by decide +kernel) (n_Ra (by omega) (by omega) rfl (n_Ra (by omega) (by omega) rfl (n_Ra (by omega) (by omega) rfl (n_Rf rfl f0 (by omega) (by omega) (n_Rf rfl f1 (by omega) (by omega) (n_Rf rfl f2 (by omega) (by omega) (n_Rf rfl f3 (by omega) (by omega) (n_Rf rfl f4 (by omega) (by omega) (n_Rf rfl f5 (by omega) (by omega) (n_Rn)))))))))) (List.forall_mem_cons.mpr ⟨⟨x1, v 17152, rfl, rfl, by dsimp only; omega⟩, List.forall_mem_cons.mpr ⟨⟨x2, v 17152, rfl, rfl, by dsimp only; omega⟩, List.forall_mem_cons.mpr ⟨⟨x3, v 17152, rfl, rfl, by dsimp only; omega⟩, List.forall_mem_cons.mpr ⟨⟨x4, v 17152, rfl, rfl, by dsimp only; omega⟩, List.forall_mem_cons.mpr ⟨⟨x5, v 17152, rfl, rfl, by dsimp only; omega⟩, fun _ h => absurd h List.not_mem_nil⟩⟩⟩⟩⟩) (fun H h1 hf => hk H h1 (n_cS_V (n_sC hI.1 hf (by decide +kernel)) hc) (n_mS_V (n_mk_m (ex := []) hI.1 hf (by decide +kernel)) hm))
theorem n_a4 {x : Int32} (h : x.toInt ≤ 60) (h0 : 0 ≤ x.toInt) : (x + Int32.ofInt 4).toInt = x.toInt + 4 := by
  rw [Int32.toInt_add, show (Int32.ofInt 4).toInt = 4 by decide]
  exact Int.bmod_eq_of_le (by omega) (by omega)
theorem n_c74 : n_pc X a_m74 1 false n_s74 := by
  intro us h v C S K0 hl _ hI hc hm hk
  match us, hl with
  | [a], _ =>
    have i1 := s_i32 a
    have f0 := hc.1 1537 (by decide)
    have b0 := n_bd (lo := 0) (hi := 60) hI.1 f0 rfl
    by_cases q : (v 1537).toInt ≤ 56
    · rw [show n_s74 [a] v = (n_up v 1537 (v 1537 + Int32.ofInt 4), v 1537 + Int32.ofInt 4) from if_pos q] at hk
      refine n_ctx (us := [a]) (ws := [.int a, .int (v 1537)]) (m := 0) (z_sg0_s (y_jx_l y_JA_x)) rfl rfl rfl hI rfl rfl (by decide +kernel) (by decide +kernel) rfl (n_Ra (by omega) (by omega) rfl (n_Rf rfl f0 (by omega) (by omega) n_Rn)) (fun _ h => absurd h List.not_mem_nil) (fun T hT ρX x H hI' htm hg => ?_)
      obtain rfl := List.mem_singleton.mp hT
      have r0 := n_v (j := 0) htm rfl rfl rfl
      obtain ⟨y, r1, g1, -, -⟩ := n_f (o := 12) (k := 1) (j := 1) htm rfl rfl (by decide) rfl rfl
      have r2 : ρX[2]? = some (.int (v 1537)) := hg 2 1 rfl
      have s1 := n_r (a := 0) (b := 2) (w := 4) htm rfl r0 r2
      have s2 := n_r (a := 2) (b := 0) (w := -4) htm rfl r2 r0
      have s3 := n_r (a := 1) (b := 2) (w := 4) htm rfl r1 r2
      have s4 := n_r (a := 2) (b := 1) (w := -4) htm rfl r2 r1
      have ei := n_a4 (x := v 1537) (by omega) (by omega)
      have ex : x = v 1537 + Int32.ofInt 4 := Int32.toInt_inj.mp (by omega)
      have ey : y = v 1537 + Int32.ofInt 4 := Int32.toInt_inj.mp (by omega)
      rw [ey] at g1
      rw [ex]
      have hf := htm.2.2.2.2.2.1
      exact hk H hI' (n_cV_up (k0 := 1537) (n_mk_c hI.1 hf (by decide +kernel)) (n_mk_a hf (by decide +kernel)) hc g1 rfl rfl) (n_mS_V (n_mk_m (ex := [1537]) hI.1 hf (by decide +kernel)) hm)
    · rw [show n_s74 [a] v = (v, Int32.ofInt (-1)) from if_neg q] at hk
      exact n_ctxc (us := [a]) (ws := [.int a, .int (v 1537)]) (m := 0) (Int32.ofInt (-1)) (z_sg1_s (y_jx_l y_JA_x)) rfl rfl rfl hI rfl rfl (by decide +kernel) (by decide +kernel) rfl (by decide +kernel) (n_Ra (by omega) (by omega) rfl (n_Rf rfl f0 (by omega) (by omega) (n_Rn))) (fun _ h => absurd h List.not_mem_nil) (fun H h1 hf => hk H h1 (n_cS_V (n_sC hI.1 hf (by decide +kernel)) hc) (n_mS_V (n_mk_m (ex := []) hI.1 hf (by decide +kernel)) hm))
theorem n_c76 : n_pc X a_m76 1 false n_s76 := by
  intro us h v C S K0 hl _ hI hc hm hk
  match us, hl with
  | [a], _ =>
    have i1 := s_i32 a
    have f0 := hc.1 1537 (by decide)
    have b0 := n_bd (lo := 0) (hi := 60) hI.1 f0 rfl
    by_cases q : 0 ≤ a.toInt ∧ a.toInt ≤ (v 1537).toInt
    · rw [show n_s76 [a] v = (n_up v 1537 a, Int32.ofInt 1) from if_pos q] at hk
      obtain ⟨q1, q2⟩ := q
      refine n_ctx (us := [a]) (ws := [.int a, .int (v 1537)]) (m := 0) (z_en0_s (y_jx_l y_JA_x)) rfl rfl rfl hI rfl rfl (by decide +kernel) (by decide +kernel) rfl (n_Ra (by omega) (by omega) rfl (n_Rf rfl f0 (by omega) (by omega) n_Rn)) (List.forall_mem_cons.mpr ⟨⟨a, v 1537, rfl, rfl, by dsimp only; omega⟩, fun _ h => absurd h List.not_mem_nil⟩) (fun T hT ρX x H hI' htm hg => ?_)
      obtain rfl := List.mem_singleton.mp hT
      have ex : x = Int32.ofInt 1 := (n_c (c := 1) htm rfl).trans (by decide)
      obtain ⟨y, r1, g1, -, -⟩ := n_f (o := 12) (k := 1) (j := 0) htm rfl rfl (by decide) rfl rfl
      have r2 : ρX[1]? = some (.int a) := hg 1 0 rfl
      have s3 := n_r (a := 0) (b := 1) (w := 0) htm rfl r1 r2
      have s4 := n_r (a := 1) (b := 0) (w := 0) htm rfl r2 r1
      have ey : y = a := Int32.toInt_inj.mp (by omega)
      rw [ey] at g1
      rw [ex]
      have hf := htm.2.2.2.2.2.1
      exact hk H hI' (n_cV_up (k0 := 1537) (n_mk_c hI.1 hf (by decide +kernel)) (n_mk_a hf (by decide +kernel)) hc g1 rfl rfl) (n_mS_V (n_mk_m (ex := [1537]) hI.1 hf (by decide +kernel)) hm)
    · rw [show n_s76 [a] v = (v, Int32.ofInt 0) from if_neg q] at hk
      by_cases q1 : a.toInt ≤ -1
      · exact n_ctxc (us := [a]) (ws := [.int a]) (m := 0) (Int32.ofInt 0) (z_en1_s (y_jx_l y_JA_x)) rfl rfl rfl hI rfl rfl (by decide +kernel) (by decide +kernel) rfl (by decide +kernel) (n_Ra (by omega) (by omega) rfl (n_Rn)) (fun _ h => absurd h List.not_mem_nil) (fun H h1 hf => hk H h1 (n_cS_V (n_sC hI.1 hf (by decide +kernel)) hc) (n_mS_V (n_mk_m (ex := []) hI.1 hf (by decide +kernel)) hm))
      · have q2 : (v 1537).toInt + 1 ≤ a.toInt := by
          by_cases z : a.toInt ≤ (v 1537).toInt
          · exact absurd ⟨by omega, z⟩ q
          · omega
        exact n_ctxc (us := [a]) (ws := [.int a, .int (v 1537)]) (m := 0) (Int32.ofInt 0) (z_en2_s (y_jx_l y_JA_x)) rfl rfl rfl hI rfl rfl (by decide +kernel) (by decide +kernel) rfl (by decide +kernel) (n_Ra (by omega) (by omega) rfl (n_Rf rfl f0 (by omega) (by omega) (n_Rn))) (List.forall_mem_cons.mpr ⟨⟨v 1537, a, rfl, rfl, by dsimp only; omega⟩, fun _ h => absurd h List.not_mem_nil⟩) (fun H h1 hf => hk H h1 (n_cS_V (n_sC hI.1 hf (by decide +kernel)) hc) (n_mS_V (n_mk_m (ex := []) hI.1 hf (by decide +kernel)) hm))
def n_pcS (X : aX) (M : aM) (n : Nat) (b : Bool) (st : List Int32 → (Nat → Int32) → (Nat → Int32) × Int32) : Prop := ∀ (us : List Int32) (h : aH) (v : Nat → Int32) (C S : Nat) (K0 : Option Value → aH → Nat → Nat → Prop), us.length = n → (b = true → ∀ u ∈ us, 0 ≤ u.toInt ∧ u.toInt ≤ 1) → t_I h → n_cV h v → n_mV h v → (∀ (x : Int32) (H : aH), t_I H → n_cV H (st us v).1 → n_mV H v → K0 (some (.int x)) H C S) → aOK s_P X 200 M 0 (a_ent (.ref 2 :: us.map .int) M.2.2.1) [] h C S K0
def n_prS (X : aX) (M : aM) (n : Nat) (b : Bool) (st : List Int32 → (Nat → Int32) → (Nat → Int32) × Int32) : Prop := ∀ (us : List Int32) (h : aH) (w v : Nat → Int32) (C S : Nat) (K0 : Option Value → aH → Nat → Nat → Prop), us.length = n → (b = true → ∀ u ∈ us, 0 ≤ u.toInt ∧ u.toInt ≤ 1) → t_I h → n_cV h w → n_mV h v → (∀ (x : Int32) (H : aH), t_I H → n_cV H w → n_mV H (st us v).1 → K0 (some (.int x)) H C S) → aOK s_P X 200 M 0 (a_ent (.ref 155 :: us.map .int) M.2.2.1) [] h C S K0
theorem n_c77 : n_pcS X a_m77 0 false n_s77 := by
  intro us h v C S K0 hl hb hI hc hm hk
  exact n_ctxz (n := 0) (m := 2) (b := false) (z_x142_s (y_jx_l y_JA_x)) rfl rfl rfl (by decide +kernel) (by decide +kernel) rfl rfl (by decide +kernel) (by decide +kernel) (by decide +kernel) (by decide +kernel) us h C S K0 hl hb hI (fun x H i1 c1 a1 m1 g => hk x H i1 (n_cV_up (k0 := 1537) c1 a1 hc g rfl rfl) (n_mS_V m1 hm))
theorem n_c159 : n_pc X a_m159 1 false n_s159 := by
  intro us h v C S K0 hl hb hI hc hm hk
  match us, hl with
  | [a], _ =>
    have i1 := s_i32 a
    have f0 := hc.1 17152 (by decide)
    have b0 := n_bd (lo := 0) (hi := 30) hI.1 f0 rfl
    obtain ⟨x1, f1, p1, l1, u1⟩ := n_days hI f0 (k := 17153) (by decide) rfl
    obtain ⟨x2, f2, p2, l2, u2⟩ := n_days hI f0 (k := 17154) (by decide) rfl
    obtain ⟨x3, f3, p3, l3, u3⟩ := n_days hI f0 (k := 17155) (by decide) rfl
    obtain ⟨x4, f4, p4, l4, u4⟩ := n_days hI f0 (k := 17156) (by decide) rfl
    obtain ⟨x5, f5, p5, l5, u5⟩ := n_days hI f0 (k := 17157) (by decide) rfl
    by_cases q : n_shV a (v 17152)
    · rw [show n_s159 [a] v = (v, Int32.ofInt 0) from if_pos q] at hk
      obtain ⟨q1, q2, q3⟩ := q
      exact n_ctxc (us := [a]) (ws := [.int a, .int (v 17152), .int (x1), .int (x2), .int (x3), .int (x4), .int (x5)]) (m := 2) (Int32.ofInt 0) (z_sh0_s (y_jx_l y_JA_x)) rfl rfl rfl hI rfl rfl (by decide +kernel) (by decide +kernel) rfl (by decide +kernel) (n_Ra (by omega) (by omega) rfl (n_Rf rfl f0 (by omega) (by omega) (n_Rf rfl f1 (by omega) (by omega) (n_Rf rfl f2 (by omega) (by omega) (n_Rf rfl f3 (by omega) (by omega) (n_Rf rfl f4 (by omega) (by omega) (n_Rf rfl f5 (by omega) (by omega) (n_Rn)))))))) (List.forall_mem_cons.mpr ⟨⟨x1, v 17152, rfl, rfl, by dsimp only; omega⟩, List.forall_mem_cons.mpr ⟨⟨x2, v 17152, rfl, rfl, by dsimp only; omega⟩, List.forall_mem_cons.mpr ⟨⟨x3, v 17152, rfl, rfl, by dsimp only; omega⟩, List.forall_mem_cons.mpr ⟨⟨x4, v 17152, rfl, rfl, by dsimp only; omega⟩, List.forall_mem_cons.mpr ⟨⟨x5, v 17152, rfl, rfl, by dsimp only; omega⟩, fun _ h => absurd h List.not_mem_nil⟩⟩⟩⟩⟩) (fun H h1 hf => hk H h1 (n_cS_V (n_sC hI.1 hf (by decide +kernel)) hc) (n_mS_V (n_mk_m (ex := []) hI.1 hf (by decide +kernel)) hm))
    · rw [show n_s159 [a] v = (v, Int32.ofInt (-1)) from if_neg q] at hk
      by_cases q1 : a.toInt ≤ -1
      · exact n_ctxc (us := [a]) (ws := [.int a, .int (v 17152), .int (x1), .int (x2), .int (x3), .int (x4), .int (x5)]) (m := 2) (Int32.ofInt (-1)) (z_sh1_s (y_jx_l y_JA_x)) rfl rfl rfl hI rfl rfl (by decide +kernel) (by decide +kernel) rfl (by decide +kernel) (n_Ra (by omega) (by omega) rfl (n_Rf rfl f0 (by omega) (by omega) (n_Rf rfl f1 (by omega) (by omega) (n_Rf rfl f2 (by omega) (by omega) (n_Rf rfl f3 (by omega) (by omega) (n_Rf rfl f4 (by omega) (by omega) (n_Rf rfl f5 (by omega) (by omega) (n_Rn)))))))) (List.forall_mem_cons.mpr ⟨⟨x1, v 17152, rfl, rfl, by dsimp only; omega⟩, List.forall_mem_cons.mpr ⟨⟨x2, v 17152, rfl, rfl, by dsimp only; omega⟩, List.forall_mem_cons.mpr ⟨⟨x3, v 17152, rfl, rfl, by dsimp only; omega⟩, List.forall_mem_cons.mpr ⟨⟨x4, v 17152, rfl, rfl, by dsimp only; omega⟩, List.forall_mem_cons.mpr ⟨⟨x5, v 17152, rfl, rfl, by dsimp only; omega⟩, fun _ h => absurd h List.not_mem_nil⟩⟩⟩⟩⟩) (fun H h1 hf => hk H h1 (n_cS_V (n_sC hI.1 hf (by decide +kernel)) hc) (n_mS_V (n_mk_m (ex := []) hI.1 hf (by decide +kernel)) hm))
      · by_cases q2 : 2 ≤ a.toInt
        · exact n_ctxc (us := [a]) (ws := [.int a, .int (v 17152), .int (x1), .int (x2), .int (x3), .int (x4), .int (x5)]) (m := 2) (Int32.ofInt (-1)) (z_sh2_s (y_jx_l y_JA_x)) rfl rfl rfl hI rfl rfl (by decide +kernel) (by decide +kernel) rfl (by decide +kernel) (n_Ra (by omega) (by omega) rfl (n_Rf rfl f0 (by omega) (by omega) (n_Rf rfl f1 (by omega) (by omega) (n_Rf rfl f2 (by omega) (by omega) (n_Rf rfl f3 (by omega) (by omega) (n_Rf rfl f4 (by omega) (by omega) (n_Rf rfl f5 (by omega) (by omega) (n_Rn)))))))) (List.forall_mem_cons.mpr ⟨⟨x1, v 17152, rfl, rfl, by dsimp only; omega⟩, List.forall_mem_cons.mpr ⟨⟨x2, v 17152, rfl, rfl, by dsimp only; omega⟩, List.forall_mem_cons.mpr ⟨⟨x3, v 17152, rfl, rfl, by dsimp only; omega⟩, List.forall_mem_cons.mpr ⟨⟨x4, v 17152, rfl, rfl, by dsimp only; omega⟩, List.forall_mem_cons.mpr ⟨⟨x5, v 17152, rfl, rfl, by dsimp only; omega⟩, fun _ h => absurd h List.not_mem_nil⟩⟩⟩⟩⟩) (fun H h1 hf => hk H h1 (n_cS_V (n_sC hI.1 hf (by decide +kernel)) hc) (n_mS_V (n_mk_m (ex := []) hI.1 hf (by decide +kernel)) hm))
        · have q3 : (v 17152).toInt = 0 := by
            by_cases z : (v 17152).toInt = 0
            · exact z
            · exact absurd ⟨z, by omega, by omega⟩ q
          exact n_ctxc (us := [a]) (ws := [.int a, .int (v 17152), .int (x1), .int (x2), .int (x3), .int (x4), .int (x5)]) (m := 2) (Int32.ofInt (-1)) (z_sh3_s (y_jx_l y_JA_x)) rfl rfl rfl hI rfl rfl (by decide +kernel) (by decide +kernel) rfl (by decide +kernel) (n_Ra (by omega) (by omega) rfl (n_Rf rfl f0 (by omega) (by omega) (n_Rf rfl f1 (by omega) (by omega) (n_Rf rfl f2 (by omega) (by omega) (n_Rf rfl f3 (by omega) (by omega) (n_Rf rfl f4 (by omega) (by omega) (n_Rf rfl f5 (by omega) (by omega) (n_Rn)))))))) (List.forall_mem_cons.mpr ⟨⟨x1, v 17152, rfl, rfl, by dsimp only; omega⟩, List.forall_mem_cons.mpr ⟨⟨x2, v 17152, rfl, rfl, by dsimp only; omega⟩, List.forall_mem_cons.mpr ⟨⟨x3, v 17152, rfl, rfl, by dsimp only; omega⟩, List.forall_mem_cons.mpr ⟨⟨x4, v 17152, rfl, rfl, by dsimp only; omega⟩, List.forall_mem_cons.mpr ⟨⟨x5, v 17152, rfl, rfl, by dsimp only; omega⟩, fun _ h => absurd h List.not_mem_nil⟩⟩⟩⟩⟩) (fun H h1 hf => hk H h1 (n_cS_V (n_sC hI.1 hf (by decide +kernel)) hc) (n_mS_V (n_mk_m (ex := []) hI.1 hf (by decide +kernel)) hm))
theorem n_c163 : n_pc X a_m163 1 false n_s163 := by
  intro us h v C S K0 hl _ hI hc hm hk
  match us, hl with
  | [a], _ =>
    have i1 := s_i32 a
    by_cases q : 0 ≤ a.toInt ∧ a.toInt ≤ 2
    · rw [show n_s163 [a] v = (n_up v (n_kk a) (Int32.ofInt 1), Int32.ofInt 1) from if_pos q] at hk
      obtain ⟨q1, q2⟩ := q
      rcases (show a.toInt = 0 ∨ a.toInt = 1 ∨ a.toInt = 2 by omega) with z | z | z
      · refine n_ctx (us := [a]) (ws := [.int a]) (m := 0) (z_kp0_s (y_jx_l y_JA_x)) rfl rfl rfl hI rfl rfl (by decide +kernel) (by decide +kernel) rfl (n_Ra (by omega) (by omega) rfl n_Rn) (fun _ h => absurd h List.not_mem_nil) (fun T hT ρX x H hI' htm hg => ?_)
        obtain rfl := List.mem_singleton.mp hT
        have ex : x = Int32.ofInt 1 := (n_c (c := 1) htm rfl).trans (by decide)
        obtain ⟨y, r1, g1, y0, y1⟩ := n_f (o := 136) (k := 0) (j := 0) htm rfl rfl (by decide) rfl rfl
        have ey : y = Int32.ofInt 1 := Int32.toInt_inj.mp (by rw [show (Int32.ofInt 1).toInt = 1 by decide]; omega)
        rw [ey] at g1
        have hf := htm.2.2.2.2.2.1
        have ek : n_kk a = 17408 := by unfold n_kk; rw [z]; rfl
        rw [ek] at hk
        rw [ex]
        exact hk H hI' (n_cV_upK (k0 := 17408) (n_mk_c hI.1 hf (by decide +kernel)) (n_mk_a hf (by decide +kernel)) hc g1 rfl) (n_mS_V (n_mk_m (ex := [17408]) hI.1 hf (by decide +kernel)) hm)
      · refine n_ctx (us := [a]) (ws := [.int a]) (m := 0) (z_kp1_s (y_jx_l y_JA_x)) rfl rfl rfl hI rfl rfl (by decide +kernel) (by decide +kernel) rfl (n_Ra (by omega) (by omega) rfl n_Rn) (fun _ h => absurd h List.not_mem_nil) (fun T hT ρX x H hI' htm hg => ?_)
        obtain rfl := List.mem_singleton.mp hT
        have ex : x = Int32.ofInt 1 := (n_c (c := 1) htm rfl).trans (by decide)
        obtain ⟨y, r1, g1, y0, y1⟩ := n_f (o := 140) (k := 0) (j := 0) htm rfl rfl (by decide) rfl rfl
        have ey : y = Int32.ofInt 1 := Int32.toInt_inj.mp (by rw [show (Int32.ofInt 1).toInt = 1 by decide]; omega)
        rw [ey] at g1
        have hf := htm.2.2.2.2.2.1
        have ek : n_kk a = 17920 := by unfold n_kk; rw [z]; rfl
        rw [ek] at hk
        rw [ex]
        exact hk H hI' (n_cV_upK (k0 := 17920) (n_mk_c hI.1 hf (by decide +kernel)) (n_mk_a hf (by decide +kernel)) hc g1 rfl) (n_mS_V (n_mk_m (ex := [17920]) hI.1 hf (by decide +kernel)) hm)
      · refine n_ctx (us := [a]) (ws := [.int a]) (m := 0) (z_kp2_s (y_jx_l y_JA_x)) rfl rfl rfl hI rfl rfl (by decide +kernel) (by decide +kernel) rfl (n_Ra (by omega) (by omega) rfl n_Rn) (fun _ h => absurd h List.not_mem_nil) (fun T hT ρX x H hI' htm hg => ?_)
        obtain rfl := List.mem_singleton.mp hT
        have ex : x = Int32.ofInt 1 := (n_c (c := 1) htm rfl).trans (by decide)
        obtain ⟨y, r1, g1, y0, y1⟩ := n_f (o := 144) (k := 0) (j := 0) htm rfl rfl (by decide) rfl rfl
        have ey : y = Int32.ofInt 1 := Int32.toInt_inj.mp (by rw [show (Int32.ofInt 1).toInt = 1 by decide]; omega)
        rw [ey] at g1
        have hf := htm.2.2.2.2.2.1
        have ek : n_kk a = 18432 := by unfold n_kk; rw [z]; rfl
        rw [ek] at hk
        rw [ex]
        exact hk H hI' (n_cV_upK (k0 := 18432) (n_mk_c hI.1 hf (by decide +kernel)) (n_mk_a hf (by decide +kernel)) hc g1 rfl) (n_mS_V (n_mk_m (ex := [18432]) hI.1 hf (by decide +kernel)) hm)
    · rw [show n_s163 [a] v = (v, Int32.ofInt 0) from if_neg q] at hk
      by_cases q1 : a.toInt ≤ -1
      · exact n_ctxc (us := [a]) (ws := [.int a]) (m := 0) (Int32.ofInt 0) (z_kp3_s (y_jx_l y_JA_x)) rfl rfl rfl hI rfl rfl (by decide +kernel) (by decide +kernel) rfl (by decide +kernel) (n_Ra (by omega) (by omega) rfl (n_Rn)) (fun _ h => absurd h List.not_mem_nil) (fun H h1 hf => hk H h1 (n_cS_V (n_sC hI.1 hf (by decide +kernel)) hc) (n_mS_V (n_mk_m (ex := []) hI.1 hf (by decide +kernel)) hm))
      · exact n_ctxc (us := [a]) (ws := [.int a]) (m := 0) (Int32.ofInt 0) (z_kp4_s (y_jx_l y_JA_x)) rfl rfl rfl hI rfl rfl (by decide +kernel) (by decide +kernel) rfl (by decide +kernel) (n_Ra (by omega) (by omega) rfl (n_Rn)) (fun _ h => absurd h List.not_mem_nil) (fun H h1 hf => hk H h1 (n_cS_V (n_sC hI.1 hf (by decide +kernel)) hc) (n_mS_V (n_mk_m (ex := []) hI.1 hf (by decide +kernel)) hm))
theorem n_c165 : n_pc X a_m165 1 false n_s165 := by
  intro us h v C S K0 hl _ hI hc hm hk
  match us, hl with
  | [a], _ =>
    have i1 := s_i32 a
    have f0 := hc.1 17408 (by decide)
    have f1 := hc.1 17920 (by decide)
    have f2 := hc.1 18432 (by decide)
    have b0 := n_bd (lo := 0) (hi := 1) hI.1 f0 rfl
    have b1 := n_bd (lo := 0) (hi := 1) hI.1 f1 rfl
    have b2 := n_bd (lo := 0) (hi := 1) hI.1 f2 rfl
    have e : n_s165 [a] v = (v, n_ag a (v 17408) (v 17920) (v 18432)) := rfl
    rw [e] at hk
    unfold n_ag at hk
    have ca : a.toNatClampNeg = a.toInt.toNat := rfl
    by_cases q : 0 ≤ a.toInt ∧ a.toInt ≤ 2
    · obtain ⟨q1, q2⟩ := q
      rcases (show a.toInt = 0 ∨ a.toInt = 1 ∨ a.toInt = 2 by omega) with z | z | z
      · have eg : ([v 17408, v 17920, v 18432] : List Int32).getD a.toNatClampNeg 0 = v 17408 := by rw [ca, z]; rfl
        by_cases y : (v 17408).toInt = 0
        · rw [if_neg (fun w => w.2.2 (by rw [eg, y]; rfl))] at hk
          exact n_ctxc (us := [a]) (ws := [.int a, .int (v 17408)]) (m := 0) (Int32.ofInt 0) (z_ag3_s (y_jx_l y_JA_x)) rfl rfl rfl hI rfl rfl (by decide +kernel) (by decide +kernel) rfl (by decide +kernel) (n_Ra (by omega) (by omega) rfl (n_Rf rfl f0 (by omega) (by omega) (n_Rn))) (fun _ h => absurd h List.not_mem_nil) (fun H h1 hf => hk H h1 (n_cS_V (n_sC hI.1 hf (by decide +kernel)) hc) (n_mS_V (n_mk_m (ex := []) hI.1 hf (by decide +kernel)) hm))
        · rw [if_pos ⟨q1, q2, by rw [eg]; exact y⟩] at hk
          exact n_ctxc (us := [a]) (ws := [.int a, .int (v 17408)]) (m := 0) (Int32.ofInt 1) (z_ag0_s (y_jx_l y_JA_x)) rfl rfl rfl hI rfl rfl (by decide +kernel) (by decide +kernel) rfl (by decide +kernel) (n_Ra (by omega) (by omega) rfl (n_Rf rfl f0 (by omega) (by omega) (n_Rn))) (fun _ h => absurd h List.not_mem_nil) (fun H h1 hf => hk H h1 (n_cS_V (n_sC hI.1 hf (by decide +kernel)) hc) (n_mS_V (n_mk_m (ex := []) hI.1 hf (by decide +kernel)) hm))
      · have eg : ([v 17408, v 17920, v 18432] : List Int32).getD a.toNatClampNeg 0 = v 17920 := by rw [ca, z]; rfl
        by_cases y : (v 17920).toInt = 0
        · rw [if_neg (fun w => w.2.2 (by rw [eg, y]; rfl))] at hk
          exact n_ctxc (us := [a]) (ws := [.int a, .int (v 17920)]) (m := 0) (Int32.ofInt 0) (z_ag4_s (y_jx_l y_JA_x)) rfl rfl rfl hI rfl rfl (by decide +kernel) (by decide +kernel) rfl (by decide +kernel) (n_Ra (by omega) (by omega) rfl (n_Rf rfl f1 (by omega) (by omega) (n_Rn))) (fun _ h => absurd h List.not_mem_nil) (fun H h1 hf => hk H h1 (n_cS_V (n_sC hI.1 hf (by decide +kernel)) hc) (n_mS_V (n_mk_m (ex := []) hI.1 hf (by decide +kernel)) hm))
        · rw [if_pos ⟨q1, q2, by rw [eg]; exact y⟩] at hk
          exact n_ctxc (us := [a]) (ws := [.int a, .int (v 17920)]) (m := 0) (Int32.ofInt 1) (z_ag1_s (y_jx_l y_JA_x)) rfl rfl rfl hI rfl rfl (by decide +kernel) (by decide +kernel) rfl (by decide +kernel) (n_Ra (by omega) (by omega) rfl (n_Rf rfl f1 (by omega) (by omega) (n_Rn))) (fun _ h => absurd h List.not_mem_nil) (fun H h1 hf => hk H h1 (n_cS_V (n_sC hI.1 hf (by decide +kernel)) hc) (n_mS_V (n_mk_m (ex := []) hI.1 hf (by decide +kernel)) hm))
      · have eg : ([v 17408, v 17920, v 18432] : List Int32).getD a.toNatClampNeg 0 = v 18432 := by rw [ca, z]; rfl
        by_cases y : (v 18432).toInt = 0
        · rw [if_neg (fun w => w.2.2 (by rw [eg, y]; rfl))] at hk
          exact n_ctxc (us := [a]) (ws := [.int a, .int (v 18432)]) (m := 0) (Int32.ofInt 0) (z_ag5_s (y_jx_l y_JA_x)) rfl rfl rfl hI rfl rfl (by decide +kernel) (by decide +kernel) rfl (by decide +kernel) (n_Ra (by omega) (by omega) rfl (n_Rf rfl f2 (by omega) (by omega) (n_Rn))) (fun _ h => absurd h List.not_mem_nil) (fun H h1 hf => hk H h1 (n_cS_V (n_sC hI.1 hf (by decide +kernel)) hc) (n_mS_V (n_mk_m (ex := []) hI.1 hf (by decide +kernel)) hm))
        · rw [if_pos ⟨q1, q2, by rw [eg]; exact y⟩] at hk
          exact n_ctxc (us := [a]) (ws := [.int a, .int (v 18432)]) (m := 0) (Int32.ofInt 1) (z_ag2_s (y_jx_l y_JA_x)) rfl rfl rfl hI rfl rfl (by decide +kernel) (by decide +kernel) rfl (by decide +kernel) (n_Ra (by omega) (by omega) rfl (n_Rf rfl f2 (by omega) (by omega) (n_Rn))) (fun _ h => absurd h List.not_mem_nil) (fun H h1 hf => hk H h1 (n_cS_V (n_sC hI.1 hf (by decide +kernel)) hc) (n_mS_V (n_mk_m (ex := []) hI.1 hf (by decide +kernel)) hm))
    · rw [if_neg (fun z => q ⟨z.1, z.2.1⟩)] at hk
      by_cases q1 : a.toInt ≤ -1
      · exact n_ctxc (us := [a]) (ws := [.int a]) (m := 0) (Int32.ofInt 0) (z_ag6_s (y_jx_l y_JA_x)) rfl rfl rfl hI rfl rfl (by decide +kernel) (by decide +kernel) rfl (by decide +kernel) (n_Ra (by omega) (by omega) rfl (n_Rn)) (fun _ h => absurd h List.not_mem_nil) (fun H h1 hf => hk H h1 (n_cS_V (n_sC hI.1 hf (by decide +kernel)) hc) (n_mS_V (n_mk_m (ex := []) hI.1 hf (by decide +kernel)) hm))
      · exact n_ctxc (us := [a]) (ws := [.int a]) (m := 0) (Int32.ofInt 0) (z_ag7_s (y_jx_l y_JA_x)) rfl rfl rfl hI rfl rfl (by decide +kernel) (by decide +kernel) rfl (by decide +kernel) (n_Ra (by omega) (by omega) rfl (n_Rn)) (fun _ h => absurd h List.not_mem_nil) (fun H h1 hf => hk H h1 (n_cS_V (n_sC hI.1 hf (by decide +kernel)) hc) (n_mS_V (n_mk_m (ex := []) hI.1 hf (by decide +kernel)) hm))
theorem n_mV_f {h H : aH} {v : Nat → Int32} {fs as : List Nat} {k k' : Nat} {x : Int32} (e : y_fr h H fs as) (g : w_f H k' = some (.int x)) (hx : n_fk fs as [k'] = true) (h1 : nM.all (fun p => decide (p.1 = k ↔ p.2 = k')) = true) (h2 : (n_fr0 k && decide (k ≠ 129) && decide (k' ≠ 19600) && nMA.all (fun o => decide (o ≠ k'))) = true) (q : n_mV h v) : n_mV H (n_up v k x) := by
  simp only [Bool.and_eq_true, decide_eq_true_eq] at h2
  obtain ⟨⟨⟨h3, h4⟩, h5⟩, h6⟩ := h2
  unfold n_fk at hx
  rw [Bool.and_eq_true] at hx
  have hx := hx.2
  rw [Bool.and_eq_true, Bool.and_eq_true] at hx
  refine ⟨fun p hp => ?_, n_mA_S (fun o ho => ?_) (n_mA_up h3 q.2.1), ?_⟩
  · have z := of_decide_eq_true (List.all_eq_true.mp h1 p hp)
    unfold n_up
    by_cases e1 : p.1 = k
    · rw [if_pos e1, z.mp e1]
      exact g
    · rw [if_neg e1]
      have := List.all_eq_true.mp hx.1 p hp
      rw [Bool.or_eq_true] at this
      rcases this with w | w
      · exact absurd (z.mpr (List.mem_singleton.mp (List.elem_iff.mp w))) e1
      · rw [Bool.not_eq_true'] at w
        exact (e.2.1 _ (n_nel w)).trans (q.1 p hp)
  · have := List.all_eq_true.mp hx.2.1 o ho
    rw [Bool.or_eq_true] at this
    rcases this with w | w
    · exact absurd (List.mem_singleton.mp (List.elem_iff.mp w)) (of_decide_eq_true (List.all_eq_true.mp h6 o ho))
    · rw [Bool.not_eq_true'] at w
      exact e.2.2 _ (n_nel w)
  · have := hx.2.2
    unfold n_up
    rw [if_neg (Ne.symm h4)]
    rw [Bool.or_eq_true] at this
    rcases this with w | w
    · exact absurd (List.mem_singleton.mp (List.elem_iff.mp w)).symm h5
    · rw [Bool.not_eq_true'] at w
      exact (e.2.1 _ (n_nel w)).trans q.2.2
theorem n_r255 : n_pr X a_m255 2 false n_s127 := by
  intro us h w v C S K0 hl _ hI hc hm hk
  match us, hl with
  | [a, b], _ =>
    refine f_head (d := 199) (X0 := v 16) hI.1 (hm.1 (16, 19625) (by decide)) (fun q H e g => ?_) (fun q H e => ?_)
    · rw [show n_s127 [a, b] v = (n_up v 16 (v 16 + Int32.ofInt 1), v 16) from if_pos q] at hk
      rw [Int32.add_sub_cancel]
      exact hk H ⟨e.1, y_jfr y_JA_x e rfl rfl hI.2.1, t_day_fr e rfl hI.2.2⟩ (n_cS_V (n_fk_c (ex := [19625]) e rfl) hc) (n_mV_f e g rfl rfl rfl hm)
    · rw [show n_s127 [a, b] v = (v, Int32.ofInt (-1)) from if_neg q] at hk
      exact hk H ⟨e.1, y_jfr y_JA_x e rfl rfl hI.2.1, t_day_fr e rfl hI.2.2⟩ (n_cS_V (n_fk_c (ex := []) e rfl) hc) (n_mS_V (n_fk_m e rfl) hm)
theorem n_r273 : n_pr X a_m273 3 true n_s157 := by
  intro us h w v C S K0 hl hb hI hc hm hk
  match us, hl with
  | [a, b, c], _ =>
    refine f_day hI.1 (hb rfl a (by simp)).1 (hb rfl a (by simp)).2 (hb rfl b (by simp)).1 (hb rfl b (by simp)).2 (hb rfl c (by simp)).1 (hb rfl c (by simp)).2 (hm.1 (17152, 19643) (by decide)) (fun q H e g => ?_) (fun q H e => ?_)
    · rw [show n_s157 [a, b, c] v = (n_up v 17152 (v 17152 + Int32.ofInt 1), v 17152 + Int32.ofInt 1) from if_pos q] at hk
      exact hk H ⟨e.1, y_jfr y_JA_x e rfl rfl hI.2.1, t_day_fr e rfl hI.2.2⟩ (n_cS_V (n_fk_c (ex := [19643]) e rfl) hc) (n_mV_f e g rfl rfl rfl hm)
    · rw [show n_s157 [a, b, c] v = (v, Int32.ofInt (-1)) from if_neg q] at hk
      exact hk H ⟨e.1, y_jfr y_JA_x e rfl rfl hI.2.1, t_day_fr e rfl hI.2.2⟩ (n_cS_V (n_fk_c (ex := []) e rfl) hc) (n_mS_V (n_fk_m e rfl) hm)
theorem n_r219 : n_pr X a_m219 1 false n_s74 := by
  intro us h w v C S K0 hl _ hI hc hm hk
  match us, hl with
  | [a], _ =>
    refine f_sign (X0 := v 1537) hI.1 (hm.1 (1537, 19612) (by decide)) (fun q H e g => ?_) (fun q H e => ?_)
    · rw [show n_s74 [a] v = (n_up v 1537 (v 1537 + Int32.ofInt 4), v 1537 + Int32.ofInt 4) from if_pos q] at hk
      exact hk H ⟨e.1, y_jfr y_JA_x e rfl rfl hI.2.1, t_day_fr e rfl hI.2.2⟩ (n_cS_V (n_fk_c (ex := [19612]) e rfl) hc) (n_mV_f e g rfl rfl rfl hm)
    · rw [show n_s74 [a] v = (v, Int32.ofInt (-1)) from if_neg q] at hk
      exact hk H ⟨e.1, y_jfr y_JA_x e rfl rfl hI.2.1, t_day_fr e rfl hI.2.2⟩ (n_cS_V (n_fk_c (ex := []) e rfl) hc) (n_mS_V (n_fk_m e rfl) hm)
theorem n_r220 : n_pr X a_m220 1 false n_s76 := by
  intro us h w v C S K0 hl _ hI hc hm hk
  match us, hl with
  | [a], _ =>
    refine f_end (d := 199) (X0 := v 1537) hI.1 (hm.1 (1537, 19612) (by decide)) (fun q H e g => ?_) (fun q H e => ?_)
    · rw [show n_s76 [a] v = (n_up v 1537 a, Int32.ofInt 1) from if_pos q] at hk
      exact hk H ⟨e.1, y_jfr y_JA_x e rfl rfl hI.2.1, t_day_fr e rfl hI.2.2⟩ (n_cS_V (n_fk_c (ex := [19612]) e rfl) hc) (n_mV_f e g rfl rfl rfl hm)
    · rw [show n_s76 [a] v = (v, Int32.ofInt 0) from if_neg q] at hk
      exact hk H ⟨e.1, y_jfr y_JA_x e rfl rfl hI.2.1, t_day_fr e rfl hI.2.2⟩ (n_cS_V (n_fk_c (ex := []) e rfl) hc) (n_mS_V (n_fk_m e rfl) hm)
theorem n_r221 : n_prS X a_m221 0 false n_s77 := by
  intro us h w v C S K0 hl _ hI hc hm hk
  match us, hl with
  | [], _ =>
    refine f_say (d := 31) hI.1 hI.2.1.1 hI.2.1.2.1 (fun r H e qJ qS g => ?_)
    exact hk r H ⟨e.1, ⟨qJ, qS, j_cost_e e rfl rfl hI.2.1.2.2⟩, t_day_fr e rfl hI.2.2⟩ (n_cS_V (n_fk_c (ex := [19612]) e rfl) hc) (n_mV_f e g rfl rfl rfl hm)
theorem n_r274 : n_pr X a_m274 1 false n_s159 := by
  intro us h w v C S K0 hl hb hI hc hm hk
  match us, hl with
  | [a], _ =>
    refine f_shifts (d := 197) hI.1 (hm.1 (17152, 19643) (by decide)) (fun q H e => ?_) (fun q H e => ?_)
    · rw [show n_s159 [a] v = (v, Int32.ofInt 0) from if_pos q] at hk
      exact hk H ⟨e.1, y_jfr y_JA_x e rfl rfl hI.2.1, t_day_fr e rfl hI.2.2⟩ (n_cS_V (n_fk_c (ex := []) e rfl) hc) (n_mS_V (n_fk_m e rfl) hm)
    · rw [show n_s159 [a] v = (v, Int32.ofInt (-1)) from if_neg q] at hk
      exact hk H ⟨e.1, y_jfr y_JA_x e rfl rfl hI.2.1, t_day_fr e rfl hI.2.2⟩ (n_cS_V (n_fk_c (ex := []) e rfl) hc) (n_mS_V (n_fk_m e rfl) hm)
theorem n_r279 : n_pr X a_m279 1 false n_s163 := by
  intro us h w v C S K0 hl hb hI hc hm hk
  match us, hl with
  | [a], _ =>
    refine f_keep2 (d := 199) hI.1 hI.2.1.1 hI.2.1.2.2 (fun r H e q1 q2 q3 q4 => ?_)
    have tI : t_I H := ⟨e.1, ⟨q1, j_say_e e rfl rfl hI.2.1.2.1, q2⟩, t_day_fr e rfl hI.2.2⟩
    have g := q3 _ (n_mA_K hm.2.1)
    have gD : w_f H 19600 = some (.long (v 129).toInt64) := (e.2.1 _ (by decide)).trans hm.2.2
    have hc' := n_cS_V (n_fk_c (ex := [188]) e rfl) hc
    have hM : ∀ p ∈ nM, w_f H p.2 = w_f h p.2 := by
      intro p hp
      refine e.2.1 _ (fun z => ?_)
      have : nM.all (fun p => !([19584] : List Nat).elem p.2) = true := rfl
      have := List.all_eq_true.mp this p hp
      rw [List.elem_iff.mpr z] at this
      cases this
    rw [q4]
    unfold n_ke
    by_cases q : 0 ≤ a.toInt ∧ a.toInt ≤ 2
    · rw [show n_s163 [a] v = (n_up v (n_kk a) (Int32.ofInt 1), Int32.ofInt 1) from if_pos q] at hk
      rw [if_pos q] at g ⊢
      refine hk H tI hc' ⟨fun p hp => ?_, ?_, ?_⟩
      · unfold n_up
        have : p.1 ≠ n_kk a := by
          unfold n_kk
          have z : nM.all (fun p => Nat.blt p.1 17408) = true := rfl
          have z := List.all_eq_true.mp z p hp
          rw [Nat.blt_eq] at z
          omega
        dsimp only
        rw [if_neg this]
        exact (hM p hp).trans (hm.1 p hp)
      · show w_a H 188 = some (2, .inl [n_up v (n_kk a) (Int32.ofInt 1) 17408, n_up v (n_kk a) (Int32.ofInt 1) 17920, n_up v (n_kk a) (Int32.ofInt 1) 18432])
        rw [g]
        rcases (show a.toInt = 0 ∨ a.toInt = 1 ∨ a.toInt = 2 by omega) with z | z | z <;> (unfold n_kk n_up; rw [z]; rfl)
      · have : (129 : Nat) ≠ n_kk a := by unfold n_kk; omega
        unfold n_up
        dsimp only
        rw [if_neg this]
        exact gD
    · rw [show n_s163 [a] v = (v, Int32.ofInt 0) from if_neg q] at hk
      rw [if_neg q] at g ⊢
      exact hk H tI hc' ⟨fun p hp => (hM p hp).trans (hm.1 p hp), g, gD⟩
theorem n_r280 : n_pr X a_m280 1 false n_s165 := by
  intro us h w v C S K0 hl hb hI hc hm hk
  match us, hl with
  | [a], _ =>
    refine f_again (d := 199) hI.1 hI.2.1.1 hI.2.1.2.2 (n_mA_K hm.2.1) (fun r H e q1 q2 q3 => ?_)
    rw [q3]
    exact hk H ⟨e.1, ⟨q1, j_say_e e rfl rfl hI.2.1.2.1, q2⟩, t_day_fr e rfl hI.2.2⟩ (n_cS_V (n_fk_c (ex := []) e rfl) hc) (n_mS_V (n_fk_m e rfl) hm)
theorem n_bdL {h : aH} {key : Nat} {lo hi : Int} {x : Int64} (hr : w_hr z_D h) (hf : w_f h key = some (.long x)) (hd : t_dk key = some (2, lo, hi)) : lo ≤ x.toInt ∧ x.toInt ≤ hi := by
  obtain ⟨w, w1, w2⟩ := t_dk_ok hd hr
  rw [hf] at w1
  cases w1
  rcases w2 with ⟨q, -⟩ | ⟨-, y, e, q1, q2⟩
  · exact absurd (show (2 : Nat) = 1 from q) (by decide)
  · cases e
    exact ⟨q1, q2⟩
theorem n_dps {h : aH} {v : Nat → Int32} (hr : w_hr z_D h) (hm : n_mV h v) : 1 ≤ (v 129).toInt ∧ (v 129).toInt ≤ 100000000 := by
  have := n_bdL (lo := 1) (hi := 100000000) hr hm.2.2 rfl
  rw [y_i2l] at this
  exact this
theorem t_day_frc {h H : aH} {fs as : List Nat} (e : y_fr h H fs as) (h1 : fs.all (fun k => !decide (k / 128 = 134)) = true) (q : t_day h) : t_day H := by
  have hk : ∀ k, k / 128 = 134 → w_f H k = w_f h k := fun k hk => e.2.1 k (fun hq => by
    have := List.all_eq_true.mp h1 k hq
    rw [decide_eq_true hk] at this
    cases this)
  intro k hkm
  obtain ⟨x, y, q1, q2, q3⟩ := q k hkm
  have hlt : k / 128 = 134 := by
    simp only [t_K, List.mem_cons, List.not_mem_nil, or_false] at hkm
    omega
  exact ⟨x, y, (hk k hlt).trans q1, (hk 17152 (by decide)).trans q2, q3⟩
def n_fm (fs as : List Nat) : Bool := nM.all (fun p => !fs.elem p.2) && (nMA.all (fun o => !as.elem o) && !fs.elem 19600)
theorem n_fm_ok {h H : aH} {fs as : List Nat} (e : y_fr h H fs as) (hm : n_fm fs as = true) : n_mS h H := by
  unfold n_fm at hm
  rw [Bool.and_eq_true, Bool.and_eq_true] at hm
  refine ⟨fun p hp => e.2.1 _ (n_nel ?_), fun o ho => e.2.2 _ (n_nel ?_), e.2.1 _ (n_nel ?_)⟩
  · have := List.all_eq_true.mp hm.1 p hp
    rw [Bool.not_eq_true'] at this
    exact this
  · have := List.all_eq_true.mp hm.2.1 o ho
    rw [Bool.not_eq_true'] at this
    exact this
  · have := hm.2.2
    rw [Bool.not_eq_true'] at this
    exact this
theorem n_cV_up2 {h H : aH} {v : Nat → Int32} {x y : Int32} {as : List Nat} (e : y_fr h H [128, 129, 143] as) (ha : nCA.all (fun o => !as.elem o) = true) (q : n_cV h v) (g : w_f H 128 = some (.int x)) (g' : w_f H 129 = some (.int y)) : n_cV H (n_up (n_up v 128 x) 129 y) := by
  refine ⟨fun k hk => ?_, n_cA_S (fun o ho => e.2.2 _ (n_nel ?_)) (n_cA_up rfl (n_cA_up rfl q.2))⟩
  · unfold n_up
    by_cases e1 : k = 129
    · subst e1
      rw [if_pos rfl]
      exact g'
    · rw [if_neg e1]
      by_cases e' : k = 128
      · subst e'
        rw [if_pos rfl]
        exact g
      · rw [if_neg e']
        refine (e.2.1 k (fun w => ?_)).trans (q.1 k hk)
        have z : nC.all (fun k => decide (k ≠ 143)) = true := rfl
        have z := of_decide_eq_true (List.all_eq_true.mp z k hk)
        simp only [List.mem_cons, List.not_mem_nil, or_false] at w
        omega
  · have := List.all_eq_true.mp ha o ho
    rw [Bool.not_eq_true'] at this
    exact this
theorem n_c12 : n_pc X a_m12 2 false n_s12 := by
  intro us h v C S K0 hl _ hI hc hm hk
  match us, hl with
  | [a, b], _ =>
    have f0 := hc.1 128 (by decide)
    have f1 := hc.1 129 (by decide)
    have b0 := n_bd (lo := 0) (hi := 10) hI.1 f0 rfl
    have b1 := n_dps hI.1 hm
    refine c_node (d := 198) hI.1 f0 f1 b0.1 b0.2 b1.1 b1.2 (fun q H e x1 x2 => ?_) (fun q H e => ?_)
    · rw [show n_s12 [a, b] v = (n_up (n_up v 128 (v 128 + Int32.ofInt 1)) 129 (v 129 * b), v 128) from if_pos q] at hk
      exact hk H ⟨e.1, y_jfr y_JA_x e rfl rfl hI.2.1, t_day_frc e rfl hI.2.2⟩ (n_cV_up2 e rfl hc x1 x2) (n_mS_V (n_fm_ok e rfl) hm)
    · rw [show n_s12 [a, b] v = (v, Int32.ofInt (-1)) from if_neg q] at hk
      exact hk H ⟨e.1, y_jfr y_JA_x e rfl rfl hI.2.1, t_day_frc e rfl hI.2.2⟩ (n_cS_V (n_fk_c (ex := []) e rfl) hc) (n_mS_V (n_fm_ok e rfl) hm)
theorem n_fk_m0 {h H : aH} {fs as ex : List Nat} (e : y_fr h H fs as) (hm : n_fk fs as ex = true) : (∀ o ∈ nMA, o ∉ ex → w_a H o = w_a h o) ∧ True := by
  unfold n_fk at hm
  rw [Bool.and_eq_true] at hm
  have hm := hm.2
  rw [Bool.and_eq_true, Bool.and_eq_true] at hm
  refine ⟨fun o ho hx => ?_, trivial⟩
  have := List.all_eq_true.mp hm.2.1 o ho
  rw [Bool.or_eq_true] at this
  rcases this with q | q
  · exact absurd (List.elem_iff.mp q) hx
  · rw [Bool.not_eq_true'] at q
    exact e.2.2 _ (n_nel q)
theorem n_r173 : n_pr X a_m173 2 false n_s12 := by
  intro us h w v C S K0 hl _ hI hc hm hk
  match us, hl with
  | [a, b], _ =>
    have b1 := n_dps hI.1 hm
    refine f_node (d := 198) hI.1 hI.2.1.1 hI.2.1.2.2 (hm.1 (128, 19591) (by decide)) hm.2.2 (fun r H e qJ qC y n => ?_)
    have tI : t_I H := ⟨e.1, ⟨qJ, j_say_e e rfl rfl hI.2.1.2.1, qC⟩, t_day_fr e rfl hI.2.2⟩
    have hc' := n_cS_V (n_fk_c (ex := [19591, 19600]) e rfl) hc
    by_cases q : n_nd a b (v 128) (v 129)
    · rw [show n_s12 [a, b] v = (n_up (n_up v 128 (v 128 + Int32.ofInt 1)) 129 (v 129 * b), v 128) from if_pos q] at hk
      obtain ⟨y1, y2, y3⟩ := y q
      have q5 := q.2.2.2.2.1
      have q7 := q.2.2.2.2.2.2
      have p1 : 0 ≤ (v 129).toInt * b.toInt := Int.mul_nonneg (by omega) (by omega)
      have em : (v 129).toInt64 * b.toInt64 = (v 129 * b).toInt64 := by
        refine Int64.toInt_inj.mp ?_
        rw [y_mul (by rw [y_i2l, y_i2l]; omega) (by rw [y_i2l, y_i2l]; omega), y_i2l, y_i2l, y_i2l, Int32.toInt_mul]
        exact (Int.bmod_eq_of_le (by omega) (by omega)).symm
      rw [em] at y3
      rw [y1]
      refine hk H tI hc' ⟨fun p hp => ?_, ?_, ?_⟩
      · have z1 : nM.all (fun p => decide (p.1 = 128 ↔ p.2 = 19591)) = true := rfl
        have z1 := of_decide_eq_true (List.all_eq_true.mp z1 p hp)
        have z2 : nM.all (fun p => decide (p.1 ≠ 129) && decide (p.2 ≠ 19584) && decide (p.2 ≠ 19600)) = true := rfl
        have z2 := List.all_eq_true.mp z2 p hp
        simp only [Bool.and_eq_true, decide_eq_true_eq] at z2
        unfold n_up
        dsimp only
        rw [if_neg z2.1.1]
        by_cases w1 : p.1 = 128
        · rw [if_pos w1, z1.mp w1]
          exact y2
        · rw [if_neg w1]
          refine (e.2.1 _ (fun w2 => ?_)).trans (hm.1 p hp)
          simp only [List.mem_cons, List.not_mem_nil, or_false] at w2
          rcases w2 with w2 | w2 | w2
          · exact z2.1.2 w2
          · exact w1 (z1.mpr w2)
          · exact z2.2 w2
      · exact n_mA_S (fun o ho => (n_fk_m0 (ex := [19591, 19600]) e rfl).1 o ho (fun w => by simp only [List.mem_cons, List.not_mem_nil, or_false] at w; have z : nMA.all (fun o => Nat.blt o 1000) = true := rfl; have z := List.all_eq_true.mp z o ho; rw [Nat.blt_eq] at z; omega)) (n_mA_up rfl (n_mA_up rfl hm.2.1))
      · exact y3
    · rw [show n_s12 [a, b] v = (v, Int32.ofInt (-1)) from if_neg q] at hk
      obtain ⟨y1, y2⟩ := n q
      rw [y1]
      exact hk H tI hc' (n_mS_V (n_fk_m y2 rfl) hm)
theorem n_c21 : n_pc X a_m21 2 false n_s21 := by
  intro us h v C S K0 hl _ hI hc hm hk
  match us, hl with
  | [a, b], _ =>
    have i1 := s_i32 a
    have i2 := s_i32 b
    have f0 := hc.1 128 (by decide)
    have b0 := n_bd (lo := 0) (hi := 10) hI.1 f0 rfl
    by_cases q : n_fsV a b (v 128)
    · rw [show n_s21 [a, b] v = (v, Int32.ofInt 1) from if_pos q] at hk
      obtain ⟨q1, q2, q3, q4⟩ := q
      exact n_ctxc (us := [a, b]) (ws := [.int a, .int b, .int (v 128)]) (m := 0) (Int32.ofInt 1) (z_fo0_s (y_jx_l y_JA_x)) rfl rfl rfl hI rfl rfl (by decide +kernel) (by decide +kernel) rfl (by decide +kernel) (n_Ra (by omega) (by omega) rfl (n_Ra (by omega) (by omega) rfl (n_Rf rfl f0 (by omega) (by omega) (n_Rn)))) (List.forall_mem_cons.mpr ⟨⟨a, v 128, rfl, rfl, by dsimp only; omega⟩, fun _ h => absurd h List.not_mem_nil⟩) (fun H h1 hf => hk H h1 (n_cS_V (n_sC hI.1 hf (by decide +kernel)) hc) (n_mS_V (n_mk_m (ex := []) hI.1 hf (by decide +kernel)) hm))
    · rw [show n_s21 [a, b] v = (v, Int32.ofInt 0) from if_neg q] at hk
      by_cases q1 : a.toInt ≤ -1
      · exact n_ctxc (us := [a, b]) (ws := [.int a, .int b, .int (v 128)]) (m := 0) (Int32.ofInt 0) (z_fo1_s (y_jx_l y_JA_x)) rfl rfl rfl hI rfl rfl (by decide +kernel) (by decide +kernel) rfl (by decide +kernel) (n_Ra (by omega) (by omega) rfl (n_Ra (by omega) (by omega) rfl (n_Rf rfl f0 (by omega) (by omega) (n_Rn)))) (fun _ h => absurd h List.not_mem_nil) (fun H h1 hf => hk H h1 (n_cS_V (n_sC hI.1 hf (by decide +kernel)) hc) (n_mS_V (n_mk_m (ex := []) hI.1 hf (by decide +kernel)) hm))
      · by_cases q2 : (v 128).toInt ≤ a.toInt
        · exact n_ctxc (us := [a, b]) (ws := [.int a, .int b, .int (v 128)]) (m := 0) (Int32.ofInt 0) (z_fo2_s (y_jx_l y_JA_x)) rfl rfl rfl hI rfl rfl (by decide +kernel) (by decide +kernel) rfl (by decide +kernel) (n_Ra (by omega) (by omega) rfl (n_Ra (by omega) (by omega) rfl (n_Rf rfl f0 (by omega) (by omega) (n_Rn)))) (List.forall_mem_cons.mpr ⟨⟨v 128, a, rfl, rfl, by dsimp only; omega⟩, fun _ h => absurd h List.not_mem_nil⟩) (fun H h1 hf => hk H h1 (n_cS_V (n_sC hI.1 hf (by decide +kernel)) hc) (n_mS_V (n_mk_m (ex := []) hI.1 hf (by decide +kernel)) hm))
        · by_cases q3 : b.toInt ≤ -2
          · exact n_ctxc (us := [a, b]) (ws := [.int a, .int b, .int (v 128)]) (m := 0) (Int32.ofInt 0) (z_fo3_s (y_jx_l y_JA_x)) rfl rfl rfl hI rfl rfl (by decide +kernel) (by decide +kernel) rfl (by decide +kernel) (n_Ra (by omega) (by omega) rfl (n_Ra (by omega) (by omega) rfl (n_Rf rfl f0 (by omega) (by omega) (n_Rn)))) (fun _ h => absurd h List.not_mem_nil) (fun H h1 hf => hk H h1 (n_cS_V (n_sC hI.1 hf (by decide +kernel)) hc) (n_mS_V (n_mk_m (ex := []) hI.1 hf (by decide +kernel)) hm))
          · by_cases q4 : 2 ≤ b.toInt
            · exact n_ctxc (us := [a, b]) (ws := [.int a, .int b, .int (v 128)]) (m := 0) (Int32.ofInt 0) (z_fo4_s (y_jx_l y_JA_x)) rfl rfl rfl hI rfl rfl (by decide +kernel) (by decide +kernel) rfl (by decide +kernel) (n_Ra (by omega) (by omega) rfl (n_Ra (by omega) (by omega) rfl (n_Rf rfl f0 (by omega) (by omega) (n_Rn)))) (fun _ h => absurd h List.not_mem_nil) (fun H h1 hf => hk H h1 (n_cS_V (n_sC hI.1 hf (by decide +kernel)) hc) (n_mS_V (n_mk_m (ex := []) hI.1 hf (by decide +kernel)) hm))
            · exact absurd ⟨by omega, by omega, by omega, by omega⟩ q
theorem n_c24 : n_pc X a_m24 2 false n_s21 := by
  intro us h v C S K0 hl _ hI hc hm hk
  match us, hl with
  | [a, b], _ =>
    have i1 := s_i32 a
    have i2 := s_i32 b
    have f0 := hc.1 128 (by decide)
    have b0 := n_bd (lo := 0) (hi := 10) hI.1 f0 rfl
    by_cases q : n_fsV a b (v 128)
    · rw [show n_s21 [a, b] v = (v, Int32.ofInt 1) from if_pos q] at hk
      obtain ⟨q1, q2, q3, q4⟩ := q
      exact n_ctxc (us := [a, b]) (ws := [.int a, .int b, .int (v 128)]) (m := 0) (Int32.ofInt 1) (z_se0_s (y_jx_l y_JA_x)) rfl rfl rfl hI rfl rfl (by decide +kernel) (by decide +kernel) rfl (by decide +kernel) (n_Ra (by omega) (by omega) rfl (n_Ra (by omega) (by omega) rfl (n_Rf rfl f0 (by omega) (by omega) (n_Rn)))) (List.forall_mem_cons.mpr ⟨⟨a, v 128, rfl, rfl, by dsimp only; omega⟩, fun _ h => absurd h List.not_mem_nil⟩) (fun H h1 hf => hk H h1 (n_cS_V (n_sC hI.1 hf (by decide +kernel)) hc) (n_mS_V (n_mk_m (ex := []) hI.1 hf (by decide +kernel)) hm))
    · rw [show n_s21 [a, b] v = (v, Int32.ofInt 0) from if_neg q] at hk
      by_cases q1 : a.toInt ≤ -1
      · exact n_ctxc (us := [a, b]) (ws := [.int a, .int b, .int (v 128)]) (m := 0) (Int32.ofInt 0) (z_se1_s (y_jx_l y_JA_x)) rfl rfl rfl hI rfl rfl (by decide +kernel) (by decide +kernel) rfl (by decide +kernel) (n_Ra (by omega) (by omega) rfl (n_Ra (by omega) (by omega) rfl (n_Rf rfl f0 (by omega) (by omega) (n_Rn)))) (fun _ h => absurd h List.not_mem_nil) (fun H h1 hf => hk H h1 (n_cS_V (n_sC hI.1 hf (by decide +kernel)) hc) (n_mS_V (n_mk_m (ex := []) hI.1 hf (by decide +kernel)) hm))
      · by_cases q2 : (v 128).toInt ≤ a.toInt
        · exact n_ctxc (us := [a, b]) (ws := [.int a, .int b, .int (v 128)]) (m := 0) (Int32.ofInt 0) (z_se2_s (y_jx_l y_JA_x)) rfl rfl rfl hI rfl rfl (by decide +kernel) (by decide +kernel) rfl (by decide +kernel) (n_Ra (by omega) (by omega) rfl (n_Ra (by omega) (by omega) rfl (n_Rf rfl f0 (by omega) (by omega) (n_Rn)))) (List.forall_mem_cons.mpr ⟨⟨v 128, a, rfl, rfl, by dsimp only; omega⟩, fun _ h => absurd h List.not_mem_nil⟩) (fun H h1 hf => hk H h1 (n_cS_V (n_sC hI.1 hf (by decide +kernel)) hc) (n_mS_V (n_mk_m (ex := []) hI.1 hf (by decide +kernel)) hm))
        · by_cases q3 : b.toInt ≤ -2
          · exact n_ctxc (us := [a, b]) (ws := [.int a, .int b, .int (v 128)]) (m := 0) (Int32.ofInt 0) (z_se3_s (y_jx_l y_JA_x)) rfl rfl rfl hI rfl rfl (by decide +kernel) (by decide +kernel) rfl (by decide +kernel) (n_Ra (by omega) (by omega) rfl (n_Ra (by omega) (by omega) rfl (n_Rf rfl f0 (by omega) (by omega) (n_Rn)))) (fun _ h => absurd h List.not_mem_nil) (fun H h1 hf => hk H h1 (n_cS_V (n_sC hI.1 hf (by decide +kernel)) hc) (n_mS_V (n_mk_m (ex := []) hI.1 hf (by decide +kernel)) hm))
          · by_cases q4 : 2 ≤ b.toInt
            · exact n_ctxc (us := [a, b]) (ws := [.int a, .int b, .int (v 128)]) (m := 0) (Int32.ofInt 0) (z_se4_s (y_jx_l y_JA_x)) rfl rfl rfl hI rfl rfl (by decide +kernel) (by decide +kernel) rfl (by decide +kernel) (n_Ra (by omega) (by omega) rfl (n_Ra (by omega) (by omega) rfl (n_Rf rfl f0 (by omega) (by omega) (n_Rn)))) (fun _ h => absurd h List.not_mem_nil) (fun H h1 hf => hk H h1 (n_cS_V (n_sC hI.1 hf (by decide +kernel)) hc) (n_mS_V (n_mk_m (ex := []) hI.1 hf (by decide +kernel)) hm))
            · exact absurd ⟨by omega, by omega, by omega, by omega⟩ q
theorem n_r180 : n_pr X a_m180 2 false n_s21 := by
  intro us h w v C S K0 hl _ hI hc hm hk
  match us, hl with
  | [a, b], _ =>
    refine f_force (d := 198) hI.1 hI.2.1.1 (hm.1 (128, 19591) (by decide)) (fun q H e => ?_) (fun q H e => ?_)
    · rw [show n_s21 [a, b] v = (v, Int32.ofInt 1) from if_pos q] at hk
      exact hk H ⟨e.1, ⟨y_J_fr e rfl rfl hI.2.1.1, j_say_e e rfl rfl hI.2.1.2.1, j_cost_e e rfl rfl hI.2.1.2.2⟩, t_day_fr e rfl hI.2.2⟩ (n_cS_V (n_fk_c (ex := []) e rfl) hc) (n_mS_V (n_fk_m e rfl) hm)
    · rw [show n_s21 [a, b] v = (v, Int32.ofInt 0) from if_neg q] at hk
      exact hk H ⟨e.1, ⟨y_J_fr e rfl rfl hI.2.1.1, j_say_e e rfl rfl hI.2.1.2.1, j_cost_e e rfl rfl hI.2.1.2.2⟩, t_day_fr e rfl hI.2.2⟩ (n_cS_V (n_fk_c (ex := []) e rfl) hc) (n_mS_V (n_fk_m e rfl) hm)
theorem n_r181 : n_pr X a_m181 2 false n_s21 := by
  intro us h w v C S K0 hl _ hI hc hm hk
  match us, hl with
  | [a, b], _ =>
    refine f_see (d := 198) hI.1 hI.2.1.1 (hm.1 (128, 19591) (by decide)) (fun r H e qJ q1 => ?_)
    have tI : t_I H := ⟨e.1, ⟨qJ, j_say_e e rfl rfl hI.2.1.2.1, j_cost_e e rfl rfl hI.2.1.2.2⟩, t_day_fr e rfl hI.2.2⟩
    rw [q1]
    unfold n_fs
    by_cases q : n_fsV a b (v 128)
    · rw [show n_s21 [a, b] v = (v, Int32.ofInt 1) from if_pos q] at hk
      rw [if_pos q]
      exact hk H tI (n_cS_V (n_fk_c (ex := []) e rfl) hc) (n_mS_V (n_fk_m e rfl) hm)
    · rw [show n_s21 [a, b] v = (v, Int32.ofInt 0) from if_neg q] at hk
      rw [if_neg q]
      exact hk H tI (n_cS_V (n_fk_c (ex := []) e rfl) hc) (n_mS_V (n_fk_m e rfl) hm)
end NP
