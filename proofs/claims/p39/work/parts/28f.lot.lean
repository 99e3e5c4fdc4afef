/-! ===== v3: the reference's choices, byLot ===== -/
def y_ch (n k : Nat) : Nat → Nat
  | 0 => 1
  | i + 1 => y_ch n k i * (n - k + (i + 1)) / (i + 1)
def y_chk (n k : Nat) : Bool := (List.range (k + 1)).all (fun i => Nat.ble 1 (y_ch n k i) && Nat.ble (y_ch n k i) 155117520)
set_option maxRecDepth 100000 in
theorem y_ch0 : (List.range 31).all (fun n => (List.range (n + 1)).all (fun k => y_chk n k)) = true := by decide +kernel
theorem y_ch_b {n k i : Nat} (hn : n ≤ 30) (hk : k ≤ n) (hi : i ≤ k) : 1 ≤ y_ch n k i ∧ y_ch n k i ≤ 155117520 := by
  have h1 := List.all_eq_true.mp y_ch0 n (List.mem_range.mpr (by omega))
  have h2 := List.all_eq_true.mp h1 k (List.mem_range.mpr (by omega))
  have h3 := List.all_eq_true.mp h2 i (List.mem_range.mpr (by omega))
  rw [Bool.and_eq_true] at h3
  exact ⟨Nat.ble_eq.mp h3.1, Nat.ble_eq.mp h3.2⟩
theorem y_div64 {a b : Int64} {m n : Nat} (ha : a.toInt = m) (hb : b.toInt = n) (hn : 1 ≤ n) : (a / b).toInt = ((m / n : Nat) : Int) := by
  have h1 := a.toInt_lt
  rw [Int64.toInt_div, ha, hb]
  have e : Int.tdiv (m : Int) (n : Int) = ((m / n : Nat) : Int) := by
    rw [Int.tdiv_eq_ediv_of_nonneg (by omega)]
    rfl
  rw [e]
  have h2 : m / n ≤ m := Nat.div_le_self m n
  generalize m / n = q at h2 ⊢
  exact Int.bmod_eq_of_le (by omega) (by omega)
theorem y_mul64 {a b : Int64} {m n : Nat} (p : Nat) (ha : a.toInt = m) (hb : b.toInt = n) (hp : m * n = p) (h : p < 9223372036854775808) : (a * b).toInt = p := by
  rw [Int64.toInt_mul, ha, hb, ← Int.natCast_mul, hp]
  exact Int.bmod_eq_of_le (by omega) (by omega)
theorem y_add64 {a b : Int64} {m n : Nat} (p : Nat) (ha : a.toInt = m) (hb : b.toInt = n) (hp : m + n = p) (h : p < 9223372036854775808) : (a + b).toInt = p := by
  rw [Int64.toInt_add, ha, hb, show (m : Int) + n = p by omega]
  exact Int.bmod_eq_of_le (by omega) (by omega)
theorem y_subS {a b : Int32} {m n : Nat} (p : Nat) (ha : a.toInt = m) (hb : b.toInt = n) (hp : n + p = m) (h : p < 2147483648) : (a - b).toInt = p := by
  rw [Int32.toInt_sub, ha, hb, show (m : Int) - n = p by omega]
  exact Int.bmod_eq_of_le (by omega) (by omega)
section WG
variable {X : aX} {C S d : Nat} {K0 : Option Value → aH → Nat → Nat → Prop}
theorem y_choices_loop {nI kI : Int32} {n k : Nat} (hn : nI.toInt = n) (hk : kI.toInt = k) (n30 : n ≤ 30) (hkn : k ≤ n) : ∀ (t : Nat) (h : aH) (c : Int64) (iI : Int32) (i : Nat), w_hr z_D h → iI.toInt = ((i + 1 : Nat) : Int) → i + t = k → c.toInt = y_ch n k i →
    (∀ (r : Int64) (H : aH), y_fr h H [] [] → r.toInt = y_ch n k k → K0 (some (.long r)) H C S) →
    aOK s_P X d a_m277 16 [some (.int nI), some (.int kI), some (.long c), none, some (.int iI)] [] h C S K0 := by
  intro t
  induction t with
  | zero =>
    intro h c iI i hr hi hit hc hK
    refine w_go z_hl [16] [] 30 hr ?_
    refine ⟨fun q => fun H hH => hK c H (y_st (y_rf hr) hH (by repeat (first | exact w_nil | refine w_cons (Or.inl (y_m rfl)) ?_ | refine w_cons (Or.inr (by assumption)) ?_)) (by repeat (first | exact w_nil | refine w_cons (Or.inl (y_m rfl)) ?_ | refine w_cons (Or.inr (by assumption)) ?_))) (by rw [hc, show i = k by omega]), fun q => ?_⟩
    have : ¬ (kI.toInt < iI.toInt) := y_cif q
    omega
  | succ t ih =>
    intro h c iI i hr hi hit hc hK
    have b := y_ch_b n30 hkn (show i ≤ k by omega)
    have b2 := y_ch_b n30 hkn (show i + 1 ≤ k by omega)
    have hii : (iI + Int32.ofInt 1).toInt = ((i + 1 + 1 : Nat) : Int) := by rw [y_inc (by omega), hi]; rfl
    have s1 := y_addS (n - k + (i + 1)) (y_subS (n - k) hn hk (by omega) (by omega)) hi rfl (by omega)
    have hle : y_ch n k i * (n - k + (i + 1)) ≤ 155117520 * 60 := Nat.mul_le_mul b.2 (by omega)
    have m1 : (c * (nI - kI + iI).toInt64).toInt = ((y_ch n k i * (n - k + (i + 1)) : Nat) : Int) := y_mul64 _ hc (by rw [y_i2l]; exact s1) rfl (by omega)
    have d1 : (c * (nI - kI + iI).toInt64 / iI.toInt64).toInt = ((y_ch n k (i + 1) : Nat) : Int) := y_div64 m1 (by rw [y_i2l]; exact hi) (by omega)
    refine w_go z_hl [16] [] 30 hr ?_
    refine ⟨fun q => ?_, fun q => ?_⟩
    · have : kI.toInt < iI.toInt := (y_ci .gt _ _).mp q
      omega
    · refine ⟨fun e => ?_, fun H hH => ?_⟩
      · have e2 : iI.toInt64.toInt = 0 := by rw [e]; rfl
        rw [y_i2l] at e2
        omega
      · have e : y_fr h H [] [] := y_st (y_rf hr) hH (by repeat (first | exact w_nil | refine w_cons (Or.inl (y_m rfl)) ?_ | refine w_cons (Or.inr (by assumption)) ?_)) (by repeat (first | exact w_nil | refine w_cons (Or.inl (y_m rfl)) ?_ | refine w_cons (Or.inr (by assumption)) ?_))
        exact ih H _ _ (i + 1) e.1 hii (by omega) d1 (fun r H' f => hK r H' (y_sq e f rfl rfl))
theorem y_choices {h : aH} (hr : w_hr z_D h) {nI kI : Int32} (n0 : 0 ≤ nI.toInt) (n30 : nI.toInt ≤ 30) (hK : ∀ (r : Int64) (H : aH) (v : Nat), y_fr h H [] [] → r.toInt = v → v ≤ 155117520 → (0 ≤ kI.toInt → kI.toInt ≤ nI.toInt → 1 ≤ v) → K0 (some (.long r)) H C S) : aOK s_P X d a_m277 0 [some (.int nI), some (.int kI), none, none, none] [] h C S K0 := by
  refine w_go z_hl [16] [] 30 hr ?_
  refine ⟨fun q => fun H hH => ?_, fun q => ⟨fun q2 => fun H hH => ?_, fun q2 => fun H hH => ?_⟩⟩
  · have q3 : kI.toInt < (0 : Int32).toInt := (y_ci .lt _ _).mp q
    rw [show (0 : Int32).toInt = 0 by decide] at q3
    exact hK _ H 0 (y_st (y_rf hr) hH (by repeat (first | exact w_nil | refine w_cons (Or.inl (y_m rfl)) ?_ | refine w_cons (Or.inr (by assumption)) ?_)) (by repeat (first | exact w_nil | refine w_cons (Or.inl (y_m rfl)) ?_ | refine w_cons (Or.inr (by assumption)) ?_))) rfl (by omega) (fun _ _ => by omega)
  · have q3 : ¬ (kI.toInt < (0 : Int32).toInt) := y_cif q
    rw [show (0 : Int32).toInt = 0 by decide] at q3
    have q4 : kI.toInt ≤ nI.toInt := (y_ci .le _ _).mp q2
    have e : y_fr h H [] [] := y_st (y_rf hr) hH (by repeat (first | exact w_nil | refine w_cons (Or.inl (y_m rfl)) ?_ | refine w_cons (Or.inr (by assumption)) ?_)) (by repeat (first | exact w_nil | refine w_cons (Or.inl (y_m rfl)) ?_ | refine w_cons (Or.inr (by assumption)) ?_))
    refine y_choices_loop (n := nI.toInt.toNat) (k := kI.toInt.toNat) (by omega) (by omega) (by omega) (by omega) kI.toInt.toNat H _ _ 0 e.1 rfl (by omega) rfl (fun r H' f hr' => ?_)
    have b := y_ch_b (n := nI.toInt.toNat) (k := kI.toInt.toNat) (i := kI.toInt.toNat) (by omega) (by omega) (by omega)
    exact hK r H' _ (y_sq e f rfl rfl) hr' b.2 (fun _ _ => b.1)
  · have q4 : ¬ (kI.toInt ≤ nI.toInt) := y_cif q2
    exact hK _ H 0 (y_st (y_rf hr) hH (by repeat (first | exact w_nil | refine w_cons (Or.inl (y_m rfl)) ?_ | refine w_cons (Or.inr (by assumption)) ?_)) (by repeat (first | exact w_nil | refine w_cons (Or.inl (y_m rfl)) ?_ | refine w_cons (Or.inr (by assumption)) ?_))) rfl (by omega) (fun _ _ => by omega)
theorem y_lot_all {de on dy : Int32} (d0 : 0 ≤ dy.toInt) (d30 : dy.toInt ≤ 30) : ∀ (t : Nat) (h : aH) (aI kI : Int32) (a k : Nat), w_hr z_D h → w_f h 19643 = some (.int dy) → aI.toInt = a → kI.toInt = k → (k : Int) + t = dy.toInt → a ≤ k →
    (∀ (H : aH) (aI' : Int32) (a' : Nat) (k' : Int32), y_fr h H [] [] → aI'.toInt = a' → (a' : Int) ≤ dy.toInt → aOK s_P X (d + 1) a_m276 33 [some (.ref 155), some (.int de), some (.int on), some (.int aI'), some (.int k'), none, none] [] H C S K0) →
    aOK s_P X (d + 1) a_m276 5 [some (.ref 155), some (.int de), some (.int on), some (.int aI), some (.int kI), none, none] [] h C S K0 := by
  intro t
  induction t with
  | zero =>
    intro h aI kI a k hr g1 ha hk hkt hak hK
    refine w_go z_hl [5, 33] [] 40 hr ?_
    intro x hx _ _
    obtain rfl := y_fi g1 hx
    refine ⟨fun q => fun H hH => hK H _ _ _ (y_st (y_rf hr) hH (by repeat (first | exact w_nil | refine w_cons (Or.inl (y_m rfl)) ?_ | refine w_cons (Or.inr (by assumption)) ?_)) (by repeat (first | exact w_nil | refine w_cons (Or.inl (y_m rfl)) ?_ | refine w_cons (Or.inr (by assumption)) ?_))) ha (by omega), fun q => ?_⟩
    have : ¬ (dy.toInt ≤ kI.toInt) := y_cif q
    omega
  | succ t ih =>
    intro h aI kI a k hr g1 ha hk hkt hak hK
    have hik : (kI + Int32.ofInt 1).toInt = ((k + 1 : Nat) : Int) := by rw [y_inc (by omega), hk]; rfl
    have z1 : (aI + Int32.ofInt 1).toInt = ((a + 1 : Nat) : Int) := by rw [y_inc (by omega), ha]; rfl
    have z0 : (aI + Int32.ofInt 0).toInt = (a : Int) := by rw [show Int32.ofInt 0 = (0 : Int32) by decide, Int32.add_zero]; exact ha
    refine w_go z_hl [5, 33] [] 40 hr ?_
    intro x hx _ _
    obtain rfl := y_fi g1 hx
    refine ⟨fun q => ?_, fun q => ?_⟩
    · have : dy.toInt ≤ kI.toInt := (y_ci .ge _ _).mp q
      omega
    · refine ⟨⟨by omega, by omega⟩, fun l hl len bb => ⟨fun _ => fun H hH => ?_, fun _ => fun H hH => ?_⟩⟩
      · have e : y_fr h H [] [] := y_st (y_rf hr) hH (by repeat (first | exact w_nil | refine w_cons (Or.inl (y_m rfl)) ?_ | refine w_cons (Or.inr (by assumption)) ?_)) (by repeat (first | exact w_nil | refine w_cons (Or.inl (y_m rfl)) ?_ | refine w_cons (Or.inr (by assumption)) ?_))
        exact ih H _ _ a (k + 1) e.1 ((y_fe e rfl).trans g1) z0 hik (by omega) (by omega) (fun H' a1 a2 a3 f => hK H' a1 a2 a3 (y_sq e f rfl rfl))
      · have e : y_fr h H [] [] := y_st (y_rf hr) hH (by repeat (first | exact w_nil | refine w_cons (Or.inl (y_m rfl)) ?_ | refine w_cons (Or.inr (by assumption)) ?_)) (by repeat (first | exact w_nil | refine w_cons (Or.inl (y_m rfl)) ?_ | refine w_cons (Or.inr (by assumption)) ?_))
        exact ih H _ _ (a + 1) (k + 1) e.1 ((y_fe e rfl).trans g1) z1 hik (by omega) (by omega) (fun H' a1 a2 a3 f => hK H' a1 a2 a3 (y_sq e f rfl rfl))
theorem y_lot_sum {de on dy al : Int32} {a : Nat} (hal : al.toInt = a) (had : (a : Int) ≤ dy.toInt) (d30 : dy.toInt ≤ 30) (e0 : 0 ≤ de.toInt) (ed : de.toInt ≤ dy.toInt) : ∀ (t : Nat) (h : aH) (sum : Int64) (iI : Int32) (i s : Nat), w_hr z_D h → w_f h 19643 = some (.int dy) → iI.toInt = i → de.toInt < (i : Int) + t → i ≤ 100 → sum.toInt = s → s ≤ i * 24061445010950400 →
    (∀ (H : aH), y_fr h H [19587, 19588] [] → K0 none H C S) →
    aOK s_P X (d + 2) a_m276 39 [some (.ref 155), some (.int de), some (.int on), some (.int al), some (.long sum), none, some (.int iI)] [] h C S K0 := by
  intro t
  induction t with
  | zero =>
    intro h sum iI i s hr g1 hi hit i100 hs hsb hK
    have T90 : ∀ {G : aH}, y_fr h G [19587, 19588] [] → aOK s_P X (d + 2) a_m276 90 [some (.ref 155), some (.int de), some (.int on), some (.int al), some (.long sum), none, some (.int iI)] [] G C S K0 := by
      intro G e
      refine w_go z_hl [] [] 30 e.1 ?_
      intro H hH
      exact hK H (y_st e hH (by repeat (first | exact w_nil | refine w_cons (Or.inl (y_m rfl)) ?_ | refine w_cons (Or.inr (by assumption)) ?_)) (by repeat (first | exact w_nil | refine w_cons (Or.inl (y_m rfl)) ?_ | refine w_cons (Or.inr (by assumption)) ?_)))
    have T87 : ∀ {G : aH} {c : Int64}, y_fr h G [] [] → 1 ≤ c.toInt → aOK s_P X (d + 2) a_m276 87 [some (.ref 155), some (.int de), some (.int on), some (.int al), some (.long sum), none, some (.int iI)] [.long c, .long sum, .ref 155] G C S K0 := by
      intro G c e hc
      refine w_go z_hl [] [194] 30 e.1 ?_
      intro H hH
      have e2 := y_st e hH (by repeat (first | exact w_nil | refine w_cons (Or.inl (y_m rfl)) ?_ | refine w_cons (Or.inr (by assumption)) ?_)) (by repeat (first | exact w_nil | refine w_cons (Or.inl (y_m rfl)) ?_ | refine w_cons (Or.inr (by assumption)) ?_))
      refine q_lowest e2.1 (by omega) hc (fun u l H2 e3 _ _ _ _ _ _ _ => ⟨fun n e => (by cases e), ?_⟩)
      exact T90 (y_sq (y_mo e2 rfl rfl) e3 rfl rfl)
    refine w_go z_hl [39] [277] 40 hr ?_
    refine ⟨fun q => ?_, fun q => ?_⟩
    · intro x hx _ _
      obtain rfl := y_fi g1 hx
      intro H hH
      have e : y_fr h H [] [] := y_st (y_rf hr) hH (by repeat (first | exact w_nil | refine w_cons (Or.inl (y_m rfl)) ?_ | refine w_cons (Or.inr (by assumption)) ?_)) (by repeat (first | exact w_nil | refine w_cons (Or.inl (y_m rfl)) ?_ | refine w_cons (Or.inr (by assumption)) ?_))
      refine y_choices e.1 (by omega) d30 (fun r H2 v e2 hr2 hv hv1 => ⟨fun n e => (by cases e), ?_⟩)
      have := hv1 e0 ed
      exact T87 (y_sq e e2 rfl rfl) (by omega)
    · have : ¬ (de.toInt < iI.toInt) := y_cif q
      omega
  | succ t ih =>
    intro h sum iI i s hr g1 hi hit i100 hs hsb hK
    have hii : (iI + Int32.ofInt 1).toInt = ((i + 1 : Nat) : Int) := by rw [y_inc (by omega), hi]; rfl
    by_cases hgt : de.toInt < (i : Int)
    · exact (fun ih0 => ih0) (by
        have T90 : ∀ {G : aH}, y_fr h G [19587, 19588] [] → aOK s_P X (d + 2) a_m276 90 [some (.ref 155), some (.int de), some (.int on), some (.int al), some (.long sum), none, some (.int iI)] [] G C S K0 := by
          intro G e
          refine w_go z_hl [] [] 30 e.1 ?_
          intro H hH
          exact hK H (y_st e hH (by repeat (first | exact w_nil | refine w_cons (Or.inl (y_m rfl)) ?_ | refine w_cons (Or.inr (by assumption)) ?_)) (by repeat (first | exact w_nil | refine w_cons (Or.inl (y_m rfl)) ?_ | refine w_cons (Or.inr (by assumption)) ?_)))
        have T87 : ∀ {G : aH} {c : Int64}, y_fr h G [] [] → 1 ≤ c.toInt → aOK s_P X (d + 2) a_m276 87 [some (.ref 155), some (.int de), some (.int on), some (.int al), some (.long sum), none, some (.int iI)] [.long c, .long sum, .ref 155] G C S K0 := by
          intro G c e hc
          refine w_go z_hl [] [194] 30 e.1 ?_
          intro H hH
          have e2 := y_st e hH (by repeat (first | exact w_nil | refine w_cons (Or.inl (y_m rfl)) ?_ | refine w_cons (Or.inr (by assumption)) ?_)) (by repeat (first | exact w_nil | refine w_cons (Or.inl (y_m rfl)) ?_ | refine w_cons (Or.inr (by assumption)) ?_))
          refine q_lowest e2.1 (by omega) hc (fun u l H2 e3 _ _ _ _ _ _ _ => ⟨fun n e => (by cases e), ?_⟩)
          exact T90 (y_sq (y_mo e2 rfl rfl) e3 rfl rfl)
        refine w_go z_hl [39] [277] 40 hr ?_
        refine ⟨fun q => ?_, fun q => ?_⟩
        · intro x hx _ _
          obtain rfl := y_fi g1 hx
          intro H hH
          have e : y_fr h H [] [] := y_st (y_rf hr) hH (by repeat (first | exact w_nil | refine w_cons (Or.inl (y_m rfl)) ?_ | refine w_cons (Or.inr (by assumption)) ?_)) (by repeat (first | exact w_nil | refine w_cons (Or.inl (y_m rfl)) ?_ | refine w_cons (Or.inr (by assumption)) ?_))
          refine y_choices e.1 (by omega) d30 (fun r H2 v e2 hr2 hv hv1 => ⟨fun n e => (by cases e), ?_⟩)
          have := hv1 e0 ed
          exact T87 (y_sq e e2 rfl rfl) (by omega)
        · have : ¬ (de.toInt < iI.toInt) := y_cif q
          omega)
    · have T66 : ∀ {G : aH} {c1 c2 : Int64} {v1 v2 : Nat}, y_fr h G [] [] → c1.toInt = v1 → v1 ≤ 155117520 → c2.toInt = v2 → v2 ≤ 155117520 → aOK s_P X (d + 2) a_m276 66 [some (.ref 155), some (.int de), some (.int on), some (.int al), some (.long sum), none, some (.int iI)] [.long c2, .long c1, .long sum] G C S K0 := by
        intro G c1 c2 v1 v2 e h1 b1 h2 b2
        have hp : v1 * v2 ≤ 155117520 * 155117520 := Nat.mul_le_mul b1 b2
        have m1 : (c1 * c2).toInt = ((v1 * v2 : Nat) : Int) := y_mul64 _ h1 h2 rfl (by omega)
        have a1 : (sum + c1 * c2).toInt = ((s + v1 * v2 : Nat) : Int) := y_add64 _ hs m1 rfl (by omega)
        refine w_go z_hl [39] [] 40 e.1 ?_
        intro H hH
        have e2 := y_st e hH (by repeat (first | exact w_nil | refine w_cons (Or.inl (y_m rfl)) ?_ | refine w_cons (Or.inr (by assumption)) ?_)) (by repeat (first | exact w_nil | refine w_cons (Or.inl (y_m rfl)) ?_ | refine w_cons (Or.inr (by assumption)) ?_))
        exact ih H _ _ (i + 1) (s + v1 * v2) e2.1 ((y_fe e2 rfl).trans g1) hii (by omega) (by omega) a1 (by omega) (fun H' f => hK H' (y_sq (y_mo e2 rfl rfl) f rfl rfl))
      have T53 : ∀ {G : aH} {c1 : Int64} {v1 : Nat}, y_fr h G [] [] → c1.toInt = v1 → v1 ≤ 155117520 → aOK s_P X (d + 2) a_m276 53 [some (.ref 155), some (.int de), some (.int on), some (.int al), some (.long sum), none, some (.int iI)] [.long c1, .long sum] G C S K0 := by
        intro G c1 v1 e h1 b1
        obtain ⟨y, hy⟩ : ∃ y : Nat, dy.toInt = y := ⟨dy.toInt.toNat, by omega⟩
        have s1 := y_subS (y - a) hy hal (by omega) (by omega)
        refine w_go z_hl [] [277] 40 e.1 ?_
        intro x hx _ _
        obtain rfl := y_fi ((y_fe e rfl).trans g1) hx
        intro H hH
        have e2 := y_st e hH (by repeat (first | exact w_nil | refine w_cons (Or.inl (y_m rfl)) ?_ | refine w_cons (Or.inr (by assumption)) ?_)) (by repeat (first | exact w_nil | refine w_cons (Or.inl (y_m rfl)) ?_ | refine w_cons (Or.inr (by assumption)) ?_))
        refine y_choices (nI := dy - al) (kI := de - iI) e2.1 (by omega) (by omega) (fun r H2 v e3 hr2 hv hv1 => ⟨fun n e => (by cases e), ?_⟩)
        exact T66 (y_sq e2 e3 rfl rfl) h1 b1 hr2 hv
      refine w_go z_hl [39] [277] 40 hr ?_
      refine ⟨fun q => ?_, fun q => ?_⟩
      · have : de.toInt < iI.toInt := (y_ci .gt _ _).mp q
        omega
      · intro H hH
        have e : y_fr h H [] [] := y_st (y_rf hr) hH (by repeat (first | exact w_nil | refine w_cons (Or.inl (y_m rfl)) ?_ | refine w_cons (Or.inr (by assumption)) ?_)) (by repeat (first | exact w_nil | refine w_cons (Or.inl (y_m rfl)) ?_ | refine w_cons (Or.inr (by assumption)) ?_))
        refine y_choices (nI := al) (kI := iI) e.1 (by omega) (by omega) (fun r H2 v e3 hr2 hv hv1 => ⟨fun n e => (by cases e), ?_⟩)
        exact T53 (y_sq e e3 rfl rfl) hr2 hv
theorem y_byLot {h : aH} (hr : w_hr z_D h) {de on dy : Int32} (g1 : w_f h 19643 = some (.int dy)) (d0 : 0 ≤ dy.toInt) (d30 : dy.toInt ≤ 30) (e0 : 0 ≤ de.toInt) (ed : de.toInt ≤ dy.toInt) (o0 : 0 ≤ on.toInt) (o60 : on.toInt ≤ 60) (hK : ∀ (H : aH), y_fr h H [19587, 19588] [] → K0 none H C S) : aOK s_P X (d + 2) a_m276 0 [some (.ref 155), some (.int de), some (.int on), none, none, none, none] [] h C S K0 := by
  refine w_go z_hl [5] [] 40 hr ?_
  intro H hH
  have e : y_fr h H [] [] := y_st (y_rf hr) hH (by repeat (first | exact w_nil | refine w_cons (Or.inl (y_m rfl)) ?_ | refine w_cons (Or.inr (by assumption)) ?_)) (by repeat (first | exact w_nil | refine w_cons (Or.inl (y_m rfl)) ?_ | refine w_cons (Or.inr (by assumption)) ?_))
  refine y_lot_all d0 d30 dy.toInt.toNat H _ _ 0 0 e.1 ((y_fe e rfl).trans g1) rfl rfl (by omega) (by omega) (fun H2 aI' a' k' e2 ha ha2 => ?_)
  have e3 := y_sq e e2 rfl rfl
  refine w_go z_hl [39] [] 40 e3.1 ?_
  intro H4 h4
  have e4 := y_st e3 h4 (by repeat (first | exact w_nil | refine w_cons (Or.inl (y_m rfl)) ?_ | refine w_cons (Or.inr (by assumption)) ?_)) (by repeat (first | exact w_nil | refine w_cons (Or.inl (y_m rfl)) ?_ | refine w_cons (Or.inr (by assumption)) ?_))
  exact y_lot_sum ha ha2 d30 e0 ed 32 H4 _ _ on.toInt.toNat 0 e4.1 ((y_fe e4 rfl).trans g1) (by omega) (by omega) (by omega) rfl (by omega) (fun H' f => hK H' (y_sq (y_mo e4 rfl rfl) f rfl rfl))
end WG
