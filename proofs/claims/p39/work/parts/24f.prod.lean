/-! ===== v3: sums of products over ways (pure) ===== -/
def y_S (f : Nat → Int) : Nat → Int
  | 0 => 0
  | n + 1 => y_S f n + f n
theorem y_S_add (f : Nat → Int) (a : Nat) : ∀ b, y_S f (a + b) = y_S f a + y_S (fun i => f (a + i)) b
  | 0 => by show _ = _ + 0; rw [Int.add_zero]; rfl
  | b + 1 => by
    show y_S f (a + b) + f (a + b) = _ + (y_S _ b + f (a + b))
    rw [y_S_add f a b, Int.add_assoc]
theorem y_S_le {f g : Nat → Int} : ∀ {n : Nat}, (∀ i, i < n → f i ≤ g i) → y_S f n ≤ y_S g n
  | 0, _ => Int.le_refl 0
  | n + 1, h => Int.add_le_add (y_S_le (fun i hi => h i (by omega))) (h n (by omega))
theorem y_S_sum (f g : Nat → Int) : ∀ n, y_S f n + y_S g n = y_S (fun i => f i + g i) n
  | 0 => rfl
  | n + 1 => by
    show y_S f n + f n + (y_S g n + g n) = y_S _ n + (f n + g n)
    rw [← y_S_sum f g n]
    omega
theorem y_S_mul (f : Nat → Int) (c : Int) : ∀ n, y_S (fun i => f i * c) n = y_S f n * c
  | 0 => (Int.zero_mul c).symm
  | n + 1 => by
    show y_S _ n + f n * c = (y_S f n + f n) * c
    rw [y_S_mul f c n, Int.add_mul]
def y_wt (F : Nat → Nat → Int) (w : Nat) : Nat → Int
  | 0 => 1
  | v + 1 => y_wt F w v * F v w
def y_pr (de : Nat → Int) : Nat → Int
  | 0 => 1
  | v + 1 => y_pr de v * de v
section PR
variable {F : Nat → Nat → Int} {de : Nat → Int}
theorem y_wt_0 {w : Nat} : ∀ {m : Nat}, (∀ v, v < m → 0 ≤ F v w) → 0 ≤ y_wt F w m
  | 0, _ => show (0 : Int) ≤ 1 by decide
  | m + 1, h => Int.mul_nonneg (y_wt_0 (fun v hv => h v (by omega))) (h m (by omega))
theorem y_pr_0 : ∀ {m : Nat}, (∀ v, v < m → 0 ≤ de v) → 0 ≤ y_pr de m
  | 0, _ => show (0 : Int) ≤ 1 by decide
  | m + 1, h => Int.mul_nonneg (y_pr_0 (fun v hv => h v (by omega))) (h m (by omega))
theorem y_wt_le {w : Nat} : ∀ {m : Nat}, (∀ v, v < m → 0 ≤ F v w ∧ F v w ≤ de v) → y_wt F w m ≤ y_pr de m
  | 0, _ => Int.le_refl 1
  | m + 1, h => Int.mul_le_mul (y_wt_le (fun v hv => h v (by omega))) (h m (by omega)).2 (h m (by omega)).1 (y_pr_0 (fun v hv => Int.le_trans (h v (by omega)).1 (h v (by omega)).2))
theorem y_pr_m {m n : Nat} (h : m ≤ n) (h1 : ∀ v, v < n → 1 ≤ de v) : y_pr de m ≤ y_pr de n := by
  induction n with
  | zero => rw [Nat.le_zero.mp h]; exact Int.le_refl _
  | succ n ih =>
    rcases Nat.lt_or_ge m (n + 1) with q | q
    · have h2 := ih (by omega) (fun v hv => h1 v (by omega))
      have h3 : y_pr de n * 1 ≤ y_pr de n * de n := Int.mul_le_mul_of_nonneg_left (h1 n (by omega)) (y_pr_0 (fun v hv => Int.le_trans (by decide) (h1 v (by omega))))
      show _ ≤ y_pr de n * de n
      omega
    · have : m = n + 1 := by omega
      rw [this]; exact Int.le_refl _
theorem y_wt_c {w w' : Nat} : ∀ {m : Nat}, (∀ v, v < m → F v w = F v w') → y_wt F w m = y_wt F w' m
  | 0, _ => rfl
  | m + 1, h => by
    show y_wt F w m * F m w = y_wt F w' m * F m w'
    rw [y_wt_c (fun v hv => h v (by omega)), h m (by omega)]
/-- all ways together -/
theorem y_sum_le : ∀ {m : Nat}, (∀ v w, v < m → 0 ≤ F v w) → (∀ v w w', v < m → (∀ o, o ≤ v → w.testBit o = w'.testBit o) → F v w = F v w') → (∀ v w, v < m → w < 2 ^ v → F v w + F v (2 ^ v + w) ≤ de v) → (∀ v, v < m → 0 ≤ de v) → y_S (fun w => y_wt F w m) (2 ^ m) ≤ y_pr de m
  | 0, _, _, _, _ => show (0 : Int) + 1 ≤ 1 by decide
  | m + 1, h0, h1, h2, h3 => by
    have ih := y_sum_le (m := m) (fun v w hv => h0 v w (by omega)) (fun v w w' hv => h1 v w w' (by omega)) (fun v w hv => h2 v w (by omega)) (fun v hv => h3 v (by omega))
    have e : 2 ^ (m + 1) = 2 ^ m + 2 ^ m := by rw [Nat.pow_succ]; omega
    rw [e, y_S_add, y_S_sum]
    refine Int.le_trans (y_S_le (g := fun i => y_wt F i m * de m) (fun i hi => ?_)) ?_
    · show y_wt F i m * F m i + y_wt F (2 ^ m + i) m * F m (2 ^ m + i) ≤ y_wt F i m * de m
      rw [y_wt_c (w := 2 ^ m + i) (w' := i) (fun v hv => h1 v _ _ (by omega) (fun o ho => Nat.testBit_two_pow_add_gt (by omega) i)), ← Int.mul_add]
      exact Int.mul_le_mul_of_nonneg_left (h2 m i (by omega) hi) (y_wt_0 (fun v hv => h0 v i (by omega)))
    · rw [y_S_mul]
      exact Int.mul_le_mul_of_nonneg_right ih (h3 m (by omega))
end PR
/-- a table's place, and how many bits lie behind it -/
def y_ap (lb w : Nat) : Nat → Nat × Nat
  | 0 => (0, 0)
  | o + 1 => if lb.testBit o then (if w.testBit o then (y_ap lb w o).1 + 2 ^ (y_ap lb w o).2 else (y_ap lb w o).1, (y_ap lb w o).2 + 1) else y_ap lb w o
def y_pl (lb : Nat) : Nat → Nat
  | 0 => 0
  | o + 1 => y_pl lb o + if lb.testBit o then 1 else 0
theorem y_ap_2 {lb w : Nat} : ∀ o, (y_ap lb w o).2 = y_pl lb o
  | 0 => rfl
  | o + 1 => by
    unfold y_ap y_pl
    split
    · dsimp only; rw [y_ap_2 o]
    · rw [y_ap_2 o]; rfl
theorem y_ap_1 {lb w : Nat} : ∀ o, (y_ap lb w o).1 < 2 ^ (y_ap lb w o).2
  | 0 => show 0 < 2 ^ 0 by decide
  | o + 1 => by
    have ih := y_ap_1 (lb := lb) (w := w) o
    unfold y_ap
    split
    · dsimp only
      rw [Nat.pow_succ]
      split <;> omega
    · exact ih
theorem y_pl_m {lb o p : Nat} (h : o ≤ p) : y_pl lb o ≤ y_pl lb p := by
  induction h with
  | refl => exact Nat.le_refl _
  | step _ ih => exact Nat.le_trans ih (Nat.le_add_right _ _)
theorem y_ap_e {lb w v : Nat} (hl : lb < 2 ^ v) : ∀ {o : Nat}, v ≤ o → y_ap lb w o = y_ap lb w v := by
  intro o h
  induction h with
  | refl => rfl
  | @step p hp ih =>
    have : lb.testBit p = false := Nat.testBit_lt_two_pow (Nat.lt_of_lt_of_le hl (Nat.pow_le_pow_right (by decide) hp))
    show (if lb.testBit p then _ else y_ap lb w p) = _
    rw [this]
    exact ih
theorem y_ap_c {lb w w' : Nat} : ∀ {v : Nat}, (∀ o, o < v → w.testBit o = w'.testBit o) → y_ap lb w v = y_ap lb w' v
  | 0, _ => rfl
  | v + 1, h => by
    unfold y_ap
    rw [y_ap_c (fun o ho => h o (by omega)), h v (by omega)]
/-- a node's factor in a way -/
def y_fa (n : Nat) (le : Nat → Nat) (de ta fo : Nat → Int) (v w : Nat) : Int := if 0 ≤ fo v then (if fo v = (if w.testBit v then 1 else 0) then de v else 0) else if w.testBit v then ta (8 * v + (y_ap (le v) w n).1) else de v - ta (8 * v + (y_ap (le v) w n).1)
section FA
variable {n : Nat} {le : Nat → Nat} {de ta fo : Nat → Int}
theorem y_fa_b (hp : ∀ v, v < n → y_pl (le v) n ≤ 3) (ht : ∀ v c, v < n → c < 8 → 0 ≤ ta (8 * v + c) ∧ ta (8 * v + c) ≤ de v) (hd : ∀ v, v < n → 0 ≤ de v) {v w : Nat} (hv : v < n) : 0 ≤ y_fa n le de ta fo v w ∧ y_fa n le de ta fo v w ≤ de v := by
  have h8 : (y_ap (le v) w n).1 < 8 := by
    have h1 := y_ap_1 (lb := le v) (w := w) n
    rw [y_ap_2] at h1
    exact Nat.lt_of_lt_of_le h1 (Nat.le_trans (Nat.pow_le_pow_right (by decide) (hp v hv)) (by decide))
  have h2 := ht v _ hv h8
  have h3 := hd v hv
  unfold y_fa
  split
  · split <;> omega
  · split <;> omega
theorem y_fa_sum (hle : ∀ v, v < n → le v < 2 ^ v) (hp : ∀ v, v < n → y_pl (le v) n ≤ 3) (ht : ∀ v c, v < n → c < 8 → 0 ≤ ta (8 * v + c) ∧ ta (8 * v + c) ≤ de v) (hd : ∀ v, v < n → 0 ≤ de v) : y_S (fun w => y_wt (y_fa n le de ta fo) w n) (2 ^ n) ≤ y_pr de n := by
  refine y_sum_le (fun v w hv => (y_fa_b hp ht hd hv).1) (fun v w w' hv hb => ?_) (fun v w hv hw => ?_) hd
  · have e : y_ap (le v) w n = y_ap (le v) w' n := by
      rw [y_ap_e (hle v hv) (show v ≤ n by omega), y_ap_e (hle v hv) (show v ≤ n by omega)]
      exact y_ap_c (fun o ho => hb o (by omega))
    unfold y_fa
    rw [e, hb v (Nat.le_refl v)]
  · have e : y_ap (le v) (2 ^ v + w) n = y_ap (le v) w n := by
      rw [y_ap_e (hle v hv) (show v ≤ n by omega), y_ap_e (hle v hv) (show v ≤ n by omega)]
      exact y_ap_c (fun o ho => Nat.testBit_two_pow_add_gt ho w)
    have b1 : w.testBit v = false := Nat.testBit_lt_two_pow hw
    have b2 : (2 ^ v + w).testBit v = true := by rw [Nat.testBit_two_pow_add_eq, b1]; rfl
    have h3 := hd v hv
    unfold y_fa
    rw [e, b1, b2]
    split
    · simp only [Bool.false_eq_true, if_false, if_true]
      split <;> split <;> omega
    · simp only [Bool.false_eq_true, if_false, if_true]
      omega
end FA
