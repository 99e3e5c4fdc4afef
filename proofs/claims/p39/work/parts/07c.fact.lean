/-! ===== what is known of them: bounds of ints, and how two of them stand ===== -/
abbrev sFa : Type := List (sV × Int × Int) × List (Bool × sV × sV × Bool)
def s_cmp (lt : Bool) (m n : Int32) : Bool := if lt then decide (m < n) else decide (m = n)
def s_sat (E : Nat → Int32) (F : sF) (fa : sFa) : Prop := (∀ q ∈ fa.1, ∀ n, s_ev E F q.1 = .int n → q.2.1 ≤ n.toInt ∧ n.toInt ≤ q.2.2) ∧
  ∀ q ∈ fa.2, ∀ m n, s_ev E F q.2.1 = .int m → s_ev E F q.2.2.1 = .int n → s_cmp q.1 m n = q.2.2.2
def s_meet (a b : Int × Int) : Int × Int := (if a.1 < b.1 then b.1 else a.1, if b.2 < a.2 then b.2 else a.2)
def s_itv0 (e : sV) : Int × Int := match e with
  | [.inl (.int n)] => (n.toInt, n.toInt)
  | _ => (-2147483648, 2147483647)
def s_itvs (l : List (sV × Int × Int)) (e : sV) : Int × Int := match l with
  | [] => s_itv0 e
  | q :: r => if q.1 = e then s_meet q.2 (s_itvs r e) else s_itvs r e
/-- a constant that it is known not to be -/
def s_nev (q : Bool × sV × sV × Bool) : Option (sV × Int32) := match q with
  | (false, e, [.inl (.int n)], false) => some (e, n)
  | _ => none
def s_tr1 (n : Int) (y : Int × Int) : Int × Int := (if y.1 = n then y.1 + 1 else y.1, if y.2 = n then y.2 - 1 else y.2)
def s_trim (l : List (Bool × sV × sV × Bool)) (e : sV) (x : Int × Int) : Int × Int := match l with
  | [] => x
  | q :: r => match s_nev q with
    | some (e', n) => if e' = e then s_tr1 n.toInt (s_trim r e x) else s_trim r e x
    | none => s_trim r e x
def s_itv (fa : sFa) (e : sV) : Int × Int := s_trim fa.2 e (s_itvs fa.1 e)
theorem s_i32 (n : Int32) : -2147483648 ≤ n.toInt ∧ n.toInt ≤ 2147483647 := by
  have h1 := n.le_toInt
  have h2 := n.toInt_le
  exact ⟨Int.le_trans (by decide) h1, Int.le_trans h2 (by decide)⟩
theorem s_itv0_ok {E : Nat → Int32} {F : sF} {e : sV} {n : Int32} (h : s_ev E F e = .int n) : (s_itv0 e).1 ≤ n.toInt ∧ n.toInt ≤ (s_itv0 e).2 := by
  unfold s_itv0
  split
  · cases h; exact ⟨Int.le_refl _, Int.le_refl _⟩
  · exact s_i32 n
theorem s_meet_ok {a b : Int × Int} {n : Int} (h1 : a.1 ≤ n ∧ n ≤ a.2) (h2 : b.1 ≤ n ∧ n ≤ b.2) : (s_meet a b).1 ≤ n ∧ n ≤ (s_meet a b).2 := by
  unfold s_meet
  dsimp only
  constructor <;> split <;> omega
theorem s_tr1_ok {k n : Int} {y : Int × Int} (h : y.1 ≤ n ∧ n ≤ y.2) (hne : n ≠ k) : (s_tr1 k y).1 ≤ n ∧ n ≤ (s_tr1 k y).2 := by
  unfold s_tr1
  dsimp only
  constructor <;> split <;> omega
theorem s_trim_ok {E : Nat → Int32} {F : sF} {l : List (Bool × sV × sV × Bool)} (hs : ∀ q ∈ l, ∀ m n, s_ev E F q.2.1 = .int m → s_ev E F q.2.2.1 = .int n → s_cmp q.1 m n = q.2.2.2) {e : sV} {n : Int32} (h : s_ev E F e = .int n) {x : Int × Int} (hx : x.1 ≤ n.toInt ∧ n.toInt ≤ x.2) : (s_trim l e x).1 ≤ n.toInt ∧ n.toInt ≤ (s_trim l e x).2 := by
  induction l with
  | nil => exact hx
  | cons q r ih =>
    have ih' := ih (fun q hq => hs q (List.mem_cons_of_mem _ hq))
    unfold s_trim
    split
    · rename_i e' k hq
      split
      · rename_i e1
        subst e1
        have h1 := hs q List.mem_cons_self
        unfold s_nev at hq
        split at hq
        · cases hq
          have h2 := h1 n k h rfl
          refine s_tr1_ok ih' (fun q => ?_)
          rw [Int32.toInt_inj] at q
          subst q
          unfold s_cmp at h2
          simp at h2
        · cases hq
      · exact ih'
    · exact ih'
theorem s_itv_ok {E : Nat → Int32} {F : sF} {fa : sFa} (hs : s_sat E F fa) {e : sV} {n : Int32} (h : s_ev E F e = .int n) : (s_itv fa e).1 ≤ n.toInt ∧ n.toInt ≤ (s_itv fa e).2 := by
  have h0 := hs.1
  unfold s_itv
  refine s_trim_ok hs.2 h ?_
  generalize fa.1 = l at h0
  induction l with
  | nil => exact s_itv0_ok h
  | cons q r ih =>
    have ih' := ih (fun q hq => h0 q (List.mem_cons_of_mem _ hq))
    unfold s_itvs
    split
    · rename_i e1
      refine s_meet_ok (h0 q List.mem_cons_self n (by rw [e1]; exact h)) ih'
    · exact ih'
def s_find (l : List (Bool × sV × sV × Bool)) (lt : Bool) (a b : sV) : Option Bool := match l with
  | [] => none
  | q :: r => if q.1 = lt ∧ q.2.1 = a ∧ q.2.2.1 = b then some q.2.2.2 else s_find r lt a b
def s_dec (fa : sFa) (lt : Bool) (a b : sV) : Option Bool :=
  if a = b then some (!lt) else match s_find fa.2 lt a b with
  | some r => some r
  | none => if lt then (if (s_itv fa a).2 < (s_itv fa b).1 then some true else if (s_itv fa b).2 ≤ (s_itv fa a).1 then some false else none)
    else (if (s_itv fa a).2 < (s_itv fa b).1 then some false else if (s_itv fa b).2 < (s_itv fa a).1 then some false else
      if (s_itv fa a).1 = (s_itv fa a).2 ∧ (s_itv fa b).1 = (s_itv fa b).2 ∧ (s_itv fa a).1 = (s_itv fa b).1 then some true else none)
theorem s_find_ok {E : Nat → Int32} {F : sF} {l : List (Bool × sV × sV × Bool)} (hs : ∀ q ∈ l, ∀ m n, s_ev E F q.2.1 = .int m → s_ev E F q.2.2.1 = .int n → s_cmp q.1 m n = q.2.2.2) {lt r : Bool} {a b : sV} {m n : Int32} (ha : s_ev E F a = .int m) (hb : s_ev E F b = .int n) (h : s_find l lt a b = some r) : s_cmp lt m n = r := by
  induction l with
  | nil => cases h
  | cons q t ih =>
    unfold s_find at h
    split at h
    · rename_i e
      obtain ⟨e1, e2, e3⟩ := e
      cases h
      rw [← e1]
      exact hs q List.mem_cons_self m n (by rw [e2]; exact ha) (by rw [e3]; exact hb)
    · exact ih (fun q hq => hs q (List.mem_cons_of_mem _ hq)) h
theorem s_dec_ok {E : Nat → Int32} {F : sF} {fa : sFa} (hs : s_sat E F fa) {lt r : Bool} {a b : sV} {m n : Int32} (ha : s_ev E F a = .int m) (hb : s_ev E F b = .int n) (h : s_dec fa lt a b = some r) : s_cmp lt m n = r := by
  have ia := s_itv_ok hs ha
  have ib := s_itv_ok hs hb
  unfold s_dec at h
  split at h
  · rename_i e
    subst e
    cases ha.symm.trans hb
    cases h
    unfold s_cmp
    cases lt
    · simp
    · simp [Int32.lt_irrefl]
  · split at h
    · rename_i z hz
      cases h
      exact s_find_ok hs.2 ha hb hz
    · unfold s_cmp
      split at h
      · rename_i hl
        rw [if_pos hl]
        split at h
        · cases h
          exact decide_eq_true (Int32.lt_iff_toInt_lt.mpr (by omega))
        · split at h
          · cases h
            exact decide_eq_false (fun q => by have := Int32.lt_iff_toInt_lt.mp q; omega)
          · cases h
      · rename_i hl
        rw [if_neg hl]
        split at h
        · cases h
          exact decide_eq_false (fun q => by subst q; omega)
        · split at h
          · cases h
            exact decide_eq_false (fun q => by subst q; omega)
          · split at h
            · cases h
              exact decide_eq_true (Int32.toInt_inj.mp (by omega))
            · cases h
/-- what an answer tells -/
def s_ra (lt r : Bool) (x y : Int × Int) : Int × Int := if lt then (if r then (x.1, y.2 - 1) else (y.1, x.2)) else (if r then y else
  if y.1 = y.2 then (if x.1 = y.1 then (x.1 + 1, x.2) else if x.2 = y.1 then (x.1, x.2 - 1) else x) else x)
def s_rb (lt r : Bool) (x y : Int × Int) : Int × Int := if lt then (if r then (x.1 + 1, y.2) else (y.1, x.2)) else (if r then x else
  if x.1 = x.2 then (if y.1 = x.1 then (y.1 + 1, y.2) else if y.2 = x.1 then (y.1, y.2 - 1) else y) else y)
def s_cst (e : sV) : Bool := match e with
  | [.inl _] => true
  | _ => false
def s_put (a : sV) (x : Int × Int) (l : List (sV × Int × Int)) : List (sV × Int × Int) := if s_cst a then l else (a, x) :: l.filter (fun q => !decide (q.1 = a))
def s_add (fa : sFa) (lt r : Bool) (a b : sV) : sFa :=
  (s_put a (s_meet (s_itv fa a) (s_ra lt r (s_itv fa a) (s_itv fa b))) (s_put b (s_meet (s_itv fa b) (s_rb lt r (s_itv fa a) (s_itv fa b))) fa.1), if lt && (s_cst a || s_cst b) then fa.2 else (lt, a, b, r) :: fa.2)
theorem s_ra_ok {lt r : Bool} {m n : Int32} {x y : Int × Int} (hx : x.1 ≤ m.toInt ∧ m.toInt ≤ x.2) (hy : y.1 ≤ n.toInt ∧ n.toInt ≤ y.2) (h : s_cmp lt m n = r) : ((s_ra lt r x y).1 ≤ m.toInt ∧ m.toInt ≤ (s_ra lt r x y).2) ∧ ((s_rb lt r x y).1 ≤ n.toInt ∧ n.toInt ≤ (s_rb lt r x y).2) := by
  unfold s_cmp at h
  unfold s_ra s_rb
  cases lt with
  | true =>
    cases r with
    | true =>
      have := Int32.lt_iff_toInt_lt.mp (of_decide_eq_true h)
      simp only [if_true]
      omega
    | false =>
      have h2 : ¬ m < n := of_decide_eq_false h
      rw [Int32.lt_iff_toInt_lt] at h2
      simp only [if_true, Bool.false_eq_true, if_false]
      omega
  | false =>
    cases r with
    | true =>
      have h2 : m = n := of_decide_eq_true h
      subst h2
      simp only [if_true, Bool.false_eq_true, if_false]
      omega
    | false =>
      have h2 : ¬ m = n := of_decide_eq_false h
      rw [← Int32.toInt_inj] at h2
      simp only [Bool.false_eq_true, if_false]
      constructor
      · split
        · split
          · dsimp only; omega
          · split
            · dsimp only; omega
            · exact hx
        · exact hx
      · split
        · split
          · dsimp only; omega
          · split
            · dsimp only; omega
            · exact hy
        · exact hy
theorem s_add_ok {E : Nat → Int32} {F : sF} {fa : sFa} (hs : s_sat E F fa) {lt r : Bool} {a b : sV} {m n : Int32} (ha : s_ev E F a = .int m) (hb : s_ev E F b = .int n) (h : s_cmp lt m n = r) : s_sat E F (s_add fa lt r a b) := by
  obtain ⟨q1, q2⟩ := s_ra_ok (s_itv_ok hs ha) (s_itv_ok hs hb) h
  have hp : ∀ {e : sV} {z : Int32} {x : Int × Int} {l : List (sV × Int × Int)}, s_ev E F e = .int z → x.1 ≤ z.toInt ∧ z.toInt ≤ x.2 → (∀ q ∈ l, ∀ n, s_ev E F q.1 = .int n → q.2.1 ≤ n.toInt ∧ n.toInt ≤ q.2.2) → ∀ q ∈ s_put e x l, ∀ n, s_ev E F q.1 = .int n → q.2.1 ≤ n.toInt ∧ n.toInt ≤ q.2.2 := by
    intro e z x l he hx hl q hq n hn
    unfold s_put at hq
    split at hq
    · exact hl q hq n hn
    · rcases List.mem_cons.mp hq with rfl | hq
      · cases he.symm.trans hn
        exact hx
      · exact hl q (List.mem_filter.mp hq).1 n hn
  refine ⟨hp ha (s_meet_ok (s_itv_ok hs ha) q1) (hp hb (s_meet_ok (s_itv_ok hs hb) q2) hs.1), ?_⟩
  unfold s_add
  dsimp only
  split
  · exact hs.2
  · intro q hq m' n' hm hn
    rcases List.mem_cons.mp hq with rfl | hq
    · cases ha.symm.trans hm
      cases hb.symm.trans hn
      exact h
    · exact hs.2 q hq m' n' hm hn
/-- a test, as 'below' or 'the same', which way round, and whether it is turned -/
def s_nrm (c : ClassFile.Cond) (a b : sV) : Bool × sV × sV × Bool := match c with
  | .eq => (false, a, b, false)
  | .ne => (false, a, b, true)
  | .lt => (true, a, b, false)
  | .ge => (true, a, b, true)
  | .gt => (true, b, a, false)
  | .le => (true, b, a, true)
