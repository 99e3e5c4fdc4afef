/-! ===== v2: named values, and what is known of them ===== -/
/-- an operand: a constant, or a named value and what is added to it -/
abbrev zO : Type := Value ⊕ (Nat × Int)
/-- kind (1 an int, 2 a long), bounds -/
abbrev zI : Type := Nat × Int × Int
/-- bounds by name; differences; long comparisons; longs that are ints -/
abbrev zF : Type := List (Nat × zI) × List (Nat × Nat × Int) × List (Nat × zO × zO) × List (Nat × zO)
abbrev zR : Type := List Value
def z_v (ρ : zR) (o : zO) : Value := match o with
  | .inl w => w
  | .inr (k, n) => match ρ[k]? with
    | some (.int x) => .int (Int32.ofInt (x.toInt + n))
    | some w => w
    | none => .null
def z_in (a : zI) (w : Value) : Prop := (a.1 = 1 ∧ ∃ x : Int32, w = .int x ∧ a.2.1 ≤ x.toInt ∧ x.toInt ≤ a.2.2) ∨ (a.1 = 2 ∧ ∃ x : Int64, w = .long x ∧ a.2.1 ≤ x.toInt ∧ x.toInt ≤ a.2.2)
def z_sat (ρ : zR) (f : zF) : Prop := (∀ q ∈ f.1, ∃ w, ρ[q.1]? = some w ∧ z_in q.2 w) ∧
  (∀ q ∈ f.2.1, ∃ x y : Int32, ρ[q.1]? = some (.int x) ∧ ρ[q.2.1]? = some (.int y) ∧ x.toInt - y.toInt ≤ q.2.2) ∧
  (∀ q ∈ f.2.2.1, ∃ x y : Int64, z_v ρ q.2.1 = .long x ∧ z_v ρ q.2.2 = .long y ∧ ρ[q.1]? = some (.int (lg_cmp x y))) ∧
  ∀ q ∈ f.2.2.2, ∃ x : Int32, z_v ρ q.2 = .int x ∧ ρ[q.1]? = some (.long x.toInt64)
theorem z_lk_in {α : Type} {l : List (Nat × α)} {k : Nat} {q : α} (h : l.lookup k = some q) : (k, q) ∈ l := by
  induction l with
  | nil => cases h
  | cons e t ih =>
    obtain ⟨n, x⟩ := e
    rw [List.lookup_cons] at h
    split at h
    · rename_i e1
      cases h
      rw [beq_iff_eq] at e1
      subst e1
      exact List.mem_cons_self
    · exact List.mem_cons_of_mem _ (ih h)
/-- more names change nothing -/
theorem z_v_app {ρ l : zR} {o : zO} (h : z_v ρ o ≠ .null) : z_v (ρ ++ l) o = z_v ρ o := by
  unfold z_v at h ⊢
  split
  · rfl
  · rename_i k n
    cases hk : ρ[k]? with
    | none => simp [hk] at h
    | some w =>
      have hlt := (List.getElem?_eq_some_iff.mp hk).1
      rw [List.getElem?_append_left hlt, hk]
theorem z_at_app {ρ l : zR} {k : Nat} {w : Value} (h : ρ[k]? = some w) : (ρ ++ l)[k]? = some w := by
  rw [List.getElem?_append_left (List.getElem?_eq_some_iff.mp h).1, h]
theorem z_sat_app {ρ l : zR} {f : zF} (h : z_sat ρ f) : z_sat (ρ ++ l) f := by
  obtain ⟨h1, h2, h3, h4⟩ := h
  refine ⟨fun q hq => ?_, fun q hq => ?_, fun q hq => ?_, fun q hq => ?_⟩
  · obtain ⟨w, e1, e2⟩ := h1 q hq
    exact ⟨w, z_at_app e1, e2⟩
  · obtain ⟨x, y, e1, e2, e3⟩ := h2 q hq
    exact ⟨x, y, z_at_app e1, z_at_app e2, e3⟩
  · obtain ⟨x, y, e1, e2, e3⟩ := h3 q hq
    exact ⟨x, y, by rw [z_v_app (by rw [e1]; exact fun w => by cases w), e1], by rw [z_v_app (by rw [e2]; exact fun w => by cases w), e2], z_at_app e3⟩
  · obtain ⟨x, e1, e2⟩ := h4 q hq
    exact ⟨x, by rw [z_v_app (by rw [e1]; exact fun w => by cases w), e1], z_at_app e2⟩
def z_i32 (lo hi : Int) : Bool := decide (-2147483648 ≤ lo) && decide (hi ≤ 2147483647)
theorem z_ofInt {n : Int} (h1 : -2147483648 ≤ n) (h2 : n ≤ 2147483647) : (Int32.ofInt n).toInt = n := by
  rw [Int32.toInt_ofInt, show (Int32.size : Nat) = 4294967296 from rfl]
  exact Int.bmod_eq_of_le (by omega) (by omega)
/-- an int's bounds -/
def z_ib (f : zF) (o : zO) : Option (Int × Int) := match o with
  | .inl (.int n) => some (n.toInt, n.toInt)
  | .inl _ => none
  | .inr (k, n) => match f.1.lookup k with
    | some (t, lo, hi) => if t = 1 ∧ z_i32 (lo + n) (hi + n) = true then some (lo + n, hi + n) else none
    | none => none
/-- a long's bounds -/
def z_lb (f : zF) (o : zO) : Option (Int × Int) := match o with
  | .inl (.long n) => some (n.toInt, n.toInt)
  | .inl _ => none
  | .inr (k, n) => match f.1.lookup k with
    | some (t, lo, hi) => if t = 2 ∧ n = 0 then some (lo, hi) else none
    | none => none
section ZB
variable {ρ : zR} {f : zF}
theorem z_ib_id (hs : z_sat ρ f) {k : Nat} {n lo hi : Int} (h : z_ib f (.inr (k, n)) = some (lo, hi)) : ∃ x : Int32, ρ[k]? = some (.int x) ∧ z_v ρ (.inr (k, n)) = .int (Int32.ofInt (x.toInt + n)) ∧ (Int32.ofInt (x.toInt + n)).toInt = x.toInt + n ∧ lo ≤ x.toInt + n ∧ x.toInt + n ≤ hi := by
  unfold z_ib at h
  dsimp only at h
  split at h
  · rename_i t l0 h0 hk
    split at h
    · rename_i hc
      obtain ⟨ht, hr⟩ := hc
      cases h
      unfold z_i32 at hr
      simp only [Bool.and_eq_true, decide_eq_true_eq] at hr
      obtain ⟨w, e1, e2⟩ := hs.1 _ (z_lk_in hk)
      rcases e2 with ⟨_, x, rfl, b1, b2⟩ | ⟨e2, _⟩
      · dsimp only at e1 b1 b2
        refine ⟨x, e1, ?_, z_ofInt (by omega) (by omega), by omega, by omega⟩
        unfold z_v
        dsimp only
        rw [e1]
      · dsimp only at e2; omega
    · cases h
  · cases h
theorem z_ib_ok (hs : z_sat ρ f) {o : zO} {lo hi : Int} (h : z_ib f o = some (lo, hi)) : ∃ x : Int32, z_v ρ o = .int x ∧ lo ≤ x.toInt ∧ x.toInt ≤ hi := by
  cases o with
  | inl w =>
    unfold z_ib at h
    split at h
    · rename_i n e
      cases e
      cases h
      exact ⟨n, rfl, Int.le_refl _, Int.le_refl _⟩
    · cases h
    · rename_i e; cases e
  | inr q =>
    obtain ⟨k, n⟩ := q
    obtain ⟨x, e1, e2, e3, e4, e5⟩ := z_ib_id hs h
    exact ⟨_, e2, by rw [e3]; exact e4, by rw [e3]; exact e5⟩
theorem z_lb_ok (hs : z_sat ρ f) {o : zO} {lo hi : Int} (h : z_lb f o = some (lo, hi)) : ∃ x : Int64, z_v ρ o = .long x ∧ lo ≤ x.toInt ∧ x.toInt ≤ hi := by
  cases o with
  | inl w =>
    unfold z_lb at h
    split at h
    · rename_i n e
      cases e
      cases h
      exact ⟨n, rfl, Int.le_refl _, Int.le_refl _⟩
    · cases h
    · rename_i e; cases e
  | inr q =>
    obtain ⟨k, n⟩ := q
    unfold z_lb at h
    dsimp only at h
    split at h
    · rename_i t l0 h0 hk
      split at h
      · rename_i hc
        obtain ⟨ht, rfl⟩ := hc
        cases h
        obtain ⟨w, e1, e2⟩ := hs.1 _ (z_lk_in hk)
        rcases e2 with ⟨e2, _⟩ | ⟨_, x, rfl, b1, b2⟩
        · dsimp only at e2; omega
        · refine ⟨x, ?_, b1, b2⟩
          unfold z_v
          dsimp only at e1 ⊢
          rw [e1]
      · cases h
    · cases h
end ZB
/-- differences of named ints -/
def z_om (a b : Option Int) : Option Int := match a, b with
  | some x, some y => some (if x < y then x else y)
  | some x, none => some x
  | none, y => y
theorem z_om_ok {a b : Option Int} {w : Int} (h : z_om a b = some w) : a = some w ∨ b = some w := by
  unfold z_om at h
  split at h
  · split at h
    · exact Or.inl h
    · exact Or.inr h
  · exact Or.inl h
  · exact Or.inr h
def z_d1 (l : List (Nat × Nat × Int)) (i j : Nat) : Option Int := match l with
  | [] => none
  | (a, b, w) :: r => if a = i ∧ b = j then z_om (some w) (z_d1 r i j) else z_d1 r i j
def z_d2 (l : List (Nat × Nat × Int)) (all : List (Nat × Nat × Int)) (i j : Nat) : Option Int := match l with
  | [] => none
  | (a, b, w) :: r => if a = i then (match z_d1 all b j with
    | some u => z_om (some (w + u)) (z_d2 r all i j)
    | none => z_d2 r all i j) else z_d2 r all i j
def z_dn (f : zF) (i j : Nat) : Option Int := if i = j then some 0 else z_om (z_d1 f.2.1 i j) (z_d2 f.2.1 f.2.1 i j)
/-- an upper bound of the difference of two ints -/
def z_df (f : zF) (a b : zO) : Option Int := match a, b with
  | .inr (i, n), .inr (j, m) => match z_dn f i j with
    | some w => some (w + n - m)
    | none => none
  | _, _ => none
section ZD
variable {ρ : zR} {f : zF}
def z_dok (ρ : zR) (l : List (Nat × Nat × Int)) : Prop := ∀ q ∈ l, ∃ x y : Int32, ρ[q.1]? = some (.int x) ∧ ρ[q.2.1]? = some (.int y) ∧ x.toInt - y.toInt ≤ q.2.2
theorem z_d1_ok {l : List (Nat × Nat × Int)} (hl : z_dok ρ l) {i j : Nat} {w : Int} (h : z_d1 l i j = some w) : ∃ x y : Int32, ρ[i]? = some (.int x) ∧ ρ[j]? = some (.int y) ∧ x.toInt - y.toInt ≤ w := by
  induction l with
  | nil => cases h
  | cons q r ih =>
    obtain ⟨a, b, u⟩ := q
    unfold z_d1 at h
    split at h
    · rename_i e
      obtain ⟨rfl, rfl⟩ := e
      rcases z_om_ok h with h | h
      · cases h
        exact hl _ List.mem_cons_self
      · exact ih (fun q hq => hl q (List.mem_cons_of_mem _ hq)) h
    · exact ih (fun q hq => hl q (List.mem_cons_of_mem _ hq)) h
theorem z_d2_ok {l all : List (Nat × Nat × Int)} (hl : z_dok ρ l) (ha : z_dok ρ all) {i j : Nat} {w : Int} (h : z_d2 l all i j = some w) : ∃ x y : Int32, ρ[i]? = some (.int x) ∧ ρ[j]? = some (.int y) ∧ x.toInt - y.toInt ≤ w := by
  induction l with
  | nil => cases h
  | cons q r ih =>
    obtain ⟨a, b, u⟩ := q
    have ih' := ih (fun q hq => hl q (List.mem_cons_of_mem _ hq))
    unfold z_d2 at h
    split at h
    · rename_i e
      subst e
      split at h
      · rename_i u2 hu
        rcases z_om_ok h with h | h
        case inr => exact ih' h
        cases h
        obtain ⟨x, y, e1, e2, e3⟩ := hl _ List.mem_cons_self
        obtain ⟨x2, y2, d1, d2, d3⟩ := z_d1_ok ha hu
        dsimp only at e1 e2 e3
        rw [e2] at d1
        cases d1
        exact ⟨x, y2, e1, d2, by omega⟩
      · exact ih' h
    · exact ih' h
theorem z_dn_ok (hs : z_sat ρ f) {i j : Nat} {w : Int} {x y : Int32} (hx : ρ[i]? = some (.int x)) (hy : ρ[j]? = some (.int y)) (h : z_dn f i j = some w) : x.toInt - y.toInt ≤ w := by
  unfold z_dn at h
  split at h
  · rename_i e
    subst e
    cases h
    rw [hx] at hy
    cases hy
    omega
  · have key : ∃ x y : Int32, ρ[i]? = some (.int x) ∧ ρ[j]? = some (.int y) ∧ x.toInt - y.toInt ≤ w := by
      rcases z_om_ok h with h | h
      · exact z_d1_ok hs.2.1 h
      · exact z_d2_ok hs.2.1 hs.2.1 h
    obtain ⟨x', y', e1, e2, e3⟩ := key
    rw [hx] at e1
    rw [hy] at e2
    cases e1
    cases e2
    exact e3
theorem z_df_ok (hs : z_sat ρ f) {a b : zO} {lo hi lo' hi' w : Int} {x y : Int32} (ha : z_ib f a = some (lo, hi)) (hb : z_ib f b = some (lo', hi')) (hx : z_v ρ a = .int x) (hy : z_v ρ b = .int y) (h : z_df f a b = some w) : x.toInt - y.toInt ≤ w := by
  unfold z_df at h
  split at h
  · rename_i i n j m
    split at h
    · rename_i u hu
      cases h
      obtain ⟨x0, e1, e2, e3, -, -⟩ := z_ib_id hs ha
      obtain ⟨y0, d1, d2, d3, -, -⟩ := z_ib_id hs hb
      have := z_dn_ok hs e1 d1 hu
      rw [e2] at hx
      rw [d2] at hy
      cases hx
      cases hy
      rw [e3, d3]
      omega
    · cases h
  · cases h
end ZD
/-- a ≤ b + c -/
def z_le (f : zF) (a b : zO) (c : Int) : Bool := match z_ib f a, z_ib f b with
  | some x, some y => decide (x.2 ≤ y.1 + c) || (match z_df f a b with
    | some w => decide (w ≤ c)
    | none => false)
  | _, _ => false
theorem z_le_ok {ρ : zR} {f : zF} (hs : z_sat ρ f) {a b : zO} {c : Int} {x y : Int32} (hx : z_v ρ a = .int x) (hy : z_v ρ b = .int y) (h : z_le f a b c = true) : x.toInt ≤ y.toInt + c := by
  unfold z_le at h
  split at h
  · rename_i p q hp hq
    obtain ⟨p1, p2⟩ := p
    obtain ⟨q1, q2⟩ := q
    simp only [Bool.or_eq_true, decide_eq_true_eq] at h
    rcases h with h | h
    · obtain ⟨x', e1, e2, e3⟩ := z_ib_ok hs hp
      obtain ⟨y', d1, d2, d3⟩ := z_ib_ok hs hq
      rw [hx] at e1
      rw [hy] at d1
      cases e1
      cases d1
      omega
    · split at h
      · rename_i w hw
        have := z_df_ok hs hp hq hx hy hw
        have h' := of_decide_eq_true h
        omega
      · cases h
  · cases h
/-- bounds, with what differences tell -/
def z_up (f : zF) (l : List (Nat × Nat × Int)) (k : Nat) (hi : Int) : Int := match l with
  | [] => hi
  | (a, b, w) :: r => if a = k then (match f.1.lookup b with
    | some (_, _, h) => z_up f r k (if h + w < hi then h + w else hi)
    | none => z_up f r k hi) else z_up f r k hi
def z_dw (f : zF) (l : List (Nat × Nat × Int)) (k : Nat) (lo : Int) : Int := match l with
  | [] => lo
  | (a, b, w) :: r => if b = k then (match f.1.lookup a with
    | some (_, g, _) => z_dw f r k (if lo < g - w then g - w else lo)
    | none => z_dw f r k lo) else z_dw f r k lo
/-- an int lies between -/
def z_bt (f : zF) (o : zO) (lo hi : Int) : Bool := match z_ib f o with
  | some x => match o with
    | .inr (k, n) => (decide (lo ≤ x.1) || decide (lo ≤ z_dw f f.2.1 k (x.1 - n) + n)) && (decide (x.2 ≤ hi) || decide (z_up f f.2.1 k (x.2 - n) + n ≤ hi))
    | .inl _ => decide (lo ≤ x.1) && decide (x.2 ≤ hi)
  | none => false
section ZU
variable {ρ : zR} {f : zF}
theorem z_kint (hs : z_sat ρ f) {k : Nat} {x : Int32} (hx : ρ[k]? = some (.int x)) {a : zI} (h : f.1.lookup k = some a) : a.2.1 ≤ x.toInt ∧ x.toInt ≤ a.2.2 := by
  obtain ⟨w, e1, e2⟩ := hs.1 _ (z_lk_in h)
  dsimp only at e1 e2
  rw [hx] at e1
  cases e1
  rcases e2 with ⟨_, y, e, b1, b2⟩ | ⟨_, y, e, _⟩
  · cases e; exact ⟨b1, b2⟩
  · cases e
theorem z_up_ok (hs : z_sat ρ f) {l : List (Nat × Nat × Int)} (hl : z_dok ρ l) {k : Nat} {x : Int32} (hx : ρ[k]? = some (.int x)) : ∀ {hi : Int}, x.toInt ≤ hi → x.toInt ≤ z_up f l k hi := by
  induction l with
  | nil => intro hi h; exact h
  | cons q r ih =>
    intro hi h
    obtain ⟨a, b, w⟩ := q
    have ih' := @ih (fun q hq => hl q (List.mem_cons_of_mem _ hq))
    unfold z_up
    split
    · rename_i e
      subst e
      split
      · rename_i t g hh hk
        apply ih'
        obtain ⟨x', y', e1, e2, e3⟩ := hl _ List.mem_cons_self
        dsimp only at e1 e2 e3
        rw [hx] at e1
        cases e1
        have := (z_kint hs e2 hk).2
        dsimp only at this
        split <;> omega
      · exact ih' h
    · exact ih' h
theorem z_dw_ok (hs : z_sat ρ f) {l : List (Nat × Nat × Int)} (hl : z_dok ρ l) {k : Nat} {x : Int32} (hx : ρ[k]? = some (.int x)) : ∀ {lo : Int}, lo ≤ x.toInt → z_dw f l k lo ≤ x.toInt := by
  induction l with
  | nil => intro lo h; exact h
  | cons q r ih =>
    intro lo h
    obtain ⟨a, b, w⟩ := q
    have ih' := @ih (fun q hq => hl q (List.mem_cons_of_mem _ hq))
    unfold z_dw
    split
    · rename_i e
      subst e
      split
      · rename_i t g hh hk
        apply ih'
        obtain ⟨x', y', e1, e2, e3⟩ := hl _ List.mem_cons_self
        dsimp only at e1 e2 e3
        rw [hx] at e2
        cases e2
        have := (z_kint hs e1 hk).1
        dsimp only at this
        split <;> omega
      · exact ih' h
    · exact ih' h
theorem z_bt_ok (hs : z_sat ρ f) {o : zO} {lo hi : Int} (h : z_bt f o lo hi = true) : ∃ x : Int32, z_v ρ o = .int x ∧ lo ≤ x.toInt ∧ x.toInt ≤ hi := by
  unfold z_bt at h
  split at h
  · rename_i x hx
    obtain ⟨x1, x2⟩ := x
    split at h
    · rename_i k n
      obtain ⟨y, e1, e2, e3, e4, e5⟩ := z_ib_id hs hx
      refine ⟨_, e2, ?_, ?_⟩ <;> rw [e3]
      · simp only [Bool.and_eq_true, Bool.or_eq_true, decide_eq_true_eq] at h
        rcases h.1 with q | q
        · omega
        · have := z_dw_ok hs hs.2.1 e1 (lo := x1 - n) (by omega)
          omega
      · simp only [Bool.and_eq_true, Bool.or_eq_true, decide_eq_true_eq] at h
        rcases h.2 with q | q
        · omega
        · have := z_up_ok hs hs.2.1 e1 (hi := x2 - n) (by omega)
          omega
    · obtain ⟨y, e1, e2, e3⟩ := z_ib_ok hs hx
      simp only [Bool.and_eq_true, decide_eq_true_eq] at h
      exact ⟨y, e1, by omega, by omega⟩
  · cases h
end ZU
