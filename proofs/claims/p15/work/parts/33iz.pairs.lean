section PT33ic
/-! ===== v15p: apart(), on paper: rows of free nodes, and where a walk comes to ===== -/
/-- y lies k steps below x -/
def ap_dn (L : Nat → Nat → Bool) (x : Nat) : Nat → Nat → Prop
  | 0, y => y = x
  | k + 1, y => ∃ o, L y o = true ∧ ap_dn L x k o
def ap_de (L : Nat → Nat → Bool) (x y : Nat) : Prop := ∃ k, ap_dn L x k y
def ap_dh (L : Nat → Nat → Bool) : Nat → Nat → Nat → Prop
  | 0, x, y => x = y
  | k + 1, x, y => ∃ z, L z x = true ∧ ap_dh L k z y
/-- it, or one below it, is given -/
def ap_GB (L : Nat → Nat → Bool) (g : Nat → Bool) (x : Nat) : Prop := ∃ y, ap_de L x y ∧ g y = true
/-- a node in the midst is free -/
def ap_fr (L : Nat → Nat → Bool) (g : Nat → Bool) (p x q : Nat) : Prop := (L x p = true → L x q = true → ap_GB L g x) ∧ (¬ (L x p = true ∧ L x q = true) → g x = false)
/-- a walk of m steps from a to x -/
def ap_sq (n : Nat) (L : Nat → Nat → Bool) (g : Nat → Bool) (a m : Nat) (w : Nat → Nat) (x : Nat) : Prop := w 0 = a ∧ w m = x ∧ (∀ i, i ≤ m → w i < n) ∧ (∀ i, i < m → L (w i) (w (i + 1)) = true ∨ L (w (i + 1)) (w i) = true) ∧ ∀ i, i + 1 < m → ap_fr L g (w i) (w (i + 1)) (w (i + 2))
/-- what is come to from below (B), from above (A), and all that follows -/
def ap_cl (L : Nat → Nat → Bool) (g : Nat → Bool) (B A : Nat → Prop) : Prop := (∀ x, (g x = false ∧ B x) ∨ (g x = true ∧ A x) → ∀ p, L x p = true → B p) ∧ ∀ x, g x = false → B x ∨ A x → ∀ c, L c x = true → A c
def ap_in (L : Nat → Nat → Bool) (a : Nat) (B A : Nat → Prop) : Prop := (∀ p, L a p = true → B p) ∧ ∀ c, L c a = true → A c
/-- the leaning goes to lesser numbers -/
def ap_ok (n : Nat) (L : Nat → Nat → Bool) : Prop := ∀ x o, L x o = true → o < x ∧ x < n
section AP
variable {n : Nat} {L : Nat → Nat → Bool} {g : Nat → Bool}
theorem ap_de_0 {x : Nat} : ap_de L x x := ⟨0, rfl⟩
theorem ap_de_s {x o y : Nat} (h : ap_de L x o) (hl : L y o = true) : ap_de L x y := by
  obtain ⟨k, h⟩ := h
  exact ⟨k + 1, o, hl, h⟩
theorem ap_dn_t {x y : Nat} (h : ap_de L x y) : ∀ {k z : Nat}, ap_dn L y k z → ap_de L x z := by
  intro k
  induction k with
  | zero =>
    intro z e
    have e : z = y := e
    rw [e]
    exact h
  | succ k ih =>
    intro z e
    obtain ⟨o, h1, h2⟩ := e
    exact ap_de_s (ih h2) h1
theorem ap_de_t {x y z : Nat} (h1 : ap_de L x y) (h2 : ap_de L y z) : ap_de L x z := by
  obtain ⟨k, h2⟩ := h2
  exact ap_dn_t h1 h2
theorem ap_dh_s {o y : Nat} (hl : L y o = true) : ∀ {k x : Nat}, ap_dh L k x o → ap_dh L (k + 1) x y := by
  intro k
  induction k with
  | zero =>
    intro x h
    have h : x = o := h
    exact ⟨y, by rw [h]; exact hl, rfl⟩
  | succ k ih =>
    intro x h
    obtain ⟨z, h1, h2⟩ := h
    exact ⟨z, h1, ih h2⟩
theorem ap_dh_of {x : Nat} : ∀ {k y : Nat}, ap_dn L x k y → ap_dh L k x y := by
  intro k
  induction k with
  | zero =>
    intro y h
    have h : y = x := h
    exact h.symm
  | succ k ih =>
    intro y h
    obtain ⟨o, h1, h2⟩ := h
    exact ap_dh_s h1 (ih h2)
theorem ap_de_lt (hL : ap_ok n L) {x : Nat} (hx : x < n) : ∀ {k y : Nat}, ap_dn L x k y → x ≤ y ∧ y < n := by
  intro k
  induction k with
  | zero =>
    intro y h
    have h : y = x := h
    omega
  | succ k ih =>
    intro y h
    obtain ⟨o, h1, h2⟩ := h
    have := hL y o h1
    have := ih h2
    omega
/-- down to a given one, and back -/
theorem ap_bounce {B A : Nat → Prop} (hc : ap_cl L g B A) : ∀ (k x y : Nat), ap_dh L k x y → g y = true → A x → ∀ p, L x p = true → B p := by
  intro k
  induction k with
  | zero =>
    intro x y h hy hA p hp
    have h : x = y := h
    rw [← h] at hy
    exact hc.1 x (Or.inr ⟨hy, hA⟩) p hp
  | succ k ih =>
    intro x y h hy hA p hp
    obtain ⟨z, h1, h2⟩ := h
    cases gx : g x with
    | true => exact hc.1 x (Or.inr ⟨gx, hA⟩) p hp
    | false =>
      have hB := ih z y h2 hy (hc.2 x gx (Or.inr hA) z h1) x h1
      exact hc.1 x (Or.inl ⟨gx, hB⟩) p hp
theorem ap_not (hL : ap_ok n L) {x o : Nat} (h : L x o = true) : ¬ L o x = true := fun q => by
  have := hL x o h
  have := hL o x q
  omega
/-- a walk is followed -/
theorem ap_ball (hL : ap_ok n L) {B A : Nat → Prop} (hc : ap_cl L g B A) {a m x : Nat} {w : Nat → Nat} (hi : ap_in L a B A) (sq : ap_sq n L g a m w x) : ∀ t, t + 1 ≤ m → (L (w t) (w (t + 1)) = true → B (w (t + 1))) ∧ (L (w (t + 1)) (w t) = true → A (w (t + 1))) := by
  obtain ⟨s0, -, -, s3, s4⟩ := sq
  intro t
  induction t with
  | zero =>
    intro _
    rw [s0]
    exact ⟨fun q => hi.1 _ q, fun q => hi.2 _ q⟩
  | succ t ih =>
    intro ht
    obtain ⟨i1, i2⟩ := ih (by omega)
    obtain ⟨f1, f2⟩ := s4 t (by omega)
    rcases s3 t (by omega) with ad | ad
    · have hB := i1 ad
      have gx := f2 (fun q => ap_not hL ad q.1)
      exact ⟨fun q => hc.1 _ (Or.inl ⟨gx, hB⟩) _ q, fun q => hc.2 _ gx (Or.inl hB) _ q⟩
    · have hA := i2 ad
      refine ⟨fun q => ?_, fun q => ?_⟩
      · obtain ⟨y, ⟨k, y1⟩, y2⟩ := f1 ad q
        exact ap_bounce hc k _ y (ap_dh_of y1) y2 hA _ q
      · have gx := f2 (fun z => ap_not hL q z.2)
        exact hc.2 _ gx (Or.inr hA) _ q
theorem ap_come (hL : ap_ok n L) {B A : Nat → Prop} (hc : ap_cl L g B A) {a m x : Nat} {w : Nat → Nat} (hi : ap_in L a B A) (sq : ap_sq n L g a m w x) (ne : a ≠ x) : B x ∨ A x := by
  have h := ap_ball hL hc hi sq
  obtain ⟨s0, s1, -, s3, -⟩ := sq
  cases m with
  | zero => exact absurd (s0.symm.trans s1) ne
  | succ m =>
    have := h m (by omega)
    rw [s1] at this
    have ad := s3 m (by omega)
    rw [s1] at ad
    rcases ad with ad | ad
    · exact Or.inl (this.1 ad)
    · exact Or.inr (this.2 ad)
/-- one step more -/
theorem ap_snoc {a m x y : Nat} {w : Nat → Nat} (sq : ap_sq n L g a m w x) (hy : y < n) (ad : L x y = true ∨ L y x = true) (fr : ∀ k, m = k + 1 → ap_fr L g (w k) x y) : ap_sq n L g a (m + 1) (fun k => if k ≤ m then w k else y) y := by
  obtain ⟨s0, s1, s2, s3, s4⟩ := sq
  refine ⟨?_, ?_, fun i hi => ?_, fun i hi => ?_, fun i hi => ?_⟩
  · show (if 0 ≤ m then w 0 else y) = a
    rw [if_pos (Nat.zero_le m)]
    exact s0
  · show (if m + 1 ≤ m then w (m + 1) else y) = y
    rw [if_neg (by omega)]
  · show (if i ≤ m then w i else y) < n
    by_cases q : i ≤ m
    · rw [if_pos q]
      exact s2 i q
    · rw [if_neg q]
      exact hy
  · show L (if i ≤ m then w i else y) (if i + 1 ≤ m then w (i + 1) else y) = true ∨ L (if i + 1 ≤ m then w (i + 1) else y) (if i ≤ m then w i else y) = true
    rw [if_pos (show i ≤ m by omega)]
    by_cases q : i + 1 ≤ m
    · rw [if_pos q]
      exact s3 i (by omega)
    · rw [if_neg q, show i = m by omega, s1]
      exact ad
  · show ap_fr L g (if i ≤ m then w i else y) (if i + 1 ≤ m then w (i + 1) else y) (if i + 2 ≤ m then w (i + 2) else y)
    rw [if_pos (show i ≤ m by omega), if_pos (show i + 1 ≤ m by omega)]
    by_cases q : i + 2 ≤ m
    · rw [if_pos q]
      exact s4 i (by omega)
    · rw [if_neg q, show i + 1 = m by omega, s1]
      exact fr i (by omega)
/-- come to from below (true) or from above -/
def ap_F (n : Nat) (L : Nat → Nat → Bool) (g : Nat → Bool) (a x : Nat) (d : Bool) : Prop := ∃ m w, ap_sq n L g a (m + 1) w x ∧ (d = true → L (w m) x = true) ∧ (d = false → L x (w m) = true)
theorem ap_F_0 (hL : ap_ok n L) {a x : Nat} {d : Bool} (ha : a < n) (hx : x < n) (h1 : d = true → L a x = true) (h2 : d = false → L x a = true) : ap_F n L g a x d := by
  have sq : ap_sq n L g a 0 (fun _ => a) a := ⟨rfl, rfl, fun i _ => ha, fun i h => absurd h (Nat.not_lt_zero i), fun i h => absurd h (Nat.not_lt_zero _)⟩
  refine ⟨0, _, ap_snoc sq hx ?_ (fun k e => absurd e (by omega)), fun q => h1 q, fun q => h2 q⟩
  cases d with
  | true => exact Or.inl (h1 rfl)
  | false => exact Or.inr (h2 rfl)
theorem ap_F_s {a x y : Nat} {d d' : Bool} (h : ap_F n L g a x d) (hy : y < n) (h1 : d' = true → L x y = true) (h2 : d' = false → L y x = true) (fr : ∀ p, (d = true → L p x = true) → (d = false → L x p = true) → ap_fr L g p x y) : ap_F n L g a y d' := by
  obtain ⟨m, w, sq, e1, e2⟩ := h
  have sx : w (m + 1) = x := sq.2.1
  refine ⟨m + 1, _, ap_snoc sq hy ?_ (fun k e => ?_), fun q => ?_, fun q => ?_⟩
  · cases d' with
    | true => exact Or.inl (h1 rfl)
    | false => exact Or.inr (h2 rfl)
  · have ek : k = m := by omega
    rw [ek]
    exact fr _ e1 e2
  · show L (if m + 1 ≤ m + 1 then w (m + 1) else y) y = true
    rw [if_pos (Nat.le_refl _), sx]
    exact h1 q
  · show L y (if m + 1 ≤ m + 1 then w (m + 1) else y) = true
    rw [if_pos (Nat.le_refl _), sx]
    exact h2 q
theorem ap_F_1 (hL : ap_ok n L) {a x p : Nat} (h : ap_F n L g a x true) (gx : g x = false) (hp : L x p = true) : ap_F n L g a p true := by
  have := hL x p hp
  exact ap_F_s h (by omega) (fun _ => hp) (fun q => absurd q (by decide)) (fun r r1 _ => ⟨fun z => absurd z (ap_not hL (r1 rfl)), fun _ => gx⟩)
theorem ap_F_2 (hL : ap_ok n L) {a x p : Nat} (h : ap_F n L g a x false) (gx : g x = true) (hp : L x p = true) : ap_F n L g a p true := by
  have := hL x p hp
  exact ap_F_s h (by omega) (fun _ => hp) (fun q => absurd q (by decide)) (fun r _ r2 => ⟨fun _ _ => ⟨x, ap_de_0, gx⟩, fun z => absurd ⟨r2 rfl, hp⟩ z⟩)
theorem ap_F_3 (hL : ap_ok n L) {a x c : Nat} {d : Bool} (h : ap_F n L g a x d) (gx : g x = false) (hc : L c x = true) : ap_F n L g a c false := by
  have := hL c x hc
  exact ap_F_s h (by omega) (fun q => absurd q (by decide)) (fun _ => hc) (fun r _ _ => ⟨fun _ z => absurd z (ap_not hL hc), fun _ => gx⟩)
/-- a walk that comes to a node again can be cut: the node is free in the new one too -/
theorem ap_cut_fr (hL : ap_ok n L) {a m x i j : Nat} {w : Nat → Nat} (sq : ap_sq n L g a m w x) (ij : i + 1 < j) (jm : j + 1 < m + 1) (jm2 : j < m) (e : w (i + 1) = w j) : ap_fr L g (w i) (w (i + 1)) (w (j + 1)) := by
  obtain ⟨s0, s1, s2, s3, s4⟩ := sq
  have fi := s4 i (by omega)
  obtain ⟨j', hj⟩ : ∃ j', j = j' + 1 := ⟨j - 1, by omega⟩
  subst hj
  have fj := s4 j' (by omega)
  rw [← e] at fj
  refine ⟨fun c1 c2 => ?_, fun nc => ?_⟩
  · by_cases z : L (w (i + 1)) (w (i + 2)) = true
    · exact fi.1 c1 z
    · have dn : L (w (i + 2)) (w (i + 1)) = true := by
        rcases s3 (i + 1) (by omega) with q | q
        · exact absurd q z
        · exact q
      have go : ∀ t, i + 2 + t ≤ j' + 1 → ap_GB L g (w (i + 1)) ∨ (ap_de L (w (i + 1)) (w (i + 2 + t)) ∧ w (i + 1) < w (i + 2 + t) ∧ L (w (i + 2 + t)) (w (i + 1 + t)) = true) := by
        intro t
        induction t with
        | zero =>
          intro _
          exact Or.inr ⟨ap_de_s ap_de_0 dn, (hL _ _ dn).1, dn⟩
        | succ t ih =>
          intro ht
          rcases ih (by omega) with q | ⟨q1, q2, q3⟩
          · exact Or.inl q
          · have f := s4 (i + 1 + t) (by omega)
            have e1 : i + 1 + t + 1 = i + 2 + t := by omega
            have e2 : i + 1 + t + 2 = i + 2 + (t + 1) := by omega
            rw [e1, e2] at f
            by_cases y : L (w (i + 2 + t)) (w (i + 2 + (t + 1))) = true
            · obtain ⟨u, u1, u2⟩ := f.1 q3 y
              exact Or.inl ⟨u, ap_de_t q1 u1, u2⟩
            · have ad := s3 (i + 2 + t) (by omega)
              have e3 : i + 2 + t + 1 = i + 2 + (t + 1) := by omega
              rw [e3] at ad
              rcases ad with ad | ad
              · exact absurd ad y
              · have := hL _ _ ad
                refine Or.inr ⟨ap_de_s q1 ad, by omega, ?_⟩
                have e4 : i + 1 + (t + 1) = i + 2 + t := by omega
                rw [e4]
                exact ad
      rcases go (j' + 1 - (i + 2)) (by omega) with q | ⟨-, q2, -⟩
      · exact q
      · have e5 : i + 2 + (j' + 1 - (i + 2)) = j' + 1 := by omega
        rw [e5, ← e] at q2
        exact absurd q2 (Nat.lt_irrefl _)
  · by_cases z : L (w (i + 1)) (w i) = true
    · exact fj.2 (fun q => nc ⟨z, q.2⟩)
    · exact fi.2 (fun q => z q.1)
theorem ap_cut (hL : ap_ok n L) {a m x i j : Nat} {w : Nat → Nat} (sq : ap_sq n L g a m w x) (ij : i < j) (jm : j ≤ m) (e : w i = w j) : ap_sq n L g a (m - (j - i)) (fun k => if k ≤ i then w k else w (k + (j - i))) x := by
  have key : ∀ k, k + 1 < j → j < m → w (k + 1) = w j → ap_fr L g (w k) (w (k + 1)) (w (j + 1)) := fun k h1 h2 h3 => ap_cut_fr hL sq h1 (by omega) h2 h3
  obtain ⟨s0, s1, s2, s3, s4⟩ := sq
  have st : ∀ k, i ≤ k → (if k ≤ i then w k else w (k + (j - i))) = w (k + (j - i)) := fun k hk => by
    by_cases q : k ≤ i
    · have : k = i := by omega
      rw [if_pos q, this, e]
      exact congrArg w (by omega)
    · rw [if_neg q]
  refine ⟨?_, ?_, fun k hk => ?_, fun k hk => ?_, fun k hk => ?_⟩
  · show (if 0 ≤ i then w 0 else w (0 + (j - i))) = a
    rw [if_pos (Nat.zero_le i)]
    exact s0
  · show (if m - (j - i) ≤ i then w (m - (j - i)) else w (m - (j - i) + (j - i))) = x
    rw [st _ (by omega), show m - (j - i) + (j - i) = m by omega]
    exact s1
  · show (if k ≤ i then w k else w (k + (j - i))) < n
    by_cases q : k ≤ i
    · rw [if_pos q]
      exact s2 k (by omega)
    · rw [if_neg q]
      exact s2 _ (by omega)
  · show L (if k ≤ i then w k else w (k + (j - i))) (if k + 1 ≤ i then w (k + 1) else w (k + 1 + (j - i))) = true ∨ L (if k + 1 ≤ i then w (k + 1) else w (k + 1 + (j - i))) (if k ≤ i then w k else w (k + (j - i))) = true
    by_cases q : k + 1 ≤ i
    · rw [if_pos q, if_pos (show k ≤ i by omega)]
      exact s3 k (by omega)
    · rw [if_neg q, st k (by omega), show k + 1 + (j - i) = k + (j - i) + 1 by omega]
      exact s3 _ (by omega)
  · show ap_fr L g (if k ≤ i then w k else w (k + (j - i))) (if k + 1 ≤ i then w (k + 1) else w (k + 1 + (j - i))) (if k + 2 ≤ i then w (k + 2) else w (k + 2 + (j - i)))
    by_cases q : k + 2 ≤ i
    · rw [if_pos q, if_pos (show k + 1 ≤ i by omega), if_pos (show k ≤ i by omega)]
      exact s4 k (by omega)
    · by_cases q1 : k + 1 = i
      · rw [if_neg q, if_pos (show k + 1 ≤ i by omega), if_pos (show k ≤ i by omega), show k + 2 + (j - i) = j + 1 by omega]
        exact key k (by omega) (by omega) (by rw [q1]; exact e)
      · rw [if_neg q, if_neg (show ¬ k + 1 ≤ i by omega), st k (by omega), show k + 1 + (j - i) = k + (j - i) + 1 by omega, show k + 2 + (j - i) = k + (j - i) + 2 by omega]
        exact s4 _ (by omega)
/-- a walk without a node twice -/
theorem ap_short (hL : ap_ok n L) {a x : Nat} : ∀ (b m : Nat) (w : Nat → Nat), m ≤ b → ap_sq n L g a m w x → ∃ m' w', ap_sq n L g a m' w' x ∧ ∀ i j, i < j → j ≤ m' → w' i ≠ w' j := by
  intro b
  induction b with
  | zero =>
    intro m w hm sq
    exact ⟨m, w, sq, fun i j h1 h2 => absurd h1 (by omega)⟩
  | succ b ih =>
    intro m w hm sq
    by_cases z : ∃ i j, i < j ∧ j ≤ m ∧ w i = w j
    · obtain ⟨i, j, h1, h2, h3⟩ := z
      exact ih _ _ (by omega) (ap_cut hL sq h1 h2 h3)
    · exact ⟨m, w, sq, fun i j h1 h2 h3 => z ⟨i, j, h1, h2, h3⟩⟩
end AP
/-- a row of unlike nodes from h to e, none of which is on -/
def ap_R (n : Nat) (L : Nat → Nat → Bool) (g : Nat → Bool) (e : Nat) : (Nat → Prop) → Option Nat → Nat → List Nat → Prop
  | _, _, h, [] => h = e
  | on, f, h, x :: l => (x < n ∧ ¬ on x ∧ x ≠ h) ∧ (L h x = true ∨ L x h = true) ∧ (∀ p, f = some p → ap_fr L g p h x) ∧ ap_R n L g e (fun j => on j ∨ j = h) (some h) x l
section AQ
variable {n e : Nat} {L : Nat → Nat → Bool} {g : Nat → Bool}
theorem ap_R_c : ∀ {l : List Nat} {on on' : Nat → Prop} {f : Option Nat} {h : Nat}, (∀ j, on j ↔ on' j) → ap_R n L g e on f h l → ap_R n L g e on' f h l := by
  intro l
  induction l with
  | nil =>
    intro on on' f h _ q
    exact q
  | cons x l ih =>
    intro on on' f h ho q
    obtain ⟨⟨q1, q2, q3⟩, q4, q5, q6⟩ := q
    exact ⟨⟨q1, fun z => q2 ((ho x).mpr z), q3⟩, q4, q5, ih (fun j => by rw [ho j]) q6⟩
theorem ap_R_sq {a : Nat} : ∀ {l : List Nat} {on : Nat → Prop} {f : Option Nat} {x m : Nat} {w : Nat → Nat}, ap_sq n L g a m w x → (∀ k, m = k + 1 → f = some (w k)) → ap_R n L g e on f x l → ∃ m' w', ap_sq n L g a m' w' e := by
  intro l
  induction l with
  | nil =>
    intro on f x m w sq _ q
    have q : x = e := q
    rw [q] at sq
    exact ⟨m, w, sq⟩
  | cons y l ih =>
    intro on f x m w sq hf q
    obtain ⟨⟨q1, q2, q3⟩, q4, q5, q6⟩ := q
    have sx : w m = x := sq.2.1
    refine ih (ap_snoc sq q1 q4 (fun k hk => q5 _ (hf k hk))) (fun k hk => ?_) q6
    have ek : k = m := by omega
    show some x = some (if k ≤ m then w k else y)
    rw [if_pos (by omega), ek, sx]
theorem ap_sq_R {a m : Nat} {w : Nat → Nat} (sq : ap_sq n L g a m w e) (inj : ∀ i j, i < j → j ≤ m → w i ≠ w j) : ∀ t k, k + t = m → ∃ l, ap_R n L g e (fun j => ∃ i, i < k ∧ w i = j) (if k = 0 then none else some (w (k - 1))) (w k) l := by
  obtain ⟨s0, s1, s2, s3, s4⟩ := sq
  intro t
  induction t with
  | zero =>
    intro k hk
    have : k = m := by omega
    refine ⟨[], ?_⟩
    show w k = e
    rw [this]
    exact s1
  | succ t ih =>
    intro k hk
    obtain ⟨l, hl⟩ := ih (k + 1) (by omega)
    rw [if_neg (by omega), show k + 1 - 1 = k by omega] at hl
    refine ⟨w (k + 1) :: l, ⟨s2 _ (by omega), fun z => ?_, fun z => inj k (k + 1) (by omega) (by omega) z.symm⟩, s3 k (by omega), fun p hp => ?_, ap_R_c (fun j => ?_) hl⟩
    · obtain ⟨i, i1, i2⟩ := z
      exact inj i (k + 1) (by omega) (by omega) i2
    · by_cases z : k = 0
      · rw [if_pos z] at hp
        cases hp
      · rw [if_neg z] at hp
        injection hp with hp
        obtain ⟨k', hk'⟩ : ∃ k', k = k' + 1 := ⟨k - 1, by omega⟩
        rw [hk'] at hp ⊢
        rw [show k' + 1 - 1 = k' by omega] at hp
        rw [← hp]
        exact s4 k' (by omega)
    · constructor
      · rintro ⟨i, i1, i2⟩
        by_cases z : i = k
        · rw [z] at i2
          exact Or.inr i2.symm
        · exact Or.inl ⟨i, by omega, i2⟩
      · rintro (⟨i, i1, i2⟩ | z)
        · exact ⟨i, by omega, i2⟩
        · exact ⟨k, by omega, z.symm⟩
/-- a row there is just where a walk is -/
theorem ap_main (hL : ap_ok n L) {a : Nat} (ha : a < n) : (∃ l, ap_R n L g e (fun _ => False) none a l) ↔ ∃ m w, ap_sq n L g a m w e := by
  constructor
  · rintro ⟨l, q⟩
    have sq : ap_sq n L g a 0 (fun _ => a) a := ⟨rfl, rfl, fun i _ => ha, fun i h => absurd h (Nat.not_lt_zero i), fun i h => absurd h (Nat.not_lt_zero _)⟩
    exact ap_R_sq sq (fun k hk => absurd hk (by omega)) q
  · rintro ⟨m, w, sq⟩
    obtain ⟨m', w', sq', inj⟩ := ap_short hL m m w (Nat.le_refl m) sq
    obtain ⟨l, hl⟩ := ap_sq_R sq' inj m' 0 (by omega)
    rw [if_pos rfl, sq'.1] at hl
    exact ⟨l, ap_R_c (fun j => ⟨fun ⟨i, h, _⟩ => absurd h (Nat.not_lt_zero i), fun h => h.elim⟩) hl⟩
end AQ
/-- one round: what is come to from what was come to -/
def ap_st (L : Nat → Nat → Bool) (g : Nat → Bool) (b a B A i : Nat) : Prop := (∀ p, B.testBit p = true ↔ b.testBit p = true ∨ ∃ x, x < i ∧ ((g x = false ∧ b.testBit x = true) ∨ (g x = true ∧ a.testBit x = true)) ∧ L x p = true) ∧ ∀ c, A.testBit c = true ↔ a.testBit c = true ∨ ∃ x, x < i ∧ (g x = false ∧ (b.testBit x = true ∨ a.testBit x = true)) ∧ L c x = true
def ap_b1 (b : Bool) : Nat := if b then 1 else 0
/-- how many places are come to -/
def ap_ct (B A : Nat) : Nat → Nat
  | 0 => 0
  | k + 1 => ap_ct B A k + ap_b1 (B.testBit k) + ap_b1 (A.testBit k)
section AS
variable {n : Nat} {L : Nat → Nat → Bool} {g : Nat → Bool} {B A b a : Nat}
theorem ap_b1_le (x : Bool) : ap_b1 x ≤ 1 := by
  cases x
  · exact Nat.zero_le 1
  · exact Nat.le_refl 1
theorem ap_b1_m {x y : Bool} (h : x = true → y = true) : ap_b1 x ≤ ap_b1 y := by
  cases x with
  | false => exact Nat.zero_le _
  | true =>
    rw [h rfl]
    exact Nat.le_refl _
theorem ap_ct_m (h1 : ∀ p, b.testBit p = true → B.testBit p = true) (h2 : ∀ p, a.testBit p = true → A.testBit p = true) : ∀ k, ap_ct b a k ≤ ap_ct B A k := by
  intro k
  induction k with
  | zero => exact Nat.le_refl _
  | succ k ih =>
    have := ap_b1_m (h1 k)
    have := ap_b1_m (h2 k)
    show ap_ct b a k + ap_b1 (b.testBit k) + ap_b1 (a.testBit k) ≤ ap_ct B A k + ap_b1 (B.testBit k) + ap_b1 (A.testBit k)
    omega
theorem ap_ct_s (h1 : ∀ p, b.testBit p = true → B.testBit p = true) (h2 : ∀ p, a.testBit p = true → A.testBit p = true) {j : Nat} (hj : (b.testBit j = false ∧ B.testBit j = true) ∨ (a.testBit j = false ∧ A.testBit j = true)) : ∀ k, j < k → ap_ct b a k + 1 ≤ ap_ct B A k := by
  intro k
  induction k with
  | zero => intro h; exact absurd h (Nat.not_lt_zero j)
  | succ k ih =>
    intro h
    have m1 := ap_b1_m (h1 k)
    have m2 := ap_b1_m (h2 k)
    show ap_ct b a k + ap_b1 (b.testBit k) + ap_b1 (a.testBit k) + 1 ≤ ap_ct B A k + ap_b1 (B.testBit k) + ap_b1 (A.testBit k)
    by_cases z : j < k
    · have := ih z
      omega
    · have e : j = k := by omega
      have m3 := ap_ct_m h1 h2 k
      rw [e] at hj
      rcases hj with ⟨q1, q2⟩ | ⟨q1, q2⟩
      · rw [q1, q2] at m1 ⊢
        show ap_ct b a k + 0 + ap_b1 (a.testBit k) + 1 ≤ ap_ct B A k + 1 + ap_b1 (A.testBit k)
        omega
      · rw [q1, q2] at m2 ⊢
        show ap_ct b a k + ap_b1 (b.testBit k) + 0 + 1 ≤ ap_ct B A k + ap_b1 (B.testBit k) + 1
        omega
theorem ap_ct_le : ∀ k, ap_ct B A k ≤ 2 * k := by
  intro k
  induction k with
  | zero => exact Nat.le_refl _
  | succ k ih =>
    have := ap_b1_le (B.testBit k)
    have := ap_b1_le (A.testBit k)
    show ap_ct B A k + ap_b1 (B.testBit k) + ap_b1 (A.testBit k) ≤ 2 * (k + 1)
    omega
theorem ap_ct_all : ∀ k, 2 * k ≤ ap_ct B A k → ∀ j, j < k → B.testBit j = true := by
  intro k
  induction k with
  | zero => intro _ j h; exact absurd h (Nat.not_lt_zero j)
  | succ k ih =>
    intro h j hj
    have h : 2 * (k + 1) ≤ ap_ct B A k + ap_b1 (B.testBit k) + ap_b1 (A.testBit k) := h
    have l1 := ap_b1_le (B.testBit k)
    have l2 := ap_b1_le (A.testBit k)
    have l3 := ap_ct_le (B := B) (A := A) k
    by_cases z : j = k
    · rw [z]
      cases q : B.testBit k with
      | true => rfl
      | false =>
        rw [q] at h
        have h : 2 * (k + 1) ≤ ap_ct B A k + 0 + ap_b1 (A.testBit k) := h
        omega
    · exact ih (by omega) j (by omega)
/-- what was come to, as a set of places -/
abbrev ap_S (B : Nat) : Nat → Prop := fun p => B.testBit p = true
/-- what holds of the rounds: all is come to by a walk, and either all that follows is there, or every round brought one more -/
def ap_rd (n : Nat) (L : Nat → Nat → Bool) (g : Nat → Bool) (s B A k : Nat) : Prop := ap_in L s (ap_S B) (ap_S A) ∧ (∀ p, B.testBit p = true → ap_F n L g s p true) ∧ (∀ c, A.testBit c = true → ap_F n L g s c false) ∧ (ap_cl L g (ap_S B) (ap_S A) ∨ k ≤ ap_ct B A 10)
theorem ap_rd_s (hL : ap_ok n L) (n10 : n ≤ 10) {s k : Nat} (h : ap_rd n L g s b a k) (st : ap_st L g b a B A n) : ap_rd n L g s B A (k + 1) := by
  obtain ⟨h1, h2, h3, h4⟩ := h
  obtain ⟨t1, t2⟩ := st
  have m1 : ∀ p, b.testBit p = true → B.testBit p = true := fun p q => (t1 p).mpr (Or.inl q)
  have m2 : ∀ p, a.testBit p = true → A.testBit p = true := fun p q => (t2 p).mpr (Or.inl q)
  refine ⟨⟨fun p q => m1 p (h1.1 p q), fun c q => m2 c (h1.2 c q)⟩, fun p q => ?_, fun c q => ?_, ?_⟩
  · rcases (t1 p).mp q with q | ⟨x, -, q | q, hx⟩
    · exact h2 p q
    · exact ap_F_1 hL (h2 x q.2) q.1 hx
    · exact ap_F_2 hL (h3 x q.2) q.1 hx
  · rcases (t2 c).mp q with q | ⟨x, -, ⟨gx, q | q⟩, hx⟩
    · exact h3 c q
    · exact ap_F_3 hL (h2 x q) gx hx
    · exact ap_F_3 hL (h3 x q) gx hx
  · have fin : ap_cl L g (ap_S b) (ap_S a) → ap_cl L g (ap_S B) (ap_S A) := by
      intro hc
      have eB : B = b := Nat.eq_of_testBit_eq (fun p => Bool.eq_iff_iff.mpr ⟨fun q => by
        rcases (t1 p).mp q with q | ⟨x, -, q, hx⟩
        · exact q
        · exact hc.1 x q p hx, m1 p⟩)
      have eA : A = a := Nat.eq_of_testBit_eq (fun p => Bool.eq_iff_iff.mpr ⟨fun q => by
        rcases (t2 p).mp q with q | ⟨x, -, ⟨gx, q⟩, hx⟩
        · exact q
        · exact hc.2 x gx q p hx, m2 p⟩)
      rw [eB, eA]
      exact hc
    rcases h4 with h4 | h4
    · exact Or.inl (fin h4)
    · by_cases z : ∃ j, j < 10 ∧ ((b.testBit j = false ∧ B.testBit j = true) ∨ (a.testBit j = false ∧ A.testBit j = true))
      · obtain ⟨j, j1, j2⟩ := z
        have := ap_ct_s m1 m2 j2 10 j1
        exact Or.inr (by omega)
      · refine Or.inl (fin ⟨fun x q p hp => ?_, fun x gx q c hc => ?_⟩)
        · have l := hL x p hp
          show b.testBit p = true
          cases y : b.testBit p with
          | true => rfl
          | false => exact absurd ⟨p, by omega, Or.inl ⟨y, (t1 p).mpr (Or.inr ⟨x, l.2, q, hp⟩)⟩⟩ z
        · have l := hL c x hc
          show a.testBit c = true
          cases y : a.testBit c with
          | true => rfl
          | false => exact absurd ⟨c, by omega, Or.inr ⟨y, (t2 c).mpr (Or.inr ⟨x, by omega, ⟨gx, q⟩, hc⟩)⟩⟩ z
theorem ap_rd_e (hL : ap_ok n L) (n10 : n ≤ 10) {s e : Nat} (he : e < n) (ne : s ≠ e) (h : ap_rd n L g s B A 20) : (B.testBit e = true ∨ A.testBit e = true) ↔ ∃ m w, ap_sq n L g s m w e := by
  obtain ⟨h1, h2, h3, h4⟩ := h
  constructor
  · rintro (q | q)
    · obtain ⟨m, w, sq, -⟩ := h2 e q
      exact ⟨m + 1, w, sq⟩
    · obtain ⟨m, w, sq, -⟩ := h3 e q
      exact ⟨m + 1, w, sq⟩
  · rintro ⟨m, w, sq⟩
    rcases h4 with h4 | h4
    · exact ap_come hL h4 h1 sq ne
    · exact Or.inl (ap_ct_all 10 h4 e (by omega))
theorem ap_rd_0 (hL : ap_ok n L) {s : Nat} (hs : s < n) (h1 : ∀ p, B.testBit p = true ↔ L s p = true) (h2 : ∀ c, A.testBit c = true ↔ L c s = true) : ap_rd n L g s B A 0 := by
  refine ⟨⟨fun p q => (h1 p).mpr q, fun c q => (h2 c).mpr q⟩, fun p q => ?_, fun c q => ?_, Or.inr (Nat.zero_le _)⟩
  · have l := hL _ _ ((h1 p).mp q)
    exact ap_F_0 hL hs (by omega) (fun _ => (h1 p).mp q) (fun z => absurd z (by decide))
  · have l := hL _ _ ((h2 c).mp q)
    exact ap_F_0 hL hs l.2 (fun z => absurd z (by decide)) (fun _ => (h2 c).mp q)
theorem ap_st_0 : ap_st L g b a b a 0 := ⟨fun p => ⟨fun q => Or.inl q, fun q => by
  rcases q with q | ⟨x, h, -⟩
  · exact q
  · exact absurd h (Nat.not_lt_zero x)⟩, fun p => ⟨fun q => Or.inl q, fun q => by
  rcases q with q | ⟨x, h, -⟩
  · exact q
  · exact absurd h (Nat.not_lt_zero x)⟩⟩
end AS
end PT33ic
section PT33id
/-! ===== v15p: the class's leansOf, leanersOn, connects ===== -/
/-- whether a node leans on another (forced ones lean on none) -/
def n_apL (v : Nat → Int32) (x o : Nat) : Bool := decide (x < (v 128).toInt.toNat) && decide ((v (704000 + x)).toInt < 0) && (v (701000 + x)).toInt.toNat.testBit o
theorem n_apL_i {v : Nat → Int32} {x o : Nat} : n_apL v x o = true ↔ x < (v 128).toInt.toNat ∧ (v (704000 + x)).toInt < 0 ∧ (v (701000 + x)).toInt.toNat.testBit o = true := by
  unfold n_apL
  rw [Bool.and_eq_true, Bool.and_eq_true, decide_eq_true_eq, decide_eq_true_eq, and_assoc]
theorem n_apok {v : Nat → Int32} {h : aH} (hW : n_Wv v h) : ap_ok (v 128).toInt.toNat (n_apL v) := fun x o q => by
  obtain ⟨q1, q2, q3⟩ := n_apL_i.mp q
  obtain ⟨lc, lo, wl, fr, ⟨-, -, ⟨n0, n10⟩, -, -, k1, -⟩, -⟩ := id hW
  obtain ⟨u1, -⟩ := k1 x (by omega)
  rw [n_Nn (by omega)] at u1
  refine ⟨?_, q1⟩
  by_cases z : o < x
  · exact z
  · have p : 2 ^ x ≤ 2 ^ o := n_p2 (by omega)
    rw [Nat.testBit_lt_two_pow (by omega)] at q3
    cases q3
def ap_01 (b : Bool) : Int32 := cond b (Int32.ofInt 1) (Int32.ofInt 0)
/-- the truth of it: there is such a row -/
noncomputable def n_apt (v : Nat → Int32) (a b g : Nat) : Bool := @decide (∃ m w, ap_sq (v 128).toInt.toNat (n_apL v) (fun j => g.testBit j) a m w b) (Classical.propDecidable _)
theorem n_apt_i {v : Nat → Int32} {a b g : Nat} : n_apt v a b g = true ↔ ∃ m w, ap_sq (v 128).toInt.toNat (n_apL v) (fun j => g.testBit j) a m w b := @decide_eq_true_iff _ (Classical.propDecidable _)
section NPB
variable {X : aX} {C S d : Nat} {K0 : Option Value → aH → Nat → Nat → Prop} {h : aH} {v : Nat → Int32}
theorem c_leansOf {G : aH} (hr : w_hr z_D h) (hc : n_cV h v) (hW : n_Wv v h) (e : y_fr h G [] []) {a : Int32} {x : Nat} (hx : a.toInt = x) (xn : x < (v 128).toInt.toNat) (hK : ∀ (r : Int32) (R : Nat) (H : aH), y_fr h H [] [] → r.toInt = R → R < 1024 → (∀ o, R.testBit o = n_apL v x o) → K0 (some (.int r)) H C S) : aOK s_P X d a_m64 0 [some (.ref 3), some (.int a)] [] G C S K0 := by
  have b0 := n_bd (lo := 0) (hi := 10) hr (hc.1 128 (by decide)) rfl
  obtain ⟨⟨p1, p2⟩, -, p3⟩ := id hc.2.2.2.2.2.2.2.2.2.1.1
  have pw : 2 ^ (v 128).toInt.toNat ≤ 2 ^ 10 := n_p2 (by omega)
  have px : 2 ^ x ≤ 2 ^ 10 := n_p2 (by omega)
  have m1 := c_b01 (bits := v 136) (k := a) (b := (v 136).toInt.toNat) (o := x) (by omega) (by omega) hx (by omega)
  rw [(p3 x (by omega)).1] at m1
  have ca := y_cl1 hx
  obtain ⟨lc, lo, wl, fr, ⟨-, -, ⟨n0, n10⟩, -, -, k1, -⟩, -⟩ := id hW
  obtain ⟨u1, -⟩ := k1 x (by omega)
  rw [n_Nn (by omega)] at u1
  obtain ⟨l2, w1, w2, w3⟩ := c_arr hr (ob := 2) (n := 10) rfl
  obtain rfl := y_ai hc.2.1 w1
  have lb := (w3 _ (z_gd (0 : Int32) (show x < (n_ls v 701000 10).length by rw [w2]; omega))).1
  rw [n_ls_at (by omega)] at lb
  refine w_go z_hl [] [] 40 e.1 ?_
  intro y hy _ _
  obtain rfl := y_fi ((y_fe e rfl).trans (hc.1 136 (by decide))) hy
  refine ⟨fun z => ?_, fun z => fun H hH => ?_⟩
  · have z1 : ((v 136 >>> (a &&& 31)) &&& Int32.ofInt 1).toInt = (0 : Int32).toInt := (y_ci .eq _ _).mp z
    have z2 : ((v 136 >>> (a &&& 31)) &&& Int32.ofInt 1).toInt = 0 := z1
    have nf : (v (704000 + x)).toInt < 0 := by
      by_cases w : 0 ≤ (v (704000 + x)).toInt
      · rw [decide_eq_true w, if_pos rfl] at m1
        omega
      · omega
    refine ⟨⟨by omega, by show a.toInt < ((10 : Nat) : Int); omega⟩, fun l hl len bb => fun H hH => ?_⟩
    obtain rfl := y_ai ((y_ae e rfl).trans hc.2.1) hl
    refine hK _ (v (701000 + x)).toInt.toNat H (y_st e hH (by repeat (first | exact w_nil | refine w_cons (Or.inl (y_m rfl)) ?_ | refine w_cons (Or.inr (by assumption)) ?_)) (by repeat (first | exact w_nil | refine w_cons (Or.inl (y_m rfl)) ?_ | refine w_cons (Or.inr (by assumption)) ?_))) ?_ (by omega) (fun o => ?_)
    · rw [ca, n_ls_at (by omega)]
      omega
    · unfold n_apL
      rw [decide_eq_true xn, decide_eq_true nf]
      rfl
  · have z1 : ¬ (((v 136 >>> (a &&& 31)) &&& Int32.ofInt 1).toInt = (0 : Int32).toInt) := y_cif z
    have nf : ¬ (v (704000 + x)).toInt < 0 := fun w => by
      rw [decide_eq_false (show ¬ 0 ≤ (v (704000 + x)).toInt by omega), if_neg (by decide)] at m1
      exact z1 m1
    refine hK _ 0 H (y_st e hH (by repeat (first | exact w_nil | refine w_cons (Or.inl (y_m rfl)) ?_ | refine w_cons (Or.inr (by assumption)) ?_)) (by repeat (first | exact w_nil | refine w_cons (Or.inl (y_m rfl)) ?_ | refine w_cons (Or.inr (by assumption)) ?_))) rfl (by decide) (fun o => ?_)
    unfold n_apL
    rw [decide_eq_true xn, decide_eq_false nf, Nat.zero_testBit]
    rfl
theorem c_leaners_loop (hr : w_hr z_D h) (hc : n_cV h v) (hW : n_Wv v h) {a : Int32} {x : Nat} (hx : a.toInt = x) (xn : x < (v 128).toInt.toNat) : ∀ (t : Nat) (G : aH) (lI oI : Int32) (R o : Nat), y_fr h G [] [] → lI.toInt = R → R < 1024 → oI.toInt = o → o + t = (v 128).toInt.toNat → (∀ c, R.testBit c = true ↔ c < o ∧ n_apL v c x = true) → (∀ (r : Int32) (R : Nat) (H : aH), y_fr h H [] [] → r.toInt = R → R < 1024 → (∀ c, R.testBit c = true ↔ n_apL v c x = true) → K0 (some (.int r)) H C S) → aOK s_P X (d + 1) a_m65 6 [some (.ref 3), some (.int a), some (.int lI), some (.int oI)] [] G C S K0 := by
  have g0 := hc.1 128 (by decide)
  have b0 := n_bd (lo := 0) (hi := 10) hr g0 rfl
  intro t
  induction t with
  | zero =>
    intro G lI oI R o e hl hR ho ht hb hK
    refine w_go z_hl [6] [] 30 e.1 ?_
    intro y hy _ _
    obtain rfl := y_fi ((y_fe e rfl).trans g0) hy
    refine ⟨fun _ => fun H hH => ?_, fun z => ?_⟩
    · refine hK lI R H (y_st e hH (by repeat (first | exact w_nil | refine w_cons (Or.inl (y_m rfl)) ?_ | refine w_cons (Or.inr (by assumption)) ?_)) (by repeat (first | exact w_nil | refine w_cons (Or.inl (y_m rfl)) ?_ | refine w_cons (Or.inr (by assumption)) ?_))) hl hR (fun c => ?_)
      rw [hb c]
      exact ⟨fun q => q.2, fun q => ⟨by have := (n_apL_i.mp q).1; omega, q⟩⟩
    · have y1 : ¬ ((v 128).toInt ≤ oI.toInt) := y_cif z
      exfalso
      omega
  | succ t ih =>
    intro G lI oI R o e hl hR ho ht hb hK
    have ino : (oI + Int32.ofInt 1).toInt = ((o + 1 : Nat) : Int) := by rw [y_inc (by omega), ho]; rfl
    have T20 : ∀ {J : aH} {r : Int32} {R' : Nat}, y_fr h J [] [] → r.toInt = R' → R' < 1024 → (∀ c, R'.testBit c = n_apL v o c) → aOK s_P X (d + 1) a_m65 20 [some (.ref 3), some (.int a), some (.int lI), some (.int oI)] [.int r, .int lI] J C S K0 := by
      intro J r R' f hr' R10 hb'
      have bx := c_b1x (w := r) (k := a) (b := R') (o := x) hr' R10 hx (by omega)
      have key : ∃ R2 : Nat, (lI ||| (((r >>> (a &&& 31)) &&& Int32.ofInt 1) <<< (oI &&& 31))).toInt = R2 ∧ R2 < 1024 ∧ ∀ c, R2.testBit c = true ↔ c < o + 1 ∧ n_apL v c x = true := by
        rw [bx, hb' x]
        cases q : n_apL v o x with
        | true =>
          have p2 : 2 ^ o < 2 ^ 10 := Nat.pow_lt_pow_right (by decide) (by omega)
          obtain ⟨o1, o2⟩ := c_orN hl (c_shlN (x := oI) ho (by omega)) hR (by omega)
          refine ⟨R ||| 2 ^ o, o1, o2, fun c => ?_⟩
          rw [Nat.testBit_or, Bool.or_eq_true, hb c, Nat.testBit_two_pow, decide_eq_true_eq]
          constructor
          · rintro (⟨c1, c2⟩ | c1)
            · exact ⟨by omega, c2⟩
            · rw [← c1]
              exact ⟨by omega, q⟩
          · rintro ⟨c1, c2⟩
            by_cases w : o = c
            · exact Or.inr w
            · exact Or.inl ⟨by omega, c2⟩
        | false =>
          have e0 : cond false (Int32.ofInt 1) (Int32.ofInt 0) <<< (oI &&& 31) = Int32.ofInt 0 := c_0shl ho (by omega)
          rw [e0]
          obtain ⟨o1, o2⟩ := c_orN (y := Int32.ofInt 0) (m := 0) hl (by decide) hR (by decide)
          rw [Nat.or_zero] at o1 o2
          refine ⟨R, o1, o2, fun c => ?_⟩
          rw [hb c]
          constructor
          · rintro ⟨c1, c2⟩
            exact ⟨by omega, c2⟩
          · rintro ⟨c1, c2⟩
            by_cases w : c = o
            · rw [w, q] at c2
              cases c2
            · exact ⟨by omega, c2⟩
      obtain ⟨R2, k1, k2, k3⟩ := key
      refine w_go z_hl [6] [] 30 f.1 ?_
      intro H hH
      exact ih H _ _ R2 (o + 1) (y_st f hH (by repeat (first | exact w_nil | refine w_cons (Or.inl (y_m rfl)) ?_ | refine w_cons (Or.inr (by assumption)) ?_)) (by repeat (first | exact w_nil | refine w_cons (Or.inl (y_m rfl)) ?_ | refine w_cons (Or.inr (by assumption)) ?_))) k1 k2 ino (by omega) k3 hK
    refine w_go z_hl [6] [64] 30 e.1 ?_
    intro y hy _ _
    obtain rfl := y_fi ((y_fe e rfl).trans g0) hy
    refine ⟨fun z => ?_, fun z => fun H hH => ?_⟩
    · have y1 : (v 128).toInt ≤ oI.toInt := (y_ci .ge _ _).mp z
      exfalso
      omega
    · refine c_leansOf (d := d) hr hc hW (y_st e hH (by repeat (first | exact w_nil | refine w_cons (Or.inl (y_m rfl)) ?_ | refine w_cons (Or.inr (by assumption)) ?_)) (by repeat (first | exact w_nil | refine w_cons (Or.inl (y_m rfl)) ?_ | refine w_cons (Or.inr (by assumption)) ?_))) ho (by omega) (fun r R' H' f h1 h2 h3 => ⟨fun n e => (by cases e), ?_⟩)
      exact T20 f h1 h2 h3
theorem c_leaners {G : aH} (hr : w_hr z_D h) (hc : n_cV h v) (hW : n_Wv v h) (e : y_fr h G [] []) {a : Int32} {x : Nat} (hx : a.toInt = x) (xn : x < (v 128).toInt.toNat) (hK : ∀ (r : Int32) (R : Nat) (H : aH), y_fr h H [] [] → r.toInt = R → R < 1024 → (∀ c, R.testBit c = true ↔ n_apL v c x = true) → K0 (some (.int r)) H C S) : aOK s_P X (d + 1) a_m65 0 [some (.ref 3), some (.int a), none, none] [] G C S K0 := by
  have b0 := n_bd (lo := 0) (hi := 10) hr (hc.1 128 (by decide)) rfl
  have ina : (a + Int32.ofInt 1).toInt = ((x + 1 : Nat) : Int) := by rw [y_inc (by omega), hx]; rfl
  refine w_go z_hl [6] [] 30 e.1 ?_
  intro H hH
  refine c_leaners_loop hr hc hW hx xn ((v 128).toInt.toNat - (x + 1)) H _ _ 0 (x + 1) (y_st e hH (by repeat (first | exact w_nil | refine w_cons (Or.inl (y_m rfl)) ?_ | refine w_cons (Or.inr (by assumption)) ?_)) (by repeat (first | exact w_nil | refine w_cons (Or.inl (y_m rfl)) ?_ | refine w_cons (Or.inr (by assumption)) ?_))) rfl (by decide) ina (by omega) (fun c => ?_) hK
  rw [Nat.zero_testBit]
  constructor
  · intro q
    cases q
  · rintro ⟨c1, c2⟩
    have := (n_apok hW) c x c2
    omega
/-- one round over all nodes -/
theorem c_conn_in (hr : w_hr z_D h) (hc : n_cV h v) (hW : n_Wv v h) {a b gI rI bI aI : Int32} {gN bN aN : Nat} (hg : gI.toInt = gN) (g10 : gN < 1024) (hb : bI.toInt = bN) (b10 : bN < 1024) (ha : aI.toInt = aN) (a10 : aN < 1024) : ∀ (t : Nat) (G : aH) (BI AI iI : Int32) (B A i : Nat) (o10 o11 o12 : Option Value), y_fr h G [] [] → BI.toInt = B → B < 1024 → AI.toInt = A → A < 1024 → iI.toInt = i → i + t = (v 128).toInt.toNat → ap_st (n_apL v) (fun j => gN.testBit j) bN aN B A i → (∀ (H : aH) (BI AI iI : Int32) (B A : Nat) (o10 o11 o12 : Option Value), y_fr h H [] [] → BI.toInt = B → B < 1024 → AI.toInt = A → A < 1024 → ap_st (n_apL v) (fun j => gN.testBit j) bN aN B A (v 128).toInt.toNat → aOK s_P X (d + 2) a_m63 157 [some (.ref 3), some (.int a), some (.int b), some (.int gI), some (.int BI), some (.int AI), some (.int rI), some (.int bI), some (.int aI), some (.int iI), o10, o11, o12] [] H C S K0) → aOK s_P X (d + 2) a_m63 35 [some (.ref 3), some (.int a), some (.int b), some (.int gI), some (.int BI), some (.int AI), some (.int rI), some (.int bI), some (.int aI), some (.int iI), o10, o11, o12] [] G C S K0 := by
  have g0 := hc.1 128 (by decide)
  have b0 := n_bd (lo := 0) (hi := 10) hr g0 rfl
  intro t
  induction t with
  | zero =>
    intro G BI AI iI B A i o10 o11 o12 e hB B10 hA A10 hi ht st hK
    have ei : i = (v 128).toInt.toNat := by omega
    rw [ei] at st
    refine w_go z_hl [35, 157] [] 30 e.1 ?_
    intro y hy _ _
    obtain rfl := y_fi ((y_fe e rfl).trans g0) hy
    refine ⟨fun _ => fun H hH => hK H BI AI iI B A _ _ _ (y_st e hH (by repeat (first | exact w_nil | refine w_cons (Or.inl (y_m rfl)) ?_ | refine w_cons (Or.inr (by assumption)) ?_)) (by repeat (first | exact w_nil | refine w_cons (Or.inl (y_m rfl)) ?_ | refine w_cons (Or.inr (by assumption)) ?_))) hB B10 hA A10 st, fun z => ?_⟩
    have y1 : ¬ ((v 128).toInt ≤ iI.toInt) := y_cif z
    exfalso
    omega
  | succ t ih =>
    intro G BI AI iI B A i o10 o11 o12 e hB B10 hA A10 hi ht st hK
    have ini : (iI + Int32.ofInt 1).toInt = ((i + 1 : Nat) : Int) := by rw [y_inc (by omega), hi]; rfl
    have inn : i < (v 128).toInt.toNat := by omega
    obtain ⟨pB, hp⟩ : ∃ pB, pB = !gN.testBit i := ⟨_, rfl⟩
    obtain ⟨lB, hlB⟩ : ∃ lB, lB = bN.testBit i := ⟨_, rfl⟩
    obtain ⟨uB, huB⟩ : ∃ uB, uB = aN.testBit i := ⟨_, rfl⟩
    obtain ⟨st1, st2⟩ := st
    have T151 : ∀ {J : aH} {BI AI : Int32} {B A : Nat} {o10 o11 o12 : Option Value}, y_fr h J [] [] → BI.toInt = B → B < 1024 → AI.toInt = A → A < 1024 → ap_st (n_apL v) (fun j => gN.testBit j) bN aN B A (i + 1) → aOK s_P X (d + 2) a_m63 151 [some (.ref 3), some (.int a), some (.int b), some (.int gI), some (.int BI), some (.int AI), some (.int rI), some (.int bI), some (.int aI), some (.int iI), o10, o11, o12] [] J C S K0 := by
      intro J BI AI B A o10 o11 o12 f hB B10 hA A10 st
      refine w_go z_hl [35] [] 30 f.1 ?_
      intro H hH
      exact ih H _ _ _ B A (i + 1) _ _ _ (y_st f hH (by repeat (first | exact w_nil | refine w_cons (Or.inl (y_m rfl)) ?_ | refine w_cons (Or.inr (by assumption)) ?_)) (by repeat (first | exact w_nil | refine w_cons (Or.inl (y_m rfl)) ?_ | refine w_cons (Or.inr (by assumption)) ?_))) hB B10 hA A10 ini (by omega) st hK
    have T148 : ∀ {J : aH} {BI r : Int32} {B R : Nat} {o10 o11 o12 : Option Value}, y_fr h J [] [] → BI.toInt = B → B < 1024 → r.toInt = R → R < 1024 → (∀ p, B.testBit p = true ↔ bN.testBit p = true ∨ ∃ x, x < i + 1 ∧ ((gN.testBit x = false ∧ bN.testBit x = true) ∨ (gN.testBit x = true ∧ aN.testBit x = true)) ∧ n_apL v x p = true) → (∀ c, R.testBit c = true ↔ n_apL v c i = true) → gN.testBit i = false → (bN.testBit i = true ∨ aN.testBit i = true) → aOK s_P X (d + 2) a_m63 148 [some (.ref 3), some (.int a), some (.int b), some (.int gI), some (.int BI), some (.int AI), some (.int rI), some (.int bI), some (.int aI), some (.int iI), o10, o11, o12] [.int r, .int AI] J C S K0 := by
      intro J BI r B R o10 o11 o12 f hB B10 hr' R10 sB hR gi ba
      obtain ⟨q1, q2⟩ := c_orN hA hr' A10 R10
      refine w_go z_hl [151] [] 30 f.1 ?_
      intro H hH
      refine T151 (A := A ||| R) (y_st f hH (by repeat (first | exact w_nil | refine w_cons (Or.inl (y_m rfl)) ?_ | refine w_cons (Or.inr (by assumption)) ?_)) (by repeat (first | exact w_nil | refine w_cons (Or.inl (y_m rfl)) ?_ | refine w_cons (Or.inr (by assumption)) ?_))) hB B10 q1 q2 ⟨sB, fun c => ?_⟩
      rw [Nat.testBit_or, Bool.or_eq_true, st2 c, hR c]
      constructor
      · rintro ((w | ⟨x, x1, x2⟩) | w)
        · exact Or.inl w
        · exact Or.inr ⟨x, by omega, x2⟩
        · exact Or.inr ⟨i, by omega, ⟨gi, ba⟩, w⟩
      · rintro (w | ⟨x, x1, x2, x3⟩)
        · exact Or.inl (Or.inl w)
        · by_cases y : x = i
          · rw [y] at x3
            exact Or.inr x3
          · exact Or.inl (Or.inr ⟨x, by omega, x2, x3⟩)
    have T140 : ∀ {J : aH} {BI : Int32} {B : Nat} {o10 o11 o12 : Option Value}, y_fr h J [] [] → BI.toInt = B → B < 1024 → (∀ p, B.testBit p = true ↔ bN.testBit p = true ∨ ∃ x, x < i + 1 ∧ ((gN.testBit x = false ∧ bN.testBit x = true) ∨ (gN.testBit x = true ∧ aN.testBit x = true)) ∧ n_apL v x p = true) → gN.testBit i = false → (bN.testBit i = true ∨ aN.testBit i = true) → aOK s_P X (d + 2) a_m63 140 [some (.ref 3), some (.int a), some (.int b), some (.int gI), some (.int BI), some (.int AI), some (.int rI), some (.int bI), some (.int aI), some (.int iI), o10, o11, o12] [] J C S K0 := by
      intro J BI B o10 o11 o12 f hB B10 sB gi ba
      refine w_go z_hl [151] [65] 30 f.1 ?_
      intro H hH
      refine c_leaners (d := d) hr hc hW (y_st f hH (by repeat (first | exact w_nil | refine w_cons (Or.inl (y_m rfl)) ?_ | refine w_cons (Or.inr (by assumption)) ?_)) (by repeat (first | exact w_nil | refine w_cons (Or.inl (y_m rfl)) ?_ | refine w_cons (Or.inr (by assumption)) ?_))) hi inn (fun r R H' f' h1 h2 h3 => ⟨fun n e => (by cases e), ?_⟩)
      exact T148 f' hB B10 h1 h2 sB h3 gi ba
    have skip : ∀ {J : aH} {BI : Int32} {B : Nat} {o10 o11 o12 : Option Value}, y_fr h J [] [] → BI.toInt = B → B < 1024 → (∀ p, B.testBit p = true ↔ bN.testBit p = true ∨ ∃ x, x < i + 1 ∧ ((gN.testBit x = false ∧ bN.testBit x = true) ∨ (gN.testBit x = true ∧ aN.testBit x = true)) ∧ n_apL v x p = true) → ¬ (gN.testBit i = false ∧ (bN.testBit i = true ∨ aN.testBit i = true)) → aOK s_P X (d + 2) a_m63 151 [some (.ref 3), some (.int a), some (.int b), some (.int gI), some (.int BI), some (.int AI), some (.int rI), some (.int bI), some (.int aI), some (.int iI), o10, o11, o12] [] J C S K0 := by
      intro J BI B o10 o11 o12 f hB B10 sB nc
      refine T151 f hB B10 hA A10 ⟨sB, fun c => ?_⟩
      rw [st2 c]
      constructor
      · rintro (w | ⟨x, x1, x2⟩)
        · exact Or.inl w
        · exact Or.inr ⟨x, by omega, x2⟩
      · rintro (w | ⟨x, x1, x2, x3⟩)
        · exact Or.inl w
        · by_cases y : x = i
          · rw [y] at x2
            exact absurd x2 nc
          · exact Or.inr ⟨x, by omega, x2, x3⟩
    have T125 : ∀ {J : aH} {BI : Int32} {B : Nat}, y_fr h J [] [] → BI.toInt = B → B < 1024 → (∀ p, B.testBit p = true ↔ bN.testBit p = true ∨ ∃ x, x < i + 1 ∧ ((gN.testBit x = false ∧ bN.testBit x = true) ∨ (gN.testBit x = true ∧ aN.testBit x = true)) ∧ n_apL v x p = true) → aOK s_P X (d + 2) a_m63 125 [some (.ref 3), some (.int a), some (.int b), some (.int gI), some (.int BI), some (.int AI), some (.int rI), some (.int bI), some (.int aI), some (.int iI), some (.int (ap_01 pB)), some (.int (ap_01 lB)), some (.int (ap_01 uB))] [] J C S K0 := by
      intro J BI B f hB B10 sB
      have gq : pB = true → gN.testBit i = false := fun w => by
        rw [w] at hp
        cases q : gN.testBit i with
        | false => rfl
        | true => rw [q] at hp; cases hp
      cases hpB : pB with
      | false =>
        refine w_go z_hl [140, 151] [] 30 f.1 ?_
        refine ⟨fun _ => fun H hH => skip (y_st f hH (by repeat (first | exact w_nil | refine w_cons (Or.inl (y_m rfl)) ?_ | refine w_cons (Or.inr (by assumption)) ?_)) (by repeat (first | exact w_nil | refine w_cons (Or.inl (y_m rfl)) ?_ | refine w_cons (Or.inr (by assumption)) ?_))) hB B10 sB (fun w => ?_), fun z => absurd z (by decide)⟩
        rw [w.1, hpB] at hp
        cases hp
      | true =>
        have gi := gq hpB
        cases hl2 : lB with
        | true =>
          refine w_go z_hl [140, 151] [] 30 f.1 ?_
          exact ⟨fun z => absurd z (by decide), fun _ => ⟨fun _ => fun H hH => T140 (y_st f hH (by repeat (first | exact w_nil | refine w_cons (Or.inl (y_m rfl)) ?_ | refine w_cons (Or.inr (by assumption)) ?_)) (by repeat (first | exact w_nil | refine w_cons (Or.inl (y_m rfl)) ?_ | refine w_cons (Or.inr (by assumption)) ?_))) hB B10 sB gi (Or.inl (by rw [← hlB, hl2])), fun z => absurd z (by decide)⟩⟩
        | false => cases hu2 : uB with
          | true =>
            refine w_go z_hl [140, 151] [] 30 f.1 ?_
            exact ⟨fun z => absurd z (by decide), fun _ => ⟨fun z => absurd z (by decide), fun _ => ⟨fun z => absurd z (by decide), fun _ => fun H hH => T140 (y_st f hH (by repeat (first | exact w_nil | refine w_cons (Or.inl (y_m rfl)) ?_ | refine w_cons (Or.inr (by assumption)) ?_)) (by repeat (first | exact w_nil | refine w_cons (Or.inl (y_m rfl)) ?_ | refine w_cons (Or.inr (by assumption)) ?_))) hB B10 sB gi (Or.inr (by rw [← huB, hu2]))⟩⟩⟩
          | false =>
            refine w_go z_hl [140, 151] [] 30 f.1 ?_
            refine ⟨fun z => absurd z (by decide), fun _ => ⟨fun z => absurd z (by decide), fun _ => ⟨fun _ => fun H hH => skip (y_st f hH (by repeat (first | exact w_nil | refine w_cons (Or.inl (y_m rfl)) ?_ | refine w_cons (Or.inr (by assumption)) ?_)) (by repeat (first | exact w_nil | refine w_cons (Or.inl (y_m rfl)) ?_ | refine w_cons (Or.inr (by assumption)) ?_))) hB B10 sB (fun w => ?_), fun z => absurd z (by decide)⟩⟩⟩
            rw [← hlB, ← huB, hl2, hu2] at w
            rcases w.2 with y | y <;> cases y
    have T122 : ∀ {J : aH} {r : Int32} {R : Nat}, y_fr h J [] [] → r.toInt = R → R < 1024 → (∀ o, R.testBit o = n_apL v i o) → ((gN.testBit i = false ∧ bN.testBit i = true) ∨ (gN.testBit i = true ∧ aN.testBit i = true)) → aOK s_P X (d + 2) a_m63 122 [some (.ref 3), some (.int a), some (.int b), some (.int gI), some (.int BI), some (.int AI), some (.int rI), some (.int bI), some (.int aI), some (.int iI), some (.int (ap_01 pB)), some (.int (ap_01 lB)), some (.int (ap_01 uB))] [.int r, .int BI] J C S K0 := by
      intro J r R f hr' R10 hR cd
      obtain ⟨q1, q2⟩ := c_orN hB hr' B10 R10
      refine w_go z_hl [125] [] 30 f.1 ?_
      intro H hH
      refine T125 (B := B ||| R) (y_st f hH (by repeat (first | exact w_nil | refine w_cons (Or.inl (y_m rfl)) ?_ | refine w_cons (Or.inr (by assumption)) ?_)) (by repeat (first | exact w_nil | refine w_cons (Or.inl (y_m rfl)) ?_ | refine w_cons (Or.inr (by assumption)) ?_))) q1 q2 (fun p => ?_)
      rw [Nat.testBit_or, Bool.or_eq_true, st1 p, hR p]
      constructor
      · rintro ((w | ⟨x, x1, x2⟩) | w)
        · exact Or.inl w
        · exact Or.inr ⟨x, by omega, x2⟩
        · exact Or.inr ⟨i, by omega, cd, w⟩
      · rintro (w | ⟨x, x1, x2, x3⟩)
        · exact Or.inl (Or.inl w)
        · by_cases y : x = i
          · rw [y] at x3
            exact Or.inr x3
          · exact Or.inl (Or.inr ⟨x, by omega, x2, x3⟩)
    have T114 : ∀ {J : aH}, y_fr h J [] [] → ((gN.testBit i = false ∧ bN.testBit i = true) ∨ (gN.testBit i = true ∧ aN.testBit i = true)) → aOK s_P X (d + 2) a_m63 114 [some (.ref 3), some (.int a), some (.int b), some (.int gI), some (.int BI), some (.int AI), some (.int rI), some (.int bI), some (.int aI), some (.int iI), some (.int (ap_01 pB)), some (.int (ap_01 lB)), some (.int (ap_01 uB))] [] J C S K0 := by
      intro J f cd
      refine w_go z_hl [125] [64] 30 f.1 ?_
      intro H hH
      refine c_leansOf (d := d + 1) hr hc hW (y_st f hH (by repeat (first | exact w_nil | refine w_cons (Or.inl (y_m rfl)) ?_ | refine w_cons (Or.inr (by assumption)) ?_)) (by repeat (first | exact w_nil | refine w_cons (Or.inl (y_m rfl)) ?_ | refine w_cons (Or.inr (by assumption)) ?_))) hi inn (fun r R H' f' h1 h2 h3 => ⟨fun n e => (by cases e), ?_⟩)
      exact T122 f' h1 h2 h3 cd
    have noB : ∀ {J : aH}, y_fr h J [] [] → ¬ ((gN.testBit i = false ∧ bN.testBit i = true) ∨ (gN.testBit i = true ∧ aN.testBit i = true)) → aOK s_P X (d + 2) a_m63 125 [some (.ref 3), some (.int a), some (.int b), some (.int gI), some (.int BI), some (.int AI), some (.int rI), some (.int bI), some (.int aI), some (.int iI), some (.int (ap_01 pB)), some (.int (ap_01 lB)), some (.int (ap_01 uB))] [] J C S K0 := by
      intro J f nc
      refine T125 f hB B10 (fun p => ?_)
      rw [st1 p]
      constructor
      · rintro (w | ⟨x, x1, x2⟩)
        · exact Or.inl w
        · exact Or.inr ⟨x, by omega, x2⟩
      · rintro (w | ⟨x, x1, x2, x3⟩)
        · exact Or.inl w
        · by_cases y : x = i
          · rw [y] at x2
            exact absurd x2 nc
          · exact Or.inr ⟨x, by omega, x2, x3⟩
    have T94 : ∀ {J : aH}, y_fr h J [] [] → aOK s_P X (d + 2) a_m63 94 [some (.ref 3), some (.int a), some (.int b), some (.int gI), some (.int BI), some (.int AI), some (.int rI), some (.int bI), some (.int aI), some (.int iI), some (.int (ap_01 pB)), some (.int (ap_01 lB)), some (.int (ap_01 uB))] [] J C S K0 := by
      intro J f
      have gv : gN.testBit i = !pB := by rw [hp, Bool.not_not]
      cases hpB : pB with
      | true =>
        rw [hpB] at gv
        have gv : gN.testBit i = false := gv
        cases hl2 : lB with
        | true =>
          rw [hpB, hl2] at T114
          refine w_go z_hl [114, 125] [] 30 f.1 ?_
          exact ⟨fun z => absurd z (by decide), fun _ => ⟨fun _ => fun H hH => T114 (y_st f hH (by repeat (first | exact w_nil | refine w_cons (Or.inl (y_m rfl)) ?_ | refine w_cons (Or.inr (by assumption)) ?_)) (by repeat (first | exact w_nil | refine w_cons (Or.inl (y_m rfl)) ?_ | refine w_cons (Or.inr (by assumption)) ?_))) (Or.inl ⟨gv, by rw [← hlB, hl2]⟩), fun z => absurd z (by decide)⟩⟩
        | false =>
          rw [hpB, hl2] at noB
          refine w_go z_hl [114, 125] [] 30 f.1 ?_
          refine ⟨fun z => absurd z (by decide), fun _ => ⟨fun z => absurd z (by decide), fun _ => ⟨fun _ => fun H hH => noB (y_st f hH (by repeat (first | exact w_nil | refine w_cons (Or.inl (y_m rfl)) ?_ | refine w_cons (Or.inr (by assumption)) ?_)) (by repeat (first | exact w_nil | refine w_cons (Or.inl (y_m rfl)) ?_ | refine w_cons (Or.inr (by assumption)) ?_))) (fun w => ?_), fun z => absurd z (by decide)⟩⟩⟩
          rw [gv, ← hlB, hl2] at w
          rcases w with y | y
          · cases y.2
          · cases y.1
      | false =>
        rw [hpB] at gv
        have gv : gN.testBit i = true := gv
        cases hu2 : uB with
        | true =>
          rw [hpB, hu2] at T114
          refine w_go z_hl [114, 125] [] 30 f.1 ?_
          exact ⟨fun _ => ⟨fun z => absurd z (by decide), fun _ => ⟨fun z => absurd z (by decide), fun _ => fun H hH => T114 (y_st f hH (by repeat (first | exact w_nil | refine w_cons (Or.inl (y_m rfl)) ?_ | refine w_cons (Or.inr (by assumption)) ?_)) (by repeat (first | exact w_nil | refine w_cons (Or.inl (y_m rfl)) ?_ | refine w_cons (Or.inr (by assumption)) ?_))) (Or.inr ⟨gv, by rw [← huB, hu2]⟩)⟩⟩, fun z => absurd z (by decide)⟩
        | false =>
          rw [hpB, hu2] at noB
          refine w_go z_hl [114, 125] [] 30 f.1 ?_
          refine ⟨fun _ => ⟨fun z => absurd z (by decide), fun _ => ⟨fun _ => fun H hH => noB (y_st f hH (by repeat (first | exact w_nil | refine w_cons (Or.inl (y_m rfl)) ?_ | refine w_cons (Or.inr (by assumption)) ?_)) (by repeat (first | exact w_nil | refine w_cons (Or.inl (y_m rfl)) ?_ | refine w_cons (Or.inr (by assumption)) ?_))) (fun w => ?_), fun z => absurd z (by decide)⟩⟩, fun z => absurd z (by decide)⟩
          rw [gv, ← huB, hu2] at w
          rcases w with y | y
          · cases y.1
          · cases y.2
    have T77 : ∀ {J : aH} {o12 : Option Value}, y_fr h J [] [] → aOK s_P X (d + 2) a_m63 77 [some (.ref 3), some (.int a), some (.int b), some (.int gI), some (.int BI), some (.int AI), some (.int rI), some (.int bI), some (.int aI), some (.int iI), some (.int (ap_01 pB)), some (.int (ap_01 lB)), o12] [] J C S K0 := by
      intro J o12 f
      have m := c_b01 (bits := aI) (k := iI) (b := aN) (o := i) ha a10 hi (by omega)
      rw [← huB] at m
      refine w_go z_hl [94] [] 30 f.1 ?_
      refine ⟨fun z => fun H hH => ?_, fun z => fun H hH => ?_⟩
      · have z1 : ((aI >>> (iI &&& 31)) &&& Int32.ofInt 1).toInt = (0 : Int32).toInt := (y_ci .eq _ _).mp z
        have q : uB = false := by
          cases w : uB with
          | false => rfl
          | true => rw [w, if_pos rfl, z1] at m; exact absurd m (by decide)
        rw [q] at T94
        exact T94 (y_st f hH (by repeat (first | exact w_nil | refine w_cons (Or.inl (y_m rfl)) ?_ | refine w_cons (Or.inr (by assumption)) ?_)) (by repeat (first | exact w_nil | refine w_cons (Or.inl (y_m rfl)) ?_ | refine w_cons (Or.inr (by assumption)) ?_)))
      · have z1 : ¬ (((aI >>> (iI &&& 31)) &&& Int32.ofInt 1).toInt = (0 : Int32).toInt) := y_cif z
        have q : uB = true := by
          cases w : uB with
          | true => rfl
          | false => rw [w, if_neg (by decide)] at m; exact absurd m z1
        rw [q] at T94
        exact T94 (y_st f hH (by repeat (first | exact w_nil | refine w_cons (Or.inl (y_m rfl)) ?_ | refine w_cons (Or.inr (by assumption)) ?_)) (by repeat (first | exact w_nil | refine w_cons (Or.inl (y_m rfl)) ?_ | refine w_cons (Or.inr (by assumption)) ?_)))
    have T60 : ∀ {J : aH} {o11 o12 : Option Value}, y_fr h J [] [] → aOK s_P X (d + 2) a_m63 60 [some (.ref 3), some (.int a), some (.int b), some (.int gI), some (.int BI), some (.int AI), some (.int rI), some (.int bI), some (.int aI), some (.int iI), some (.int (ap_01 pB)), o11, o12] [] J C S K0 := by
      intro J o11 o12 f
      have m := c_b01 (bits := bI) (k := iI) (b := bN) (o := i) hb b10 hi (by omega)
      rw [← hlB] at m
      refine w_go z_hl [77] [] 30 f.1 ?_
      refine ⟨fun z => fun H hH => ?_, fun z => fun H hH => ?_⟩
      · have z1 : ((bI >>> (iI &&& 31)) &&& Int32.ofInt 1).toInt = (0 : Int32).toInt := (y_ci .eq _ _).mp z
        have q : lB = false := by
          cases w : lB with
          | false => rfl
          | true => rw [w, if_pos rfl, z1] at m; exact absurd m (by decide)
        rw [q] at T77
        exact T77 (y_st f hH (by repeat (first | exact w_nil | refine w_cons (Or.inl (y_m rfl)) ?_ | refine w_cons (Or.inr (by assumption)) ?_)) (by repeat (first | exact w_nil | refine w_cons (Or.inl (y_m rfl)) ?_ | refine w_cons (Or.inr (by assumption)) ?_)))
      · have z1 : ¬ (((bI >>> (iI &&& 31)) &&& Int32.ofInt 1).toInt = (0 : Int32).toInt) := y_cif z
        have q : lB = true := by
          cases w : lB with
          | true => rfl
          | false => rw [w, if_neg (by decide)] at m; exact absurd m z1
        rw [q] at T77
        exact T77 (y_st f hH (by repeat (first | exact w_nil | refine w_cons (Or.inl (y_m rfl)) ?_ | refine w_cons (Or.inr (by assumption)) ?_)) (by repeat (first | exact w_nil | refine w_cons (Or.inl (y_m rfl)) ?_ | refine w_cons (Or.inr (by assumption)) ?_)))
    have m := c_b01 (bits := gI) (k := iI) (b := gN) (o := i) hg g10 hi (by omega)
    refine w_go z_hl [60, 157] [] 30 e.1 ?_
    intro y hy _ _
    obtain rfl := y_fi ((y_fe e rfl).trans g0) hy
    refine ⟨fun z => ?_, fun z => ⟨fun z2 => fun H hH => ?_, fun z2 => fun H hH => ?_⟩⟩
    · have y1 : (v 128).toInt ≤ iI.toInt := (y_ci .ge _ _).mp z
      exfalso
      omega
    · have z1 : ((gI >>> (iI &&& 31)) &&& Int32.ofInt 1).toInt ≠ (0 : Int32).toInt := (y_ci .ne _ _).mp z2
      have q : pB = false := by
        cases w : gN.testBit i with
        | true => rw [hp, w]; rfl
        | false => rw [w, if_neg (by decide)] at m; exact absurd m z1
      rw [q] at T60
      exact T60 (y_st e hH (by repeat (first | exact w_nil | refine w_cons (Or.inl (y_m rfl)) ?_ | refine w_cons (Or.inr (by assumption)) ?_)) (by repeat (first | exact w_nil | refine w_cons (Or.inl (y_m rfl)) ?_ | refine w_cons (Or.inr (by assumption)) ?_)))
    · have z1 : ¬ (((gI >>> (iI &&& 31)) &&& Int32.ofInt 1).toInt ≠ (0 : Int32).toInt) := y_cif z2
      have z3 := Decidable.not_not.mp z1
      have q : pB = true := by
        cases w : gN.testBit i with
        | false => rw [hp, w]; rfl
        | true => rw [w, if_pos rfl, z3] at m; exact absurd m (by decide)
      rw [q] at T60
      exact T60 (y_st e hH (by repeat (first | exact w_nil | refine w_cons (Or.inl (y_m rfl)) ?_ | refine w_cons (Or.inr (by assumption)) ?_)) (by repeat (first | exact w_nil | refine w_cons (Or.inl (y_m rfl)) ?_ | refine w_cons (Or.inr (by assumption)) ?_)))
/-- all rounds -/
theorem c_conn_out (hr : w_hr z_D h) (hc : n_cV h v) (hW : n_Wv v h) {a b gI : Int32} {s gN : Nat} (hg : gI.toInt = gN) (g10 : gN < 1024) : ∀ (t : Nat) (G : aH) (BI AI rI : Int32) (B A k : Nat) (o7 o8 o9 o10 o11 o12 : Option Value), y_fr h G [] [] → BI.toInt = B → B < 1024 → AI.toInt = A → A < 1024 → rI.toInt = k → k + t = 20 → ap_rd (v 128).toInt.toNat (n_apL v) (fun j => gN.testBit j) s B A k → (∀ (H : aH) (BI AI rI : Int32) (B A : Nat) (o7 o8 o9 o10 o11 o12 : Option Value), y_fr h H [] [] → BI.toInt = B → B < 1024 → AI.toInt = A → A < 1024 → ap_rd (v 128).toInt.toNat (n_apL v) (fun j => gN.testBit j) s B A 20 → aOK s_P X (d + 2) a_m63 163 [some (.ref 3), some (.int a), some (.int b), some (.int gI), some (.int BI), some (.int AI), some (.int rI), o7, o8, o9, o10, o11, o12] [] H C S K0) → aOK s_P X (d + 2) a_m63 17 [some (.ref 3), some (.int a), some (.int b), some (.int gI), some (.int BI), some (.int AI), some (.int rI), o7, o8, o9, o10, o11, o12] [] G C S K0 := by
  have g0 := hc.1 128 (by decide)
  have b0 := n_bd (lo := 0) (hi := 10) hr g0 rfl
  have c20 : ((Int8.ofInt 20).toInt32).toInt = 20 := by decide
  intro t
  induction t with
  | zero =>
    intro G BI AI rI B A k o7 o8 o9 o10 o11 o12 e hB B10 hA A10 hk ht rd hK
    have ek : k = 20 := by omega
    rw [ek] at rd
    refine w_go z_hl [17, 163] [] 30 e.1 ?_
    refine ⟨fun _ => fun H hH => hK H BI AI rI B A _ _ _ _ _ _ (y_st e hH (by repeat (first | exact w_nil | refine w_cons (Or.inl (y_m rfl)) ?_ | refine w_cons (Or.inr (by assumption)) ?_)) (by repeat (first | exact w_nil | refine w_cons (Or.inl (y_m rfl)) ?_ | refine w_cons (Or.inr (by assumption)) ?_))) hB B10 hA A10 rd, fun z => ?_⟩
    have y1 : ¬ (((Int8.ofInt 20).toInt32).toInt ≤ rI.toInt) := y_cif z
    rw [c20] at y1
    exfalso
    omega
  | succ t ih =>
    intro G BI AI rI B A k o7 o8 o9 o10 o11 o12 e hB B10 hA A10 hk ht rd hK
    have ink : (rI + Int32.ofInt 1).toInt = ((k + 1 : Nat) : Int) := by rw [y_inc (by omega), hk]; rfl
    refine w_go z_hl [35, 163] [] 30 e.1 ?_
    refine ⟨fun z => ?_, fun z => fun H hH => ?_⟩
    · have y1 : ((Int8.ofInt 20).toInt32).toInt ≤ rI.toInt := (y_ci .ge _ _).mp z
      rw [c20] at y1
      exfalso
      omega
    · refine c_conn_in (d := d) hr hc hW hg g10 hB B10 hA A10 (v 128).toInt.toNat H BI AI _ B A 0 _ _ _ (y_st e hH (by repeat (first | exact w_nil | refine w_cons (Or.inl (y_m rfl)) ?_ | refine w_cons (Or.inr (by assumption)) ?_)) (by repeat (first | exact w_nil | refine w_cons (Or.inl (y_m rfl)) ?_ | refine w_cons (Or.inr (by assumption)) ?_))) hB B10 hA A10 (by decide) (by omega) ap_st_0 (fun H2 BI2 AI2 iI2 B2 A2 p10 p11 p12 f q1 q2 q3 q4 st => ?_)
      refine w_go z_hl [17] [] 30 f.1 ?_
      intro H3 h3
      exact ih H3 _ _ _ B2 A2 (k + 1) _ _ _ _ _ _ (y_st f h3 (by repeat (first | exact w_nil | refine w_cons (Or.inl (y_m rfl)) ?_ | refine w_cons (Or.inr (by assumption)) ?_)) (by repeat (first | exact w_nil | refine w_cons (Or.inl (y_m rfl)) ?_ | refine w_cons (Or.inr (by assumption)) ?_))) q1 q2 q3 q4 ink (by omega) (ap_rd_s (n_apok hW) (by omega) rd st) hK
theorem c_connects {G : aH} (hr : w_hr z_D h) (hc : n_cV h v) (hW : n_Wv v h) (e : y_fr h G [] []) {a b gI : Int32} {s t gN : Nat} (ha : a.toInt = s) (sn : s < (v 128).toInt.toNat) (hb : b.toInt = t) (tn : t < (v 128).toInt.toNat) (st : s ≠ t) (hg : gI.toInt = gN) (g10 : gN < 1024) (yes : n_apt v s t gN = true → ∀ H, y_fr h H [] [] → K0 (some (.int (ap_01 true))) H C S) (no : n_apt v s t gN = false → ∀ H, y_fr h H [] [] → K0 (some (.int (ap_01 false))) H C S) : aOK s_P X (d + 2) a_m63 0 [some (.ref 3), some (.int a), some (.int b), some (.int gI), none, none, none, none, none, none, none, none, none] [] G C S K0 := by
  have g0 := hc.1 128 (by decide)
  have b0 := n_bd (lo := 0) (hi := 10) hr g0 rfl
  have hL := n_apok hW
  have T163 : ∀ {J : aH} {BI AI rI : Int32} {B A : Nat} {o7 o8 o9 o10 o11 o12 : Option Value}, y_fr h J [] [] → BI.toInt = B → B < 1024 → AI.toInt = A → A < 1024 → ap_rd (v 128).toInt.toNat (n_apL v) (fun j => gN.testBit j) s B A 20 → aOK s_P X (d + 2) a_m63 163 [some (.ref 3), some (.int a), some (.int b), some (.int gI), some (.int BI), some (.int AI), some (.int rI), o7, o8, o9, o10, o11, o12] [] J C S K0 := by
    intro J BI AI rI B A o7 o8 o9 o10 o11 o12 f hB B10 hA A10 rd
    obtain ⟨q1, q2⟩ := c_orN hB hA B10 A10
    have m := c_b01 (bits := BI ||| AI) (k := b) (b := B ||| A) (o := t) q1 q2 hb (by omega)
    have ee := (ap_rd_e hL (by omega) tn st rd).trans n_apt_i.symm
    rw [Nat.testBit_or] at m
    refine w_go z_hl [] [] 30 f.1 ?_
    refine ⟨fun z => ⟨by decide, fun H hH => ?_⟩, fun z => ⟨by decide, fun H hH => ?_⟩⟩
    · have z1 : (((BI ||| AI) >>> (b &&& 31)) &&& Int32.ofInt 1).toInt = (0 : Int32).toInt := (y_ci .eq _ _).mp z
      refine no ?_ H (y_st f hH (by repeat (first | exact w_nil | refine w_cons (Or.inl (y_m rfl)) ?_ | refine w_cons (Or.inr (by assumption)) ?_)) (by repeat (first | exact w_nil | refine w_cons (Or.inl (y_m rfl)) ?_ | refine w_cons (Or.inr (by assumption)) ?_)))
      cases w : n_apt v s t gN with
      | false => rfl
      | true =>
        have y := ee.mpr w
        rw [← Bool.or_eq_true] at y
        rw [y, if_pos rfl, z1] at m
        exact absurd m (by decide)
    · have z1 : ¬ ((((BI ||| AI) >>> (b &&& 31)) &&& Int32.ofInt 1).toInt = (0 : Int32).toInt) := y_cif z
      refine yes (ee.mp ?_) H (y_st f hH (by repeat (first | exact w_nil | refine w_cons (Or.inl (y_m rfl)) ?_ | refine w_cons (Or.inr (by assumption)) ?_)) (by repeat (first | exact w_nil | refine w_cons (Or.inl (y_m rfl)) ?_ | refine w_cons (Or.inr (by assumption)) ?_)))
      rw [← Bool.or_eq_true]
      cases w : (B.testBit t || A.testBit t) with
      | true => rfl
      | false =>
        rw [w, if_neg (by decide)] at m
        exact absurd m z1
  have T12 : ∀ {J : aH} {BI r : Int32} {B R : Nat}, y_fr h J [] [] → BI.toInt = B → B < 1024 → (∀ p, B.testBit p = n_apL v s p) → r.toInt = R → R < 1024 → (∀ c, R.testBit c = true ↔ n_apL v c s = true) → aOK s_P X (d + 2) a_m63 12 [some (.ref 3), some (.int a), some (.int b), some (.int gI), some (.int BI), none, none, none, none, none, none, none, none] [.int r] J C S K0 := by
    intro J BI r B R f hB B10 sB hr' R10 sR
    refine w_go z_hl [17] [] 30 f.1 ?_
    intro H hH
    exact c_conn_out (d := d) hr hc hW hg g10 20 H _ _ _ B R 0 _ _ _ _ _ _ (y_st f hH (by repeat (first | exact w_nil | refine w_cons (Or.inl (y_m rfl)) ?_ | refine w_cons (Or.inr (by assumption)) ?_)) (by repeat (first | exact w_nil | refine w_cons (Or.inl (y_m rfl)) ?_ | refine w_cons (Or.inr (by assumption)) ?_))) hB B10 hr' R10 (by decide) (by omega) (ap_rd_0 hL sn (fun p => by rw [sB p]) sR) (fun H2 BI2 AI2 rI2 B2 A2 o7 o8 o9 o10 o11 o12 f2 q1 q2 q3 q4 rd => T163 f2 q1 q2 q3 q4 rd)
  have T5 : ∀ {J : aH} {BI : Int32} {B : Nat}, y_fr h J [] [] → BI.toInt = B → B < 1024 → (∀ p, B.testBit p = n_apL v s p) → aOK s_P X (d + 2) a_m63 5 [some (.ref 3), some (.int a), some (.int b), some (.int gI), none, none, none, none, none, none, none, none, none] [.int BI] J C S K0 := by
    intro J BI B f hB B10 sB
    refine w_go z_hl [] [65] 30 f.1 ?_
    intro H hH
    refine c_leaners (d := d) hr hc hW (y_st f hH (by repeat (first | exact w_nil | refine w_cons (Or.inl (y_m rfl)) ?_ | refine w_cons (Or.inr (by assumption)) ?_)) (by repeat (first | exact w_nil | refine w_cons (Or.inl (y_m rfl)) ?_ | refine w_cons (Or.inr (by assumption)) ?_))) ha sn (fun r R H' f' h1 h2 h3 => ⟨fun n e => (by cases e), ?_⟩)
    exact T12 f' hB B10 sB h1 h2 h3
  refine w_go z_hl [] [64] 30 e.1 ?_
  intro H hH
  refine c_leansOf (d := d + 1) hr hc hW (y_st e hH (by repeat (first | exact w_nil | refine w_cons (Or.inl (y_m rfl)) ?_ | refine w_cons (Or.inr (by assumption)) ?_)) (by repeat (first | exact w_nil | refine w_cons (Or.inl (y_m rfl)) ?_ | refine w_cons (Or.inr (by assumption)) ?_))) ha sn (fun r R H' f' h1 h2 h3 => ⟨fun n e => (by cases e), ?_⟩)
  exact T5 f' h1 h2 h3
/-- what apart() answers -/
noncomputable def n_apa (v : Nat → Int32) (a b g : Int32) : Int32 := @ite Int32 (n_prV (v 128) a b g) (Classical.propDecidable _) (ap_01 (!n_apt v a.toInt.toNat b.toInt.toNat g.toInt.toNat)) (Int32.ofInt (-1))
theorem c_apart (hr : w_hr z_D h) (hc : n_cV h v) (hW : n_Wv v h) {a b g : Int32} (hk : ∀ H, y_fr h H [] [] → K0 (some (.int (n_apa v a b g))) H C S) : aOK s_P X (d + 3) a_m61 0 [some (.ref 2), some (.int a), some (.int b), some (.int g)] [] h C S K0 := by
  have g0 := hc.1 128 (by decide)
  have b0 := n_bd (lo := 0) (hi := 10) hr g0 rfl
  have wl : y_ways (v 128) ≤ 1024 := (y_all b0.1 b0.2).2.2
  have T25 : ∀ {J : aH} {q : Bool}, n_prV (v 128) a b g → n_apt v a.toInt.toNat b.toInt.toNat g.toInt.toNat = q → y_fr h J [] [] → aOK s_P X (d + 3) a_m61 25 [some (.ref 2), some (.int a), some (.int b), some (.int g)] [.int (ap_01 q)] J C S K0 := by
    intro J q pv hq f
    have ev : n_apa v a b g = ap_01 (!q) := by
      unfold n_apa
      rw [if_pos pv, hq]
    rw [ev] at hk
    cases q with
    | true =>
      refine w_go z_hl [] [] 30 f.1 ?_
      exact ⟨fun z => absurd z (by decide), fun _ => fun H hH => hk H (y_st f hH (by repeat (first | exact w_nil | refine w_cons (Or.inl (y_m rfl)) ?_ | refine w_cons (Or.inr (by assumption)) ?_)) (by repeat (first | exact w_nil | refine w_cons (Or.inl (y_m rfl)) ?_ | refine w_cons (Or.inr (by assumption)) ?_)))⟩
    | false =>
      refine w_go z_hl [] [] 30 f.1 ?_
      exact ⟨fun _ => fun H hH => hk H (y_st f hH (by repeat (first | exact w_nil | refine w_cons (Or.inl (y_m rfl)) ?_ | refine w_cons (Or.inr (by assumption)) ?_)) (by repeat (first | exact w_nil | refine w_cons (Or.inl (y_m rfl)) ?_ | refine w_cons (Or.inr (by assumption)) ?_))), fun z => absurd z (by decide)⟩
  have T10 : ∀ {J : aH}, n_prV (v 128) a b g → y_fr h J [] [] → aOK s_P X (d + 3) a_m61 10 [some (.ref 2), some (.int a), some (.int b), some (.int g)] [.int (y_01 true)] J C S K0 := by
    intro J pv f
    obtain ⟨⟨a0, a1⟩, ⟨b1, b2⟩, ne, ⟨g1, g2⟩, -, -⟩ := id pv
    refine w_go z_hl [] [63] 30 f.1 ?_
    refine ⟨fun _ => fun H hH => ?_, fun z => absurd z (by decide)⟩
    refine c_connects (d := d) (s := a.toInt.toNat) (t := b.toInt.toNat) (gN := g.toInt.toNat) hr hc hW (y_st f hH (by repeat (first | exact w_nil | refine w_cons (Or.inl (y_m rfl)) ?_ | refine w_cons (Or.inr (by assumption)) ?_)) (by repeat (first | exact w_nil | refine w_cons (Or.inl (y_m rfl)) ?_ | refine w_cons (Or.inr (by assumption)) ?_))) (by omega) (by omega) (by omega) (by omega) (by omega) (by omega) (by omega) (fun q H' f' => ⟨fun n e => (by cases e), ?_⟩) (fun q H' f' => ⟨fun n e => (by cases e), ?_⟩)
    · exact T25 pv q f'
    · exact T25 pv q f'
  have T10n : ∀ {J : aH}, ¬ n_prV (v 128) a b g → y_fr h J [] [] → aOK s_P X (d + 3) a_m61 10 [some (.ref 2), some (.int a), some (.int b), some (.int g)] [.int (y_01 false)] J C S K0 := by
    intro J pv f
    have ev : n_apa v a b g = Int32.ofInt (-1) := by
      unfold n_apa
      rw [if_neg pv]
    rw [ev] at hk
    refine w_go z_hl [] [] 30 f.1 ?_
    exact ⟨fun z => absurd z (by decide), fun _ => fun H hH => hk H (y_st f hH (by repeat (first | exact w_nil | refine w_cons (Or.inl (y_m rfl)) ?_ | refine w_cons (Or.inr (by assumption)) ?_)) (by repeat (first | exact w_nil | refine w_cons (Or.inl (y_m rfl)) ?_ | refine w_cons (Or.inr (by assumption)) ?_)))⟩
  refine w_go z_hl [] [62] 30 hr ?_
  intro H hH
  refine c_isPair (d := d + 1) (nd := v 128) g0 b0.1 b0.2 (y_st (y_rf hr) hH (by repeat (first | exact w_nil | refine w_cons (Or.inl (y_m rfl)) ?_ | refine w_cons (Or.inr (by assumption)) ?_)) (by repeat (first | exact w_nil | refine w_cons (Or.inl (y_m rfl)) ?_ | refine w_cons (Or.inr (by assumption)) ?_))) (fun pv H' f' => ⟨fun n e => (by cases e), ?_⟩) (fun pv H' f' => ⟨fun n e => (by cases e), ?_⟩)
  · exact T10 pv f'
  · exact T10n pv f'
end NPB
end PT33id
section PT33ie
/-! ===== v15p: the reference's leansOn, isGivenBelow, goesOn, exactly ===== -/
/-- the net, as the reference holds it -/
def ap_m (h : aH) (v : Nat → Int32) : Prop := w_f h 19591 = some (.int (v 128)) ∧ (0 ≤ (v 128).toInt ∧ (v 128).toInt ≤ 10) ∧ w_a h 156 = some (0, .inl (n_ls v 701000 10)) ∧ (∃ fo : List Int32, w_a h 159 = some (0, .inl fo) ∧ ∀ i : Nat, (i : Int) < (v 128).toInt → fo.getD i 0 = v (704000 + i)) ∧ ∀ i : Nat, i < 10 → 0 ≤ (v (701000 + i)).toInt ∧ (v (701000 + i)).toInt ≤ 1023
theorem ap_m_fr {h H : aH} {v : Nat → Int32} {fs as : List Nat} (s : ap_m h v) (e : y_fr h H fs as) (h1 : fs.elem 19591 = false) (h2 : as.elem 156 = false) (h3 : as.elem 159 = false) : ap_m H v := by
  obtain ⟨q1, q2, q3, ⟨fo, q4, q5⟩, q6⟩ := s
  exact ⟨(y_fe e h1).trans q1, q2, (y_ae e h2).trans q3, ⟨fo, (y_ae e h3).trans q4, q5⟩, q6⟩
theorem ap_m_of {h : aH} {v : Nat → Int32} (hr : w_hr z_D h) (hm : n_mV h v) : ap_m h v := by
  have g0 : w_f h 19591 = some (.int (v 128)) := hm.1 (128, 19591) (by decide)
  have b0 := n_bd (lo := 0) (hi := 10) hr g0 rfl
  have m156 : w_a h 156 = some (0, .inl (n_ls v 701000 10)) := hm.2.1.2.2.1
  obtain ⟨fo, f1, f2, f3⟩ := id hm.2.1.2.2.2.2.2.2.1
  obtain ⟨l, l1, l2, l3⟩ := c_arr hr (ob := 156) (n := 10) (lo := 0) (hi := 1023) rfl
  obtain rfl := y_ai m156 l1
  refine ⟨g0, b0, m156, ⟨fo, f1, f3⟩, fun i hi => ?_⟩
  have := l3 _ (z_gd (0 : Int32) (show i < (n_ls v 701000 10).length by rw [l2]; omega))
  rw [n_ls_at hi] at this
  exact this
section NPG
variable {X : aX} {C S d : Nat} {K0 : Option Value → aH → Nat → Nat → Prop} {v : Nat → Int32}
theorem f_leansOn {h : aH} (hr : w_hr z_D h) (m : ap_m h v) {vI oI : Int32} {x o : Nat} (hx : vI.toInt = x) (xn : x < (v 128).toInt.toNat) (ho : oI.toInt = o) (o10 : o < 10) (hK : ∀ (b : Bool) (H : aH), y_fr h H [] [] → n_apL v x o = b → K0 (some (.int (y_01 b))) H C S) : aOK s_P X (d + 1) a_m211 0 [some (.ref 155), some (.int vI), some (.int oI)] [] h C S K0 := by
  obtain ⟨m1, ⟨m2, m3⟩, m4, ⟨fo, m5, m6⟩, m7⟩ := m
  have cx := y_cl1 hx
  have fx := m6 x (by omega)
  have lx := m7 x (by omega)
  have bx := c_b01 (bits := v (701000 + x)) (k := oI) (b := (v (701000 + x)).toInt.toNat) (o := o) (by omega) (by omega) ho o10
  refine w_go z_hl [] [] 60 hr ?_
  refine ⟨⟨by omega, by omega⟩, fun l hl len bb => ?_⟩
  obtain rfl := y_ai m5 hl
  refine ⟨fun q => ⟨by decide, fun H hH => ?_⟩, fun q => ⟨⟨by omega, by omega⟩, fun l2 hl2 len2 bb2 => ?_⟩⟩
  · have q1 : (0 : Int32).toInt ≤ (fo.getD vI.toNatClampNeg 0).toInt := (y_ci .ge _ _).mp q
    rw [cx, fx] at q1
    have q2 : 0 ≤ (v (704000 + x)).toInt := q1
    refine hK false H (y_st (y_rf hr) hH (by repeat (first | exact w_nil | refine w_cons (Or.inl (y_m rfl)) ?_ | refine w_cons (Or.inr (by assumption)) ?_)) (by repeat (first | exact w_nil | refine w_cons (Or.inl (y_m rfl)) ?_ | refine w_cons (Or.inr (by assumption)) ?_))) ?_
    unfold n_apL
    rw [decide_eq_true xn, decide_eq_false (by omega)]
    rfl
  · have q1 : ¬ ((0 : Int32).toInt ≤ (fo.getD vI.toNatClampNeg 0).toInt) := y_cif q
    rw [cx, fx] at q1
    have q2 : ¬ (0 ≤ (v (704000 + x)).toInt) := q1
    obtain rfl := y_ai m4 hl2
    have el : (n_ls v 701000 10).getD vI.toNatClampNeg 0 = v (701000 + x) := by rw [cx, n_ls_at (by omega)]
    have ev : n_apL v x o = (v (701000 + x)).toInt.toNat.testBit o := by
      unfold n_apL
      rw [decide_eq_true xn, decide_eq_true (show (v (704000 + x)).toInt < 0 by omega)]
      rfl
    refine ⟨fun q3 => ⟨by decide, ⟨fun _ => ⟨by decide, fun H hH => ?_⟩, fun q => absurd q (by decide)⟩⟩, fun q3 => ⟨by decide, ⟨fun q => absurd q (by decide), fun _ => ⟨by decide, fun H hH => ?_⟩⟩⟩⟩
    · have q4 : (((n_ls v 701000 10).getD vI.toNatClampNeg 0 >>> (oI &&& 31)) &&& Int32.ofInt 1).toInt ≠ (Int32.ofInt 1).toInt := (y_ci .ne _ _).mp q3
      rw [el, bx] at q4
      refine hK false H (y_st (y_rf hr) hH (by repeat (first | exact w_nil | refine w_cons (Or.inl (y_m rfl)) ?_ | refine w_cons (Or.inr (by assumption)) ?_)) (by repeat (first | exact w_nil | refine w_cons (Or.inl (y_m rfl)) ?_ | refine w_cons (Or.inr (by assumption)) ?_))) ?_
      rw [ev]
      cases w : (v (701000 + x)).toInt.toNat.testBit o with
      | false => rfl
      | true =>
        rw [w, if_pos rfl] at q4
        exact absurd (by decide) q4
    · have q4 : ¬ ((((n_ls v 701000 10).getD vI.toNatClampNeg 0 >>> (oI &&& 31)) &&& Int32.ofInt 1).toInt ≠ (Int32.ofInt 1).toInt) := y_cif q3
      have q5 := Decidable.not_not.mp q4
      rw [el, bx] at q5
      refine hK true H (y_st (y_rf hr) hH (by repeat (first | exact w_nil | refine w_cons (Or.inl (y_m rfl)) ?_ | refine w_cons (Or.inr (by assumption)) ?_)) (by repeat (first | exact w_nil | refine w_cons (Or.inl (y_m rfl)) ?_ | refine w_cons (Or.inr (by assumption)) ?_))) ?_
      rw [ev]
      cases w : (v (701000 + x)).toInt.toNat.testBit o with
      | true => rfl
      | false =>
        rw [w, if_neg (by decide)] at q5
        exact absurd q5 (by decide)
/-- what is known to lie below x: in round r, at node w, up to o -/
def ap_gi (n : Nat) (L : Nat → Nat → Bool) (x T r w o : Nat) : Prop := (∀ y, T.testBit y = true → ap_de L x y) ∧ (∀ y, y < n → ap_de L x y → (0 < r ∨ y < w) → T.testBit y = true) ∧ (∀ p, p < o → T.testBit p = true → L w p = true → T.testBit w = true) ∧ T.testBit x = true
theorem ap_gi_o {n : Nat} {L : Nat → Nat → Bool} {x T r w o : Nat} (hL : ap_ok n L) (q : ap_gi n L x T r w o) (h1 : T.testBit o = true) (h2 : L w o = true) : ap_gi n L x (T ||| 2 ^ w) r w (o + 1) := by
  obtain ⟨q1, q2, q3, q4⟩ := q
  have t2 : ∀ y, (T ||| 2 ^ w).testBit y = true ↔ T.testBit y = true ∨ w = y := fun y => by
    rw [Nat.testBit_or, Bool.or_eq_true, Nat.testBit_two_pow, decide_eq_true_eq]
  refine ⟨fun y h => ?_, fun y hy hd hz => (t2 y).mpr (Or.inl (q2 y hy hd hz)), fun p _ _ _ => (t2 w).mpr (Or.inr rfl), (t2 x).mpr (Or.inl q4)⟩
  rcases (t2 y).mp h with h | h
  · exact q1 y h
  · rw [← h]
    exact ap_de_s (q1 o h1) h2
theorem ap_gi_n {n : Nat} {L : Nat → Nat → Bool} {x T r w o : Nat} (q : ap_gi n L x T r w o) (h : ¬ (T.testBit o = true ∧ L w o = true)) : ap_gi n L x T r w (o + 1) := by
  obtain ⟨q1, q2, q3, q4⟩ := q
  refine ⟨q1, q2, fun p hp h1 h2 => ?_, q4⟩
  by_cases z : p = o
  · rw [z] at h1 h2
    exact absurd ⟨h1, h2⟩ h
  · exact q3 p (by omega) h1 h2
theorem ap_gi_w {n : Nat} {L : Nat → Nat → Bool} {x T r w : Nat} (hL : ap_ok n L) (q : ap_gi n L x T r w n) : ap_gi n L x T r (w + 1) 0 := by
  obtain ⟨q1, q2, q3, q4⟩ := q
  refine ⟨q1, fun y hy hd hz => ?_, fun p hp => absurd hp (Nat.not_lt_zero p), q4⟩
  by_cases z : 0 < r ∨ y < w
  · exact q2 y hy hd z
  · have e : y = w := by omega
    obtain ⟨k, hk⟩ := hd
    cases k with
    | zero =>
      have hk : y = x := hk
      rw [hk]
      exact q4
    | succ k =>
      obtain ⟨o, h1, h2⟩ := hk
      have l := hL y o h1
      have t := q2 o (by omega) ⟨k, h2⟩ (Or.inr (by omega))
      rw [e] at h1 ⊢
      exact q3 o (by omega) t h1
theorem ap_gi_r {n : Nat} {L : Nat → Nat → Bool} {x T r : Nat} (q : ap_gi n L x T r n 0) : ap_gi n L x T (r + 1) 0 0 := ⟨q.1, fun y hy hd _ => q.2.1 y hy hd (Or.inr hy), fun p hp => absurd hp (Nat.not_lt_zero p), q.2.2.2⟩
theorem ap_gi_e {n : Nat} {L : Nat → Nat → Bool} {g x T r : Nat} (hL : ap_ok n L) (hx : x < n) (r0 : 0 < r) (q : ap_gi n L x T r 0 0) : (T &&& g ≠ 0) ↔ ap_GB L (fun j => g.testBit j) x := by
  obtain ⟨q1, q2, q3, q4⟩ := q
  constructor
  · intro h
    obtain ⟨y, hy⟩ : ∃ y, (T &&& g).testBit y = true := by
      by_cases z : ∃ y, (T &&& g).testBit y = true
      · exact z
      · refine absurd (Nat.eq_of_testBit_eq (fun y => ?_)) h
        rw [Nat.zero_testBit]
        cases w : (T &&& g).testBit y with
        | false => rfl
        | true => exact absurd ⟨y, w⟩ z
    rw [Nat.testBit_and, Bool.and_eq_true] at hy
    exact ⟨y, q1 y hy.1, hy.2⟩
  · rintro ⟨y, hd, hg⟩ h
    have hd2 := hd
    obtain ⟨k, hk⟩ := hd2
    have l := ap_de_lt hL hx hk
    have t := q2 y l.2 hd (Or.inl r0)
    have b : (T &&& g).testBit y = true := by
      rw [Nat.testBit_and, t]
      exact hg
    rw [h, Nat.zero_testBit] at b
    cases b
theorem f_given_loop {node gv : Int32} {x gN : Nat} (hL : ap_ok (v 128).toInt.toNat (n_apL v)) (xn : x < (v 128).toInt.toNat) (hg : gv.toInt = gN) : ∀ (M : Nat) (h : aH) (its rI vI oI : Int32) (T r w o : Nat), w_hr z_D h → ap_m h v → its.toInt = T → T < 1024 → rI.toInt = r → r < (v 128).toInt.toNat → vI.toInt = w → w < (v 128).toInt.toNat → oI.toInt = o → o ≤ (v 128).toInt.toNat → (((v 128).toInt.toNat - r) * 12 + ((v 128).toInt.toNat - w)) * 12 + ((v 128).toInt.toNat - o) ≤ M → ap_gi (v 128).toInt.toNat (n_apL v) x T r w o →
    (∀ (b : Bool) (H : aH), y_fr h H [] [] → (b = true ↔ ap_GB (n_apL v) (fun j => gN.testBit j) x) → K0 (some (.int (ap_01 b))) H C S) →
    aOK s_P X (d + 2) a_m212 31 [some (.ref 155), some (.int node), some (.int gv), some (.int its), some (.int rI), some (.int vI), some (.int oI)] [] h C S K0 := by
  intro M
  induction M with
  | zero =>
    intro h its rI vI oI T r w o hr m hT T10 hr1 r1 hv1 w1 ho1 o1 hM gi hK
    omega
  | succ M ih =>
    intro h its rI vI oI T r w o hr m hT T10 hr1 r1 hv1 w1 ho1 o1 hM gi hK
    obtain ⟨m1, ⟨m2, m3⟩, -⟩ := id m
    have ir : (rI + Int32.ofInt 1).toInt = ((r + 1 : Nat) : Int) := by rw [y_inc (by omega), hr1]; rfl
    have iv : (vI + Int32.ofInt 1).toInt = ((w + 1 : Nat) : Int) := by rw [y_inc (by omega), hv1]; rfl
    have z0 : (Int32.ofInt 0).toInt = ((0 : Nat) : Int) := by decide
    have again : ∀ {H : aH} {its' r' v' o' : Int32} {T' rN wN oN : Nat}, y_fr h H [] [] → its'.toInt = T' → T' < 1024 → r'.toInt = rN → rN < (v 128).toInt.toNat → v'.toInt = wN → wN < (v 128).toInt.toNat → o'.toInt = oN → oN ≤ (v 128).toInt.toNat → (((v 128).toInt.toNat - rN) * 12 + ((v 128).toInt.toNat - wN)) * 12 + ((v 128).toInt.toNat - oN) ≤ M → ap_gi (v 128).toInt.toNat (n_apL v) x T' rN wN oN → aOK s_P X (d + 2) a_m212 31 [some (.ref 155), some (.int node), some (.int gv), some (.int its'), some (.int r'), some (.int v'), some (.int o')] [] H C S K0 := fun e a1 a2 a3 a4 a5 a6 a7 a8 a9 a10 => ih _ _ _ _ _ _ _ _ _ e.1 (ap_m_fr m e rfl rfl rfl) a1 a2 a3 a4 a5 a6 a7 a8 a9 a10 (fun b H' f q => hK b H' (y_sq e f rfl rfl) q)
    have T69 : ∀ {G : aH} {y : Int32} {Y : Nat}, y_fr h G [] [] → y.toInt = Y → Y < 1024 → o < (v 128).toInt.toNat → ap_gi (v 128).toInt.toNat (n_apL v) x (T ||| Y) r w (o + 1) → aOK s_P X (d + 2) a_m212 69 [some (.ref 155), some (.int node), some (.int gv), some (.int its), some (.int rI), some (.int vI), some (.int oI)] [.int y, .int its] G C S K0 := by
      intro G y Y e hy Y10 ho gi'
      have io : (oI + Int32.ofInt 1).toInt = ((o + 1 : Nat) : Int) := by rw [y_inc (by omega), ho1]; rfl
      obtain ⟨q1, q2⟩ := c_orN hT hy T10 Y10
      refine w_go z_hl [31] [] 30 e.1 ?_
      intro H hH
      exact again (y_st e hH (by repeat (first | exact w_nil | refine w_cons (Or.inl (y_m rfl)) ?_ | refine w_cons (Or.inr (by assumption)) ?_)) (by repeat (first | exact w_nil | refine w_cons (Or.inl (y_m rfl)) ?_ | refine w_cons (Or.inr (by assumption)) ?_))) q1 q2 hr1 r1 hv1 w1 io (by omega) (by omega) gi'
    have T69n : ∀ {G : aH}, y_fr h G [] [] → o < (v 128).toInt.toNat → ¬ (T.testBit o = true ∧ n_apL v w o = true) → aOK s_P X (d + 2) a_m212 69 [some (.ref 155), some (.int node), some (.int gv), some (.int its), some (.int rI), some (.int vI), some (.int oI)] [.int (Int32.ofInt 0), .int its] G C S K0 := by
      intro G e ho nc
      refine T69 (Y := 0) e z0 (by decide) ho ?_
      rw [Nat.or_zero]
      exact ap_gi_n gi nc
    have T58 : ∀ {G : aH} {b : Bool}, y_fr h G [] [] → o < (v 128).toInt.toNat → T.testBit o = true → n_apL v w o = b → aOK s_P X (d + 2) a_m212 58 [some (.ref 155), some (.int node), some (.int gv), some (.int its), some (.int rI), some (.int vI), some (.int oI)] [.int (y_01 b), .int its] G C S K0 := by
      intro G b e ho hto hb
      cases b with
      | true =>
        have sh := c_shlN (x := vI) hv1 (by omega)
        have p2 : 2 ^ w < 2 ^ 10 := Nat.pow_lt_pow_right (by decide) (by omega)
        refine w_go z_hl [69] [] 30 e.1 ?_
        exact ⟨fun q => absurd q (by decide), fun _ => fun H hH => T69 (Y := 2 ^ w) (y_st e hH (by repeat (first | exact w_nil | refine w_cons (Or.inl (y_m rfl)) ?_ | refine w_cons (Or.inr (by assumption)) ?_)) (by repeat (first | exact w_nil | refine w_cons (Or.inl (y_m rfl)) ?_ | refine w_cons (Or.inr (by assumption)) ?_))) sh (by omega) ho (ap_gi_o hL gi hto hb)⟩
      | false =>
        refine w_go z_hl [69] [] 30 e.1 ?_
        refine ⟨fun _ => fun H hH => T69n (y_st e hH (by repeat (first | exact w_nil | refine w_cons (Or.inl (y_m rfl)) ?_ | refine w_cons (Or.inr (by assumption)) ?_)) (by repeat (first | exact w_nil | refine w_cons (Or.inl (y_m rfl)) ?_ | refine w_cons (Or.inr (by assumption)) ?_))) ho (fun z => ?_), fun q => absurd q (by decide)⟩
        rw [hb] at z
        cases z.2
    have bo : o < (v 128).toInt.toNat → ((its >>> (oI &&& 31)) &&& Int32.ofInt 1).toInt = (if T.testBit o then 1 else 0 : Nat) := fun ho => c_b01 hT T10 ho1 (by omega)
    refine w_go z_hl [31, 69] [211] 60 hr ?_
    intro y hy _ _
    obtain rfl := y_fi m1 hy
    refine ⟨fun q => ?_, fun q => ?_⟩
    · have q2 : (v 128).toInt ≤ oI.toInt := (y_ci .ge _ _).mp q
      have eo : o = (v 128).toInt.toNat := by omega
      rw [eo] at gi
      have gw := ap_gi_w hL gi
      refine ⟨fun q3 => ?_, fun q3 => fun H hH => ?_⟩
      · have q4 : (v 128).toInt ≤ (vI + Int32.ofInt 1).toInt := (y_ci .ge _ _).mp q3
        have ew : w + 1 = (v 128).toInt.toNat := by omega
        rw [ew] at gw
        have gr := ap_gi_r gw
        have ee := ap_gi_e (g := gN) hL xn (by omega) gr
        have an := c_and hT hg
        refine ⟨fun q5 => ⟨fun q6 => ⟨by decide, fun H hH => ?_⟩, fun q6 => ⟨by decide, fun H hH => ?_⟩⟩, fun q5 => ⟨fun q7 => ?_, fun q7 => fun H hH => ?_⟩⟩
        · have q7 : (its &&& gv).toInt = (0 : Int32).toInt := (y_ci .eq _ _).mp q6
          have q8 : (its &&& gv).toInt = 0 := q7
          refine hK false H (y_st (y_rf hr) hH (by repeat (first | exact w_nil | refine w_cons (Or.inl (y_m rfl)) ?_ | refine w_cons (Or.inr (by assumption)) ?_)) (by repeat (first | exact w_nil | refine w_cons (Or.inl (y_m rfl)) ?_ | refine w_cons (Or.inr (by assumption)) ?_))) ⟨fun z => absurd z (by decide), fun z => ?_⟩
          have := ee.mpr z
          omega
        · have q7 : ¬ ((its &&& gv).toInt = (0 : Int32).toInt) := y_cif q6
          have q8 : ¬ ((its &&& gv).toInt = 0) := q7
          exact hK true H (y_st (y_rf hr) hH (by repeat (first | exact w_nil | refine w_cons (Or.inl (y_m rfl)) ?_ | refine w_cons (Or.inr (by assumption)) ?_)) (by repeat (first | exact w_nil | refine w_cons (Or.inl (y_m rfl)) ?_ | refine w_cons (Or.inr (by assumption)) ?_))) ⟨fun _ => ee.mp (by omega), fun _ => rfl⟩
        · have q6 : (v 128).toInt ≤ (Int32.ofInt 0).toInt := (y_ci .ge _ _).mp q7
          rw [z0] at q6
          exfalso
          omega
        · have q6 : ¬ ((v 128).toInt ≤ (rI + Int32.ofInt 1).toInt) := y_cif q5
          exact again (y_st (y_rf hr) hH (by repeat (first | exact w_nil | refine w_cons (Or.inl (y_m rfl)) ?_ | refine w_cons (Or.inr (by assumption)) ?_)) (by repeat (first | exact w_nil | refine w_cons (Or.inl (y_m rfl)) ?_ | refine w_cons (Or.inr (by assumption)) ?_))) hT T10 ir (by omega) z0 (by omega) z0 (by omega) (by omega) gr
      · have q4 : ¬ ((v 128).toInt ≤ (vI + Int32.ofInt 1).toInt) := y_cif q3
        exact again (y_st (y_rf hr) hH (by repeat (first | exact w_nil | refine w_cons (Or.inl (y_m rfl)) ?_ | refine w_cons (Or.inr (by assumption)) ?_)) (by repeat (first | exact w_nil | refine w_cons (Or.inl (y_m rfl)) ?_ | refine w_cons (Or.inr (by assumption)) ?_))) hT T10 hr1 r1 iv (by omega) z0 (by omega) (by omega) gw
    · have q2 : ¬ ((v 128).toInt ≤ oI.toInt) := y_cif q
      have on : o < (v 128).toInt.toNat := by omega
      have b1 := bo on
      have lO : ∀ {H : aH}, y_fr h H [] [] → T.testBit o = true → aOK s_P X (d + 1) a_m211 0 [some (.ref 155), some (.int vI), some (.int oI)] [] H C S (w_KF s_P X K0 (d + 1) [(a_m212, 58, [some (.ref 155), some (.int node), some (.int gv), some (.int its), some (.int rI), some (.int vI), some (.int oI)], [.int its])]) := by
        intro H e ht
        refine f_leansOn e.1 (ap_m_fr m e rfl rfl rfl) hv1 w1 ho1 (by omega) (fun b H2 e2 hb => ⟨fun n e => (by cases e), ?_⟩)
        exact T58 (y_sq e e2 rfl rfl) on ht hb
      refine ⟨fun q3 => ⟨by decide, ⟨fun _ => fun H hH => T69n (y_st (y_rf hr) hH (by repeat (first | exact w_nil | refine w_cons (Or.inl (y_m rfl)) ?_ | refine w_cons (Or.inr (by assumption)) ?_)) (by repeat (first | exact w_nil | refine w_cons (Or.inl (y_m rfl)) ?_ | refine w_cons (Or.inr (by assumption)) ?_))) on (fun z => ?_), fun q => absurd q (by decide)⟩⟩, fun q3 => ⟨by decide, ⟨fun q => absurd q (by decide), fun _ => fun H hH => lO (y_st (y_rf hr) hH (by repeat (first | exact w_nil | refine w_cons (Or.inl (y_m rfl)) ?_ | refine w_cons (Or.inr (by assumption)) ?_)) (by repeat (first | exact w_nil | refine w_cons (Or.inl (y_m rfl)) ?_ | refine w_cons (Or.inr (by assumption)) ?_))) ?_⟩⟩⟩
      · have q4 : ((its >>> (oI &&& 31)) &&& Int32.ofInt 1).toInt ≠ (Int32.ofInt 1).toInt := (y_ci .ne _ _).mp q3
        rw [b1, z.1, if_pos rfl] at q4
        exact absurd (by decide) q4
      · have q4 : ¬ (((its >>> (oI &&& 31)) &&& Int32.ofInt 1).toInt ≠ (Int32.ofInt 1).toInt) := y_cif q3
        have q5 := Decidable.not_not.mp q4
        rw [b1] at q5
        cases w2 : T.testBit o with
        | true => rfl
        | false =>
          rw [w2, if_neg (by decide)] at q5
          exact absurd q5 (by decide)
theorem f_given {h : aH} (hr : w_hr z_D h) (m : ap_m h v) (hL : ap_ok (v 128).toInt.toNat (n_apL v)) {node gv : Int32} {x gN : Nat} (hx : node.toInt = x) (xn : x < (v 128).toInt.toNat) (hg : gv.toInt = gN) (hK : ∀ (b : Bool) (H : aH), y_fr h H [] [] → (b = true ↔ ap_GB (n_apL v) (fun j => gN.testBit j) x) → K0 (some (.int (ap_01 b))) H C S) : aOK s_P X (d + 2) a_m212 0 [some (.ref 155), some (.int node), some (.int gv), none, none, none, none] [] h C S K0 := by
  obtain ⟨m1, ⟨m2, m3⟩, -⟩ := id m
  have z0 : (Int32.ofInt 0).toInt = ((0 : Nat) : Int) := by decide
  have sh := c_shlN (x := node) hx (by omega)
  have p2 : 2 ^ x < 2 ^ 10 := Nat.pow_lt_pow_right (by decide) (by omega)
  refine w_go z_hl [31] [] 60 hr ?_
  intro y hy _ _
  obtain rfl := y_fi m1 hy
  refine ⟨fun q => ?_, fun q => ⟨fun q7 => ?_, fun q7 => fun H hH => ?_⟩⟩
  · have q8 : (v 128).toInt ≤ (Int32.ofInt 0).toInt := (y_ci .ge _ _).mp q
    rw [z0] at q8
    exfalso
    omega
  · have q8 : (v 128).toInt ≤ (Int32.ofInt 0).toInt := (y_ci .ge _ _).mp q7
    rw [z0] at q8
    exfalso
    omega
  · have e : y_fr h H [] [] := y_st (y_rf hr) hH (by repeat (first | exact w_nil | refine w_cons (Or.inl (y_m rfl)) ?_ | refine w_cons (Or.inr (by assumption)) ?_)) (by repeat (first | exact w_nil | refine w_cons (Or.inl (y_m rfl)) ?_ | refine w_cons (Or.inr (by assumption)) ?_))
    refine f_given_loop hL xn hg 2000 H _ _ _ _ (2 ^ x) 0 0 0 e.1 (ap_m_fr m e rfl rfl rfl) sh (by omega) z0 (by omega) z0 (by omega) z0 (by omega) (by omega) ⟨fun y hy => ?_, fun y _ _ hz => absurd hz (by omega), fun p hp => absurd hp (Nat.not_lt_zero p), ?_⟩ (fun b H' f q => hK b H' (y_sq e f rfl rfl) q)
    · rw [Nat.testBit_two_pow, decide_eq_true_eq] at hy
      rw [← hy]
      exact ap_de_0
    · exact Nat.testBit_two_pow_self
theorem ap_01_b (b : Bool) : 0 ≤ (ap_01 b).toInt ∧ (ap_01 b).toInt ≤ 1 := by
  cases b <;> exact ⟨by decide, by decide⟩
/-- from where it comes -/
def ap_f (f : Int32) (p : Option Nat) : Prop := (p = none ∧ f.toInt < 0) ∨ ∃ k : Nat, p = some k ∧ f.toInt = k ∧ k < 10
/-- which nodes are on the row -/
def ap_on (l : List Int32) (j : Nat) : Prop := l.getD j 0 ≠ 0
theorem ap_on_0 {j : Nat} : ap_on (List.replicate 10 0) j ↔ False := by
  unfold ap_on
  rw [List.getD_eq_getElem?_getD, List.getElem?_replicate]
  constructor
  · intro h
    refine absurd ?_ h
    split <;> rfl
  · exact fun h => h.elim
def f_GO (X : aX) (C S d : Nat) (v : Nat → Int32) (N : Nat) : Prop := ∀ (h : aH) (from' here end' gv : Int32) (f : Option Nat) (p e gN : Nat) (l : List Int32) (K0 : Option Value → aH → Nat → Nat → Prop), w_hr z_D h → ap_m h v → w_a h 164 = some (2, .inl l) → l.length = 10 → here.toInt = p → p < (v 128).toInt.toNat → l.getD p 0 = 0 → ap_f from' f → end'.toInt = e → gv.toInt = gN → gN < 1024 → y_z (l.set p (Int32.ofInt 1)) 10 ≤ N →
    (∀ (b : Bool) (H : aH), y_fr h H [] [164] → w_a H 164 = some (2, .inl l) → (b = true ↔ ∃ q, ap_R (v 128).toInt.toNat (n_apL v) (fun j => gN.testBit j) e (ap_on l) f p q) → K0 (some (.int (ap_01 b))) H C S) →
    aOK s_P X (N + d + 3) a_m210 0 [some (.ref 155), some (.int from'), some (.int here), some (.int end'), some (.int gv), none, none, none, none] [] h C S K0
/-- a next node from which it goes on -/
def ap_nx (n : Nat) (L : Nat → Nat → Bool) (g : Nat → Bool) (e : Nat) (l1 : List Int32) (f : Option Nat) (p x : Nat) : Prop := ¬ ap_on l1 x ∧ (L p x = true ∨ L x p = true) ∧ (∀ k, f = some k → ap_fr L g k p x) ∧ ∃ q, ap_R n L g e (ap_on l1) (some p) x q
theorem f_goes_loop {N : Nat} (hL : ap_ok (v 128).toInt.toNat (n_apL v)) (ih : ∀ N', N = N' + 1 → f_GO X C S d v N') {from' here end' gv : Int32} {f : Option Nat} {p e gN : Nat} {l1 : List Int32} (hl1 : l1.length = 10) (hp : here.toInt = p) (pn : p < (v 128).toInt.toNat) (hf : ap_f from' f) (he : end'.toInt = e) (hg : gv.toInt = gN) (g10 : gN < 1024) (hz : y_z l1 10 ≤ N) : ∀ (t : Nat) (h : aH) (is : Bool) (nI : Int32) (k : Nat) (o7 o8 : Option Value), w_hr z_D h → ap_m h v → w_a h 164 = some (2, .inl l1) → nI.toInt = k → k + t = (v 128).toInt.toNat → (is = true ↔ ∃ x, x < k ∧ ap_nx (v 128).toInt.toNat (n_apL v) (fun j => gN.testBit j) e l1 f p x) →
    (∀ (b : Bool) (H : aH), y_fr h H [] [164] → w_a H 164 = some (2, .inl (l1.set p (Int32.ofInt 0))) → (b = true ↔ ∃ x, x < (v 128).toInt.toNat ∧ ap_nx (v 128).toInt.toNat (n_apL v) (fun j => gN.testBit j) e l1 f p x) → K0 (some (.int (ap_01 b))) H C S) →
    aOK s_P X (N + d + 3) a_m210 20 [some (.ref 155), some (.int from'), some (.int here), some (.int end'), some (.int gv), some (.int (ap_01 is)), some (.int nI), o7, o8] [] h C S K0 := by
  intro t
  induction t with
  | zero =>
    intro h is nI k o7 o8 hr m g2 hk hkt his hK
    obtain ⟨m1, ⟨m2, m3⟩, -⟩ := id m
    have ek : k = (v 128).toInt.toNat := by omega
    rw [ek] at his
    have T162 : ∀ {G : aH}, y_fr h G [] [] → aOK s_P X (N + d + 3) a_m210 162 [some (.ref 155), some (.int from'), some (.int here), some (.int end'), some (.int gv), some (.int (ap_01 is)), some (.int nI), o7, o8] [] G C S K0 := by
      intro G e
      refine w_go z_hl [] [] 30 e.1 ?_
      refine ⟨⟨by omega, by omega⟩, by decide, fun l hl len bb => ?_⟩
      obtain rfl := y_ai ((y_ae e rfl).trans g2) hl
      refine ⟨ap_01_b is, fun H hH => ?_⟩
      have A := hH.2.2.1 164 _ rfl
      rw [y_cl1 hp] at A
      exact hK _ H (y_st (y_mo e rfl rfl) hH (by repeat (first | exact w_nil | refine w_cons (Or.inl (y_m rfl)) ?_ | refine w_cons (Or.inr (by assumption)) ?_)) (by repeat (first | exact w_nil | refine w_cons (Or.inl (y_m rfl)) ?_ | refine w_cons (Or.inr (by assumption)) ?_))) A his
    refine w_go z_hl [20, 162] [] 30 hr ?_
    intro x hx _ _
    obtain rfl := y_fi m1 hx
    refine ⟨fun _ => fun H hH => T162 (y_st (y_rf hr) hH (by repeat (first | exact w_nil | refine w_cons (Or.inl (y_m rfl)) ?_ | refine w_cons (Or.inr (by assumption)) ?_)) (by repeat (first | exact w_nil | refine w_cons (Or.inl (y_m rfl)) ?_ | refine w_cons (Or.inr (by assumption)) ?_))), fun q => ?_⟩
    have : ¬ ((v 128).toInt ≤ nI.toInt) := y_cif q
    exfalso
    omega
  | succ t iht =>
    intro h is nI k o7 o8 hr m g2 hk hkt his hK
    obtain ⟨m1, ⟨m2, m3⟩, -⟩ := id m
    have ink : (nI + Int32.ofInt 1).toInt = ((k + 1 : Nat) : Int) := by rw [y_inc (by omega), hk]; rfl
    have kc := y_cl1 hk
    have kn : k < (v 128).toInt.toNat := by omega
    cases is with
    | true =>
      -- found: the loop ends
      have T162 : ∀ {G : aH}, y_fr h G [] [] → aOK s_P X (N + d + 3) a_m210 162 [some (.ref 155), some (.int from'), some (.int here), some (.int end'), some (.int gv), some (.int (ap_01 true)), some (.int nI), o7, o8] [] G C S K0 := by
        intro G e
        refine w_go z_hl [] [] 30 e.1 ?_
        refine ⟨⟨by omega, by omega⟩, by decide, fun l hl len bb => ?_⟩
        obtain rfl := y_ai ((y_ae e rfl).trans g2) hl
        refine ⟨ap_01_b true, fun H hH => ?_⟩
        have A := hH.2.2.1 164 _ rfl
        rw [y_cl1 hp] at A
        refine hK true H (y_st (y_mo e rfl rfl) hH (by repeat (first | exact w_nil | refine w_cons (Or.inl (y_m rfl)) ?_ | refine w_cons (Or.inr (by assumption)) ?_)) (by repeat (first | exact w_nil | refine w_cons (Or.inl (y_m rfl)) ?_ | refine w_cons (Or.inr (by assumption)) ?_))) A ⟨fun _ => ?_, fun _ => rfl⟩
        obtain ⟨x, x1, x2⟩ := his.mp rfl
        exact ⟨x, by omega, x2⟩
      refine w_go z_hl [20, 162] [] 40 hr ?_
      intro x hx _ _
      obtain rfl := y_fi m1 hx
      refine ⟨fun q => ?_, fun _ => ⟨fun _ => fun H hH => T162 (y_st (y_rf hr) hH (by repeat (first | exact w_nil | refine w_cons (Or.inl (y_m rfl)) ?_ | refine w_cons (Or.inr (by assumption)) ?_)) (by repeat (first | exact w_nil | refine w_cons (Or.inl (y_m rfl)) ?_ | refine w_cons (Or.inr (by assumption)) ?_))), fun q => absurd q (by decide)⟩⟩
      have : (v 128).toInt ≤ nI.toInt := (y_ci .ge _ _).mp q
      exfalso
      omega
    | false =>
      have nof : ¬ ∃ x, x < k ∧ ap_nx (v 128).toInt.toNat (n_apL v) (fun j => gN.testBit j) e l1 f p x := fun z => absurd (his.mpr z) (by decide)
      have next : ∀ {G : aH} {is' : Bool} {o7 o8 : Option Value}, y_fr h G [] [164] → w_a G 164 = some (2, .inl l1) → (is' = true ↔ ap_nx (v 128).toInt.toNat (n_apL v) (fun j => gN.testBit j) e l1 f p k) → aOK s_P X (N + d + 3) a_m210 156 [some (.ref 155), some (.int from'), some (.int here), some (.int end'), some (.int gv), some (.int (ap_01 is')), some (.int nI), o7, o8] [] G C S K0 := by
        intro G is' o7 o8 e a hi'
        refine w_go z_hl [20] [] 30 e.1 ?_
        intro H hH
        have fr : y_fr G H [] [] := y_st (y_rf e.1) hH (by repeat (first | exact w_nil | refine w_cons (Or.inl (y_m rfl)) ?_ | refine w_cons (Or.inr (by assumption)) ?_)) (by repeat (first | exact w_nil | refine w_cons (Or.inl (y_m rfl)) ?_ | refine w_cons (Or.inr (by assumption)) ?_))
        have e2 := y_sq e fr rfl rfl
        refine iht H is' _ (k + 1) _ _ e2.1 (ap_m_fr m e2 rfl rfl rfl) ((y_ae fr rfl).trans a) ink (by omega) ?_ (fun b H' u1 u2 u3 => hK b H' (y_sq e2 u1 rfl rfl) u2 u3)
        rw [hi']
        constructor
        · intro z
          exact ⟨k, by omega, z⟩
        · rintro ⟨x, x1, x2⟩
          by_cases y : x = k
          · rw [y] at x2
            exact x2
          · exact absurd ⟨x, by omega, x2⟩ nof
      have nxt0 : ∀ {G : aH} {o7 o8 : Option Value}, y_fr h G [] [] → ¬ ap_nx (v 128).toInt.toNat (n_apL v) (fun j => gN.testBit j) e l1 f p k → aOK s_P X (N + d + 3) a_m210 156 [some (.ref 155), some (.int from'), some (.int here), some (.int end'), some (.int gv), some (.int (ap_01 false)), some (.int nI), o7, o8] [] G C S K0 := fun e nz => next (is' := false) (y_mo e rfl rfl) ((y_ae e rfl).trans g2) ⟨fun z => absurd z (by decide), fun z => absurd z nz⟩
      have T146 : ∀ {G : aH} {b : Bool} {o7 o8 : Option Value}, y_fr h G [] [164] → w_a G 164 = some (2, .inl l1) → (b = true ↔ ap_nx (v 128).toInt.toNat (n_apL v) (fun j => gN.testBit j) e l1 f p k) → aOK s_P X (N + d + 3) a_m210 146 [some (.ref 155), some (.int from'), some (.int here), some (.int end'), some (.int gv), some (.int (ap_01 false)), some (.int nI), o7, o8] [.int (ap_01 b)] G C S K0 := by
        intro G b o7 o8 e a hb
        cases b with
        | true =>
          refine w_go z_hl [156] [] 30 e.1 ?_
          refine ⟨fun q => absurd q (by decide), fun _ => fun H hH => ?_⟩
          have fr : y_fr G H [] [] := y_st (y_rf e.1) hH (by repeat (first | exact w_nil | refine w_cons (Or.inl (y_m rfl)) ?_ | refine w_cons (Or.inr (by assumption)) ?_)) (by repeat (first | exact w_nil | refine w_cons (Or.inl (y_m rfl)) ?_ | refine w_cons (Or.inr (by assumption)) ?_))
          exact next (is' := true) (y_sq e fr rfl rfl) ((y_ae fr rfl).trans a) hb
        | false =>
          refine w_go z_hl [156] [] 30 e.1 ?_
          refine ⟨fun _ => fun H hH => ?_, fun q => absurd q (by decide)⟩
          have fr : y_fr G H [] [] := y_st (y_rf e.1) hH (by repeat (first | exact w_nil | refine w_cons (Or.inl (y_m rfl)) ?_ | refine w_cons (Or.inr (by assumption)) ?_)) (by repeat (first | exact w_nil | refine w_cons (Or.inl (y_m rfl)) ?_ | refine w_cons (Or.inr (by assumption)) ?_))
          exact next (is' := false) (y_sq e fr rfl rfl) ((y_ae fr rfl).trans a) hb
      -- free or not
      have T131 : ∀ {G : aH} {fb : Bool} {o8 : Option Value}, y_fr h G [] [] → l1.getD k 0 = 0 → (n_apL v p k = true ∨ n_apL v k p = true) → (fb = true ↔ ∀ j, f = some j → ap_fr (n_apL v) (fun j => gN.testBit j) j p k) → aOK s_P X (N + d + 3) a_m210 131 [some (.ref 155), some (.int from'), some (.int here), some (.int end'), some (.int gv), some (.int (ap_01 false)), some (.int nI), some (.int (ap_01 fb)), o8] [] G C S K0 := by
        intro G fb o8 e hl0 ad hfb
        have hzz := y_z_set (l := l1) (k := k) (x := Int32.ofInt 1) (by omega) hl0 (by decide) (n := 10) (by omega)
        obtain ⟨N', hN⟩ : ∃ N', N = N' + 1 := ⟨N - 1, by omega⟩
        cases fb with
        | false =>
          refine w_go z_hl [156] [210] 30 e.1 ?_
          refine ⟨fun _ => fun H hH => nxt0 (y_st e hH (by repeat (first | exact w_nil | refine w_cons (Or.inl (y_m rfl)) ?_ | refine w_cons (Or.inr (by assumption)) ?_)) (by repeat (first | exact w_nil | refine w_cons (Or.inl (y_m rfl)) ?_ | refine w_cons (Or.inr (by assumption)) ?_))) (fun z => ?_), fun q => absurd q (by decide)⟩
          exact absurd (hfb.mpr z.2.2.1) (by decide)
        | true =>
          refine w_go z_hl [156] [210] 30 e.1 ?_
          refine ⟨fun q => absurd q (by decide), fun _ => fun H hH => ?_⟩
          have fr := y_st e hH (by repeat (first | exact w_nil | refine w_cons (Or.inl (y_m rfl)) ?_ | refine w_cons (Or.inr (by assumption)) ?_)) (by repeat (first | exact w_nil | refine w_cons (Or.inl (y_m rfl)) ?_ | refine w_cons (Or.inr (by assumption)) ?_))
          refine aOK_deep (d := N' + d + 3) (by omega) ?_
          refine ih N' hN H _ _ _ _ (some p) k _ gN l1 _ fr.1 (ap_m_fr m fr rfl rfl rfl) ((y_ae fr rfl).trans g2) hl1 hk kn hl0 (Or.inr ⟨p, rfl, hp, by omega⟩) he hg g10 (by omega) (fun b H2 u1 u2 u3 => ⟨fun n e => (by cases e), ?_⟩)
          refine T146 (y_sq (y_mo fr rfl rfl) u1 rfl rfl) u2 (u3.trans ?_)
          constructor
          · intro z
            exact ⟨fun y => y hl0, ad, hfb.mp rfl, z⟩
          · intro z
            exact z.2.2.2
      have T129 : ∀ {G : aH} {fb : Bool} {o7 o8 : Option Value}, y_fr h G [] [] → l1.getD k 0 = 0 → (n_apL v p k = true ∨ n_apL v k p = true) → (fb = true ↔ ∀ j, f = some j → ap_fr (n_apL v) (fun j => gN.testBit j) j p k) → aOK s_P X (N + d + 3) a_m210 129 [some (.ref 155), some (.int from'), some (.int here), some (.int end'), some (.int gv), some (.int (ap_01 false)), some (.int nI), o7, o8] [.int (ap_01 fb)] G C S K0 := by
        intro G fb o7 o8 e hl0 ad hfb
        refine w_go z_hl [131] [] 30 e.1 ?_
        intro H hH
        exact T131 (y_st e hH (by repeat (first | exact w_nil | refine w_cons (Or.inl (y_m rfl)) ?_ | refine w_cons (Or.inr (by assumption)) ?_)) (by repeat (first | exact w_nil | refine w_cons (Or.inl (y_m rfl)) ?_ | refine w_cons (Or.inr (by assumption)) ?_))) hl0 ad hfb
      have T112 : ∀ {G : aH} {fb : Bool} {o7 o8 : Option Value}, y_fr h G [] [] → l1.getD k 0 = 0 → (n_apL v p k = true ∨ n_apL v k p = true) → (fb = true ↔ ∀ j, f = some j → ap_fr (n_apL v) (fun j => gN.testBit j) j p k) → aOK s_P X (N + d + 3) a_m210 112 [some (.ref 155), some (.int from'), some (.int here), some (.int end'), some (.int gv), some (.int (ap_01 false)), some (.int nI), o7, o8] [.int (ap_01 fb)] G C S K0 := by
        intro G fb o7 o8 e hl0 ad hfb
        refine w_go z_hl [129] [] 30 e.1 ?_
        intro H hH
        exact T129 (y_st e hH (by repeat (first | exact w_nil | refine w_cons (Or.inl (y_m rfl)) ?_ | refine w_cons (Or.inr (by assumption)) ?_)) (by repeat (first | exact w_nil | refine w_cons (Or.inl (y_m rfl)) ?_ | refine w_cons (Or.inr (by assumption)) ?_))) hl0 ad hfb
      -- both: it leans on both its neighbours
      have T98 : ∀ {G : aH} {both : Bool} {x7 : Int32} {o8 : Option Value} {j : Nat}, y_fr h G [] [] → l1.getD k 0 = 0 → (n_apL v p k = true ∨ n_apL v k p = true) → f = some j → (both = true ↔ n_apL v p j = true ∧ n_apL v p k = true) → aOK s_P X (N + d + 3) a_m210 98 [some (.ref 155), some (.int from'), some (.int here), some (.int end'), some (.int gv), some (.int (ap_01 false)), some (.int nI), some (.int x7), o8] [.int (ap_01 both)] G C S K0 := by
        intro G both x7 o8 j e hl0 ad hfj hbo
        have one : ∀ {Q : Prop}, (Q ↔ ap_fr (n_apL v) (fun j => gN.testBit j) j p k) → (Q ↔ ∀ j, f = some j → ap_fr (n_apL v) (fun j => gN.testBit j) j p k) := fun w => w.trans ⟨fun z j' hj' => by
          rw [hfj] at hj'
          injection hj' with hj'
          rw [← hj']
          exact z, fun z => z j hfj⟩
        cases both with
        | true =>
          obtain ⟨c1, c2⟩ := hbo.mp rfl
          refine w_go z_hl [129] [212] 40 e.1 ?_
          refine ⟨fun q => absurd q (by decide), fun _ => fun H hH => ?_⟩
          have fr := y_st e hH (by repeat (first | exact w_nil | refine w_cons (Or.inl (y_m rfl)) ?_ | refine w_cons (Or.inr (by assumption)) ?_)) (by repeat (first | exact w_nil | refine w_cons (Or.inl (y_m rfl)) ?_ | refine w_cons (Or.inr (by assumption)) ?_))
          refine aOK_deep (d := d + 2) (by omega) (f_given (d := d) fr.1 (ap_m_fr m fr rfl rfl rfl) hL hp pn hg (fun b H2 e2 hb => ⟨fun n e => (by cases e), ?_⟩))
          refine T112 (y_sq fr e2 rfl rfl) hl0 ad (one (hb.trans ⟨fun z => ⟨fun _ _ => z, fun nz => absurd ⟨c1, c2⟩ nz⟩, fun z => z.1 c1 c2⟩))
        | false =>
          have nb : ¬ (n_apL v p j = true ∧ n_apL v p k = true) := fun z => absurd (hbo.mpr z) (by decide)
          have bg := c_b01 (bits := gv) (k := here) (b := gN) (o := p) hg g10 hp (by omega)
          refine w_go z_hl [129] [212] 40 e.1 ?_
          refine ⟨fun _ => ⟨fun q => ⟨by decide, ⟨fun q => absurd q (by decide), fun _ => fun H hH => ?_⟩⟩, fun q => ⟨by decide, ⟨fun _ => fun H hH => ?_, fun q => absurd q (by decide)⟩⟩⟩, fun q => absurd q (by decide)⟩
          · have q1 : ((gv >>> (here &&& 31)) &&& Int32.ofInt 1).toInt ≠ (Int32.ofInt 1).toInt := (y_ci .ne _ _).mp q
            refine T129 (fb := true) (y_st e hH (by repeat (first | exact w_nil | refine w_cons (Or.inl (y_m rfl)) ?_ | refine w_cons (Or.inr (by assumption)) ?_)) (by repeat (first | exact w_nil | refine w_cons (Or.inl (y_m rfl)) ?_ | refine w_cons (Or.inr (by assumption)) ?_))) hl0 ad (one ⟨fun _ => ⟨fun z1 z2 => absurd ⟨z1, z2⟩ nb, fun _ => ?_⟩, fun _ => rfl⟩)
            show gN.testBit p = false
            cases w : gN.testBit p with
            | false => rfl
            | true =>
              rw [w, if_pos rfl] at bg
              exact absurd bg q1
          · have q1 : ¬ (((gv >>> (here &&& 31)) &&& Int32.ofInt 1).toInt ≠ (Int32.ofInt 1).toInt) := y_cif q
            have q2 := Decidable.not_not.mp q1
            refine T129 (fb := false) (y_st e hH (by repeat (first | exact w_nil | refine w_cons (Or.inl (y_m rfl)) ?_ | refine w_cons (Or.inr (by assumption)) ?_)) (by repeat (first | exact w_nil | refine w_cons (Or.inl (y_m rfl)) ?_ | refine w_cons (Or.inr (by assumption)) ?_))) hl0 ad (one ⟨fun z => absurd z (by decide), fun z => ?_⟩)
            have z1 : gN.testBit p = false := z.2 nb
            rw [z1, if_neg (by decide), q2] at bg
            exact absurd bg (by decide)
      have T90 : ∀ {G : aH} {b : Bool} {x7 : Int32} {o8 : Option Value} {j : Nat}, y_fr h G [] [] → l1.getD k 0 = 0 → (n_apL v p k = true ∨ n_apL v k p = true) → f = some j → n_apL v p j = true → n_apL v p k = b → aOK s_P X (N + d + 3) a_m210 90 [some (.ref 155), some (.int from'), some (.int here), some (.int end'), some (.int gv), some (.int (ap_01 false)), some (.int nI), some (.int x7), o8] [.int (y_01 b)] G C S K0 := by
        intro G b x7 o8 j e hl0 ad hfj c1 hb
        cases b with
        | true =>
          refine w_go z_hl [98] [] 40 e.1 ?_
          exact ⟨fun q => absurd q (by decide), fun _ => fun H hH => T98 (both := true) (y_st e hH (by repeat (first | exact w_nil | refine w_cons (Or.inl (y_m rfl)) ?_ | refine w_cons (Or.inr (by assumption)) ?_)) (by repeat (first | exact w_nil | refine w_cons (Or.inl (y_m rfl)) ?_ | refine w_cons (Or.inr (by assumption)) ?_))) hl0 ad hfj ⟨fun _ => ⟨c1, hb⟩, fun _ => rfl⟩⟩
        | false =>
          refine w_go z_hl [98] [] 40 e.1 ?_
          exact ⟨fun _ => fun H hH => T98 (both := false) (y_st e hH (by repeat (first | exact w_nil | refine w_cons (Or.inl (y_m rfl)) ?_ | refine w_cons (Or.inr (by assumption)) ?_)) (by repeat (first | exact w_nil | refine w_cons (Or.inl (y_m rfl)) ?_ | refine w_cons (Or.inr (by assumption)) ?_))) hl0 ad hfj ⟨fun z => absurd z (by decide), fun z => by rw [hb] at z; exact absurd z.2 (by decide)⟩, fun q => absurd q (by decide)⟩
      have T80 : ∀ {G : aH} {b : Bool} {x7 : Int32} {o8 : Option Value} {j : Nat}, y_fr h G [] [] → l1.getD k 0 = 0 → (n_apL v p k = true ∨ n_apL v k p = true) → f = some j → n_apL v p j = b → aOK s_P X (N + d + 3) a_m210 80 [some (.ref 155), some (.int from'), some (.int here), some (.int end'), some (.int gv), some (.int (ap_01 false)), some (.int nI), some (.int x7), o8] [.int (y_01 b)] G C S K0 := by
        intro G b x7 o8 j e hl0 ad hfj hb
        cases b with
        | false =>
          refine w_go z_hl [98] [211] 40 e.1 ?_
          exact ⟨fun _ => fun H hH => T98 (both := false) (y_st e hH (by repeat (first | exact w_nil | refine w_cons (Or.inl (y_m rfl)) ?_ | refine w_cons (Or.inr (by assumption)) ?_)) (by repeat (first | exact w_nil | refine w_cons (Or.inl (y_m rfl)) ?_ | refine w_cons (Or.inr (by assumption)) ?_))) hl0 ad hfj ⟨fun z => absurd z (by decide), fun z => by rw [hb] at z; exact absurd z.1 (by decide)⟩, fun q => absurd q (by decide)⟩
        | true =>
          refine w_go z_hl [98] [211] 40 e.1 ?_
          refine ⟨fun q => absurd q (by decide), fun _ => fun H hH => ?_⟩
          have fr := y_st e hH (by repeat (first | exact w_nil | refine w_cons (Or.inl (y_m rfl)) ?_ | refine w_cons (Or.inr (by assumption)) ?_)) (by repeat (first | exact w_nil | refine w_cons (Or.inl (y_m rfl)) ?_ | refine w_cons (Or.inr (by assumption)) ?_))
          refine aOK_deep (d := d + 1) (by omega) (f_leansOn (d := d) fr.1 (ap_m_fr m fr rfl rfl rfl) hp pn hk (by omega) (fun b H2 e2 hb2 => ⟨fun n e => (by cases e), ?_⟩))
          exact T90 (y_sq fr e2 rfl rfl) hl0 ad hfj hb hb2
      have T67 : ∀ {G : aH} {o7 o8 : Option Value}, y_fr h G [] [] → l1.getD k 0 = 0 → (n_apL v p k = true ∨ n_apL v k p = true) → aOK s_P X (N + d + 3) a_m210 67 [some (.ref 155), some (.int from'), some (.int here), some (.int end'), some (.int gv), some (.int (ap_01 false)), some (.int nI), o7, o8] [] G C S K0 := by
        intro G o7 o8 e hl0 ad
        refine w_go z_hl [131] [211] 40 e.1 ?_
        refine ⟨fun q => fun H hH => ?_, fun q => fun H hH => ?_⟩
        · have q1 : from'.toInt < (0 : Int32).toInt := (y_ci .lt _ _).mp q
          have q2 : from'.toInt < 0 := q1
          refine T131 (fb := true) (y_st e hH (by repeat (first | exact w_nil | refine w_cons (Or.inl (y_m rfl)) ?_ | refine w_cons (Or.inr (by assumption)) ?_)) (by repeat (first | exact w_nil | refine w_cons (Or.inl (y_m rfl)) ?_ | refine w_cons (Or.inr (by assumption)) ?_))) hl0 ad ⟨fun _ j hj => ?_, fun _ => rfl⟩
          rcases hf with ⟨w1, -⟩ | ⟨j', -, w2, -⟩
          · rw [w1] at hj
            cases hj
          · exfalso
            omega
        · have q1 : ¬ (from'.toInt < (0 : Int32).toInt) := y_cif q
          have q2 : ¬ (from'.toInt < 0) := q1
          rcases hf with ⟨-, w1⟩ | ⟨j, w1, w2, w3⟩
          · exact absurd w1 q2
          · have fr := y_st e hH (by repeat (first | exact w_nil | refine w_cons (Or.inl (y_m rfl)) ?_ | refine w_cons (Or.inr (by assumption)) ?_)) (by repeat (first | exact w_nil | refine w_cons (Or.inl (y_m rfl)) ?_ | refine w_cons (Or.inr (by assumption)) ?_))
            refine aOK_deep (d := d + 1) (by omega) (f_leansOn (d := d) fr.1 (ap_m_fr m fr rfl rfl rfl) hp pn w2 w3 (fun b H2 e2 hb => ⟨fun n e => (by cases e), ?_⟩))
            exact T80 (y_sq fr e2 rfl rfl) hl0 ad w1 hb
      have T61 : ∀ {G : aH} {b : Bool} {o7 o8 : Option Value}, y_fr h G [] [] → l1.getD k 0 = 0 → n_apL v p k = false → n_apL v k p = b → aOK s_P X (N + d + 3) a_m210 61 [some (.ref 155), some (.int from'), some (.int here), some (.int end'), some (.int gv), some (.int (ap_01 false)), some (.int nI), o7, o8] [.int (y_01 b)] G C S K0 := by
        intro G b o7 o8 e hl0 c1 hb
        cases b with
        | true =>
          refine w_go z_hl [67, 156] [] 40 e.1 ?_
          exact ⟨fun _ => fun H hH => T67 (y_st e hH (by repeat (first | exact w_nil | refine w_cons (Or.inl (y_m rfl)) ?_ | refine w_cons (Or.inr (by assumption)) ?_)) (by repeat (first | exact w_nil | refine w_cons (Or.inl (y_m rfl)) ?_ | refine w_cons (Or.inr (by assumption)) ?_))) hl0 (Or.inr hb), fun q => absurd q (by decide)⟩
        | false =>
          refine w_go z_hl [67, 156] [] 40 e.1 ?_
          refine ⟨fun q => absurd q (by decide), fun _ => fun H hH => nxt0 (y_st e hH (by repeat (first | exact w_nil | refine w_cons (Or.inl (y_m rfl)) ?_ | refine w_cons (Or.inr (by assumption)) ?_)) (by repeat (first | exact w_nil | refine w_cons (Or.inl (y_m rfl)) ?_ | refine w_cons (Or.inr (by assumption)) ?_))) (fun z => ?_)⟩
          rcases z.2.1 with y | y
          · rw [c1] at y
            cases y
          · rw [hb] at y
            cases y
      have T51 : ∀ {G : aH} {b : Bool} {o7 o8 : Option Value}, y_fr h G [] [] → l1.getD k 0 = 0 → n_apL v p k = b → aOK s_P X (N + d + 3) a_m210 51 [some (.ref 155), some (.int from'), some (.int here), some (.int end'), some (.int gv), some (.int (ap_01 false)), some (.int nI), o7, o8] [.int (y_01 b)] G C S K0 := by
        intro G b o7 o8 e hl0 hb
        cases b with
        | true =>
          refine w_go z_hl [67, 156] [211] 40 e.1 ?_
          exact ⟨fun _ => fun H hH => T67 (y_st e hH (by repeat (first | exact w_nil | refine w_cons (Or.inl (y_m rfl)) ?_ | refine w_cons (Or.inr (by assumption)) ?_)) (by repeat (first | exact w_nil | refine w_cons (Or.inl (y_m rfl)) ?_ | refine w_cons (Or.inr (by assumption)) ?_))) hl0 (Or.inl hb), fun q => absurd q (by decide)⟩
        | false =>
          refine w_go z_hl [67, 156] [211] 40 e.1 ?_
          refine ⟨fun q => absurd q (by decide), fun _ => fun H hH => ?_⟩
          have fr := y_st e hH (by repeat (first | exact w_nil | refine w_cons (Or.inl (y_m rfl)) ?_ | refine w_cons (Or.inr (by assumption)) ?_)) (by repeat (first | exact w_nil | refine w_cons (Or.inl (y_m rfl)) ?_ | refine w_cons (Or.inr (by assumption)) ?_))
          refine aOK_deep (d := d + 1) (by omega) (f_leansOn (d := d) fr.1 (ap_m_fr m fr rfl rfl rfl) hk kn hp (by omega) (fun b H2 e2 hb2 => ⟨fun n e => (by cases e), ?_⟩))
          exact T61 (y_sq fr e2 rfl rfl) hl0 hb hb2
      refine w_go z_hl [20, 162, 156] [211] 40 hr ?_
      intro x hx _ _
      obtain rfl := y_fi m1 hx
      refine ⟨fun q => ?_, fun q => ⟨fun q => absurd q (by decide), fun _ => ?_⟩⟩
      · have : (v 128).toInt ≤ nI.toInt := (y_ci .ge _ _).mp q
        exfalso
        omega
      refine ⟨⟨by omega, by omega⟩, fun l hl len bb => ?_⟩
      obtain rfl := y_ai g2 hl
      refine ⟨fun q2 => fun H hH => ?_, fun q2 => fun H hH => ?_⟩
      · have q3 : (l1.getD nI.toNatClampNeg 0).toInt ≠ (0 : Int32).toInt := (y_ci .ne _ _).mp q2
        rw [kc] at q3
        exact nxt0 (y_st (y_rf hr) hH (by repeat (first | exact w_nil | refine w_cons (Or.inl (y_m rfl)) ?_ | refine w_cons (Or.inr (by assumption)) ?_)) (by repeat (first | exact w_nil | refine w_cons (Or.inl (y_m rfl)) ?_ | refine w_cons (Or.inr (by assumption)) ?_))) (fun z => z.1 (fun y => q3 (by rw [y])))
      · have q3 : ¬ ((l1.getD nI.toNatClampNeg 0).toInt ≠ (0 : Int32).toInt) := y_cif q2
        rw [kc] at q3
        have hl0 : l1.getD k 0 = 0 := Int32.toInt_inj.mp (Decidable.not_not.mp q3)
        have fr : y_fr h H [] [] := y_st (y_rf hr) hH (by repeat (first | exact w_nil | refine w_cons (Or.inl (y_m rfl)) ?_ | refine w_cons (Or.inr (by assumption)) ?_)) (by repeat (first | exact w_nil | refine w_cons (Or.inl (y_m rfl)) ?_ | refine w_cons (Or.inr (by assumption)) ?_))
        refine aOK_deep (d := d + 1) (by omega) (f_leansOn (d := d) fr.1 (ap_m_fr m fr rfl rfl rfl) hp pn hk (by omega) (fun b H2 e2 hb => ⟨fun n e => (by cases e), ?_⟩))
        exact T51 (y_sq fr e2 rfl rfl) hl0 hb
theorem ap_on_s {l : List Int32} {p j : Nat} (hl : l.length = 10) (p10 : p < 10) : ap_on (l.set p (Int32.ofInt 1)) j ↔ ap_on l j ∨ j = p := by
  unfold ap_on
  rw [c_gset (by omega)]
  by_cases z : j = p
  · rw [if_pos z]
    exact ⟨fun _ => Or.inr z, fun _ => by decide⟩
  · rw [if_neg z]
    exact ⟨fun w => Or.inl w, fun w => w.elim id (fun y => absurd y z)⟩
theorem f_goes_step {N : Nat} (hL : ap_ok (v 128).toInt.toNat (n_apL v)) (ih : ∀ N', N = N' + 1 → f_GO X C S d v N') : f_GO X C S d v N := by
  intro h from' here end' gv f p e gN l K0 hr m g2 hl hp pn hp0 hf he hg g10 hz hK
  obtain ⟨m1, ⟨m2, m3⟩, -⟩ := id m
  refine w_go z_hl [20] [] 30 hr ?_
  refine ⟨fun q => ?_, fun q => ?_⟩
  · have q1 : here.toInt ≠ end'.toInt := (y_ci .ne _ _).mp q
    have ne : p ≠ e := by omega
    have p10 : p < 10 := by omega
    refine ⟨⟨by omega, by omega⟩, by decide, fun l' hl' len bb => ?_⟩
    obtain rfl := y_ai g2 hl'
    intro H hH
    have e1 : y_fr h H [] [164] := y_st (y_mo (y_rf hr) rfl rfl) hH (by repeat (first | exact w_nil | refine w_cons (Or.inl (y_m rfl)) ?_ | refine w_cons (Or.inr (by assumption)) ?_)) (by repeat (first | exact w_nil | refine w_cons (Or.inl (y_m rfl)) ?_ | refine w_cons (Or.inr (by assumption)) ?_))
    have A := hH.2.2.1 164 _ rfl
    rw [y_cl1 hp] at A
    refine f_goes_loop hL ih (l1 := l.set p (Int32.ofInt 1)) (by rw [List.length_set]; exact hl) hp pn hf he hg g10 hz (v 128).toInt.toNat H false _ 0 _ _ e1.1 (ap_m_fr m e1 rfl rfl rfl) A rfl (by omega) ⟨fun z => absurd z (by decide), fun ⟨x, x1, _⟩ => absurd x1 (Nat.not_lt_zero x)⟩ (fun b H2 u1 u2 u3 => ?_)
    rw [List.set_set, y_set0 (by omega) hp0] at u2
    refine hK b H2 (y_sq e1 u1 rfl rfl) u2 (u3.trans ?_)
    constructor
    · rintro ⟨x, x1, x2, x3, x4, q, x5⟩
      have no : ¬ (ap_on l x ∨ x = p) := fun z => x2 ((ap_on_s hl p10).mpr z)
      exact ⟨x :: q, ⟨x1, fun z => no (Or.inl z), fun z => no (Or.inr z)⟩, x3, x4, ap_R_c (fun j => ap_on_s hl p10) x5⟩
    · rintro ⟨q, hq⟩
      cases q with
      | nil => exact absurd (show p = e from hq) ne
      | cons x q =>
        obtain ⟨⟨x1, x2, x3⟩, x4, x5, x6⟩ := hq
        exact ⟨x, x1, fun z => ((ap_on_s hl p10).mp z).elim x2 x3, x4, x5, q, ap_R_c (fun j => (ap_on_s hl p10).symm) x6⟩
  · have q1 : ¬ (here.toInt ≠ end'.toInt) := y_cif q
    have eq : p = e := by omega
    refine ⟨by decide, fun H hH => ?_⟩
    have e1 : y_fr h H [] [] := y_st (y_rf hr) hH (by repeat (first | exact w_nil | refine w_cons (Or.inl (y_m rfl)) ?_ | refine w_cons (Or.inr (by assumption)) ?_)) (by repeat (first | exact w_nil | refine w_cons (Or.inl (y_m rfl)) ?_ | refine w_cons (Or.inr (by assumption)) ?_))
    exact hK true H (y_mo e1 rfl rfl) ((y_ae e1 rfl).trans g2) ⟨fun _ => ⟨[], eq⟩, fun _ => rfl⟩
theorem f_goes (hL : ap_ok (v 128).toInt.toNat (n_apL v)) : ∀ (N : Nat), f_GO X C S d v N
  | 0 => f_goes_step hL (fun N' e => absurd e (by omega))
  | N + 1 => f_goes_step hL (fun N' e => by
    have : N = N' := by omega
    subst this
    exact f_goes hL N)
theorem f_apart {h : aH} (hr : w_hr z_D h) (hm : n_mV h v) (hL : ap_ok (v 128).toInt.toNat (n_apL v)) (g2 : w_a h 164 = some (2, .inl (List.replicate 10 0))) {a b gv : Int32} (hk : ∀ (H : aH), y_fr h H [19584] [164] → w_a H 164 = some (2, .inl (List.replicate 10 0)) → K0 (some (.int (n_apa v a b gv))) H C S) : aOK s_P X (d + 14) a_m208 0 [some (.ref 155), some (.int a), some (.int b), some (.int gv)] [] h C S K0 := by
  have m := ap_m_of hr hm
  obtain ⟨m1, ⟨m2, m3⟩, -⟩ := id m
  have wl : y_ways (v 128) ≤ 1024 := (y_all m2 m3).2.2
  have T23 : ∀ {G : aH} {q : Bool}, n_prV (v 128) a b gv → n_apt v a.toInt.toNat b.toInt.toNat gv.toInt.toNat = q → y_fr h G [19584] [164] → w_a G 164 = some (2, .inl (List.replicate 10 0)) → aOK s_P X (d + 14) a_m208 23 [some (.ref 155), some (.int a), some (.int b), some (.int gv)] [.int (ap_01 q)] G C S K0 := by
    intro G q pv hq e z
    have ev : n_apa v a b gv = ap_01 (!q) := by
      unfold n_apa
      rw [if_pos pv, hq]
    rw [ev] at hk
    cases q with
    | true =>
      refine w_go z_hl [] [] 40 e.1 ?_
      refine ⟨fun _ => ⟨fun _ => fun H hH => ?_, fun q => absurd q (by decide)⟩, fun q => absurd q (by decide)⟩
      have f : y_fr G H [] [] := y_st (y_rf e.1) hH (by repeat (first | exact w_nil | refine w_cons (Or.inl (y_m rfl)) ?_ | refine w_cons (Or.inr (by assumption)) ?_)) (by repeat (first | exact w_nil | refine w_cons (Or.inl (y_m rfl)) ?_ | refine w_cons (Or.inr (by assumption)) ?_))
      exact hk H (y_sq e f rfl rfl) ((y_ae f rfl).trans z)
    | false =>
      refine w_go z_hl [] [] 40 e.1 ?_
      refine ⟨fun q => absurd q (by decide), fun _ => ⟨fun q => absurd q (by decide), fun _ => fun H hH => ?_⟩⟩
      have f : y_fr G H [] [] := y_st (y_rf e.1) hH (by repeat (first | exact w_nil | refine w_cons (Or.inl (y_m rfl)) ?_ | refine w_cons (Or.inr (by assumption)) ?_)) (by repeat (first | exact w_nil | refine w_cons (Or.inl (y_m rfl)) ?_ | refine w_cons (Or.inr (by assumption)) ?_))
      exact hk H (y_sq e f rfl rfl) ((y_ae f rfl).trans z)
  have T12 : ∀ {G : aH}, n_prV (v 128) a b gv → y_fr h G [19584] [] → aOK s_P X (d + 14) a_m208 12 [some (.ref 155), some (.int a), some (.int b), some (.int gv)] [.int (Int32.ofInt 1)] G C S K0 := by
    intro G pv e
    obtain ⟨⟨a0, a1⟩, ⟨b1, b2⟩, ne, ⟨g1, g3⟩, -, -⟩ := id pv
    refine w_go z_hl [] [210] 40 e.1 ?_
    refine ⟨fun q => absurd q (by decide), fun _ => fun H hH => ?_⟩
    have f := y_st e hH (by repeat (first | exact w_nil | refine w_cons (Or.inl (y_m rfl)) ?_ | refine w_cons (Or.inr (by assumption)) ?_)) (by repeat (first | exact w_nil | refine w_cons (Or.inl (y_m rfl)) ?_ | refine w_cons (Or.inr (by assumption)) ?_))
    refine aOK_deep (d := 10 + d + 3) (by omega) ?_
    refine f_goes hL 10 H _ _ _ _ none a.toInt.toNat b.toInt.toNat gv.toInt.toNat (List.replicate 10 0) _ f.1 (ap_m_fr m f rfl rfl rfl) ((y_ae f rfl).trans g2) List.length_replicate (by omega) (by omega) ?_ (Or.inl ⟨rfl, by decide⟩) (by omega) (by omega) (by omega) (y_z_le _ _) (fun q H2 u1 u2 u3 => ⟨fun n e => (by cases e), ?_⟩)
    · rw [List.getD_eq_getElem?_getD, List.getElem?_replicate]
      split <;> rfl
    · refine T23 pv ?_ (y_sq (y_mo f rfl rfl) u1 rfl rfl) u2
      refine Bool.eq_iff_iff.mpr (n_apt_i.trans (Iff.trans ?_ u3.symm))
      refine (ap_main hL (by omega)).symm.trans ⟨fun ⟨q, hq⟩ => ⟨q, ap_R_c (fun j => ?_) hq⟩, fun ⟨q, hq⟩ => ⟨q, ap_R_c (fun j => ?_) hq⟩⟩
      · exact ap_on_0.symm
      · exact ap_on_0
  have T12n : ∀ {G : aH}, ¬ n_prV (v 128) a b gv → y_fr h G [19584] [] → aOK s_P X (d + 14) a_m208 12 [some (.ref 155), some (.int a), some (.int b), some (.int gv)] [.int (Int32.ofInt 0)] G C S K0 := by
    intro G pv e
    have ev : n_apa v a b gv = Int32.ofInt (-1) := by
      unfold n_apa
      rw [if_neg pv]
    rw [ev] at hk
    refine w_go z_hl [] [] 40 e.1 ?_
    refine ⟨fun _ => fun H hH => ?_, fun q => absurd q (by decide)⟩
    have f : y_fr h H [19584] [] := y_st e hH (by repeat (first | exact w_nil | refine w_cons (Or.inl (y_m rfl)) ?_ | refine w_cons (Or.inr (by assumption)) ?_)) (by repeat (first | exact w_nil | refine w_cons (Or.inl (y_m rfl)) ?_ | refine w_cons (Or.inr (by assumption)) ?_))
    exact hk H (y_mo f rfl rfl) ((y_ae f rfl).trans g2)
  refine w_go z_hl [] [209] 30 hr ?_
  refine ⟨rfl, y_zini (by decide) (by decide), fun H1 h1 => ?_⟩
  have e1 : y_fr h H1 [19584] [] := y_st (y_mo (y_rf hr) rfl rfl) h1 (by repeat (first | exact w_nil | refine w_cons (Or.inl (y_m rfl)) ?_ | refine w_cons (Or.inr (by assumption)) ?_)) (by repeat (first | exact w_nil | refine w_cons (Or.inl (y_m rfl)) ?_ | refine w_cons (Or.inr (by assumption)) ?_))
  refine f_areTwo (d := d + 11) (nd := v 128) e1.1 ((y_fe e1 rfl).trans m1) m2 m3 (fun pv H2 h2 => ⟨fun n e => (by cases e), ?_⟩) (fun pv H2 h2 => ⟨fun n e => (by cases e), ?_⟩)
  · exact T12 pv (y_sq e1 h2 rfl rfl)
  · exact T12n pv (y_sq e1 h2 rfl rfl)
end NPG
end PT33ie
section PT33if
/-! ===== v15p: apart() as a pair; a small system: no node is on the reference's row between calls ===== -/
def g_ZF : List Nat := []
def g_ZA : List Nat := [164]
def n_IZ (h : aH) : Prop := t_I h ∧ w_a h 164 = some (2, .inl (List.replicate 10 0))
theorem g_Zs : g_sup n_IZ g_ZF g_ZA := fun h H hI s q => ⟨hI, (s.2 164 (by decide)).trans q.2⟩
theorem g_Zi : ∀ h, n_IZ h → t_I h := fun _ q => q.1
def n_MdZ (_ : Nat) (_ : List Int32) (_ : Int32) (H : aH) : Prop := n_IZ H
noncomputable def n_sAp (us : List Int32) (v : Nat → Int32) : Int32 := match us with
  | [a, b, c] => n_apa v a b c
  | _ => 0
def n_MdC (us : List Int32) (g : Int32) (H : aH) : Prop := t_I H ∧ w_a H 164 = some (2, .inl (List.replicate 10 0)) ∧ ∃ v, n_cV H v ∧ n_mV H v ∧ g = n_sAp us v
/-! ===== v16: both systems (laid by wip/tools/lay16.py) ===== -/
def n_pA (j : Nat) : Bool := ([12, 17, 21, 24, 74, 76, 77, 127, 157, 163, 165] : List Nat).elem j
def n_pB (j : Nat) : Bool := ([] : List Nat).elem j
abbrev n_IP : aH → Prop := fun h => n_I h ∧ n_IZ h
abbrev n_MdP : Nat → List Int32 → Int32 → aH → Prop := n_MP n_pA n_pB n_I n_IZ n_Md n_MdZ 61 n_MdC
theorem n_MdP_r {j : Nat} {us : List Int32} {g : Int32} {H : aH} (q : n_MdP j us g H) : w_hr z_D H := by
  have q : (if j = 61 then n_MdC us g H else n_M12 n_pA n_I n_Md j us g H ∧ n_M12 n_pB n_IZ n_MdZ j us g H) := q
  by_cases z : j = 61
  · rw [if_pos z] at q
    exact q.1.1
  · rw [if_neg z] at q
    have q := q.1
    unfold n_M12 at q
    by_cases y : n_pA j = true
    · rw [if_pos y] at q
      exact q.1.1
    · rw [if_neg y] at q
      exact q.1.1
theorem n_C61 {X : aX} : n_G X n_IP n_MdP (61, 2, 3, false, 3, 1, 0) := ⟨a_m61, rfl, rfl, rfl, fun us h C S K0 hl _ hk => by
  obtain ⟨⟨⟨hI, v, hc, hm⟩, ⟨-, hz⟩⟩, hk⟩ := hk
  match us, hl with
  | [a, b, c], _ =>
    refine c_apart (d := 197) hI.1 hc (n_toW hI.1 hI.2.1.1 hc hm) (fun H e => hk _ _ ?_)
    show n_MP n_pA n_pB n_I n_IZ n_Md n_MdZ 61 n_MdC 61 [a, b, c] _ _
    unfold n_MP
    rw [if_pos rfl]
    exact ⟨⟨e.1, y_jfr y_JA_x e rfl rfl hI.2.1, t_day_frc e rfl hI.2.2⟩, (y_ae e rfl).trans hz, v, n_cS_V (n_fk_c (ex := []) e rfl) hc, n_mS_V (n_fm_ok e rfl) hm, rfl⟩⟩
theorem n_C208 {X : aX} : n_G X n_IP n_MdP (208, 155, 3, false, 3, 2, 61) := ⟨a_m208, rfl, rfl, rfl, fun us h C S K0 hl _ hk => by
  obtain ⟨g, hg, hkk⟩ := (show ∃ g, n_MdP 61 us g h ∧ ∀ (x : Int32) (H : aH), n_IP H → ((3 : Nat) = 3 → x = g) → K0 (some (.int x)) H C S from hk)
  have hg : n_MP n_pA n_pB n_I n_IZ n_Md n_MdZ 61 n_MdC 61 us g h := hg
  unfold n_MP at hg
  rw [if_pos rfl] at hg
  obtain ⟨hI, hz, v, hc, hm, hg⟩ := hg
  match us, hl with
  | [a, b, c], _ =>
    refine f_apart (d := 186) hI.1 hm (n_apok (n_toW hI.1 hI.2.1.1 hc hm)) hz (fun H e z => ?_)
    have tI : t_I H := ⟨e.1, ⟨y_J_fr e rfl rfl hI.2.1.1, j_say_e e rfl rfl hI.2.1.2.1, j_cost_e e rfl rfl hI.2.1.2.2⟩, t_day_fr e rfl hI.2.2⟩
    exact hkk _ H ⟨⟨tI, v, n_cS_V (n_fk_c (ex := []) e rfl) hc, n_mS_V (n_fk_m e rfl) hm⟩, tI, z⟩ (fun _ => hg.symm)⟩
end PT33if
section PT33j
/-! ===== v16: the law of p15: its loop (laid by wip/tools/lay16.py) ===== -/
def n_tb : nT := [(12, 2, 2, false, 1, 1, 0), (17, 2, 3, false, 1, 1, 0), (21, 2, 2, false, 1, 1, 0), (24, 2, 2, false, 1, 1, 0), (28, 2, 1, false, 1, 0, 0), (33, 2, 1, false, 1, 0, 0), (46, 2, 1, false, 1, 0, 0), (47, 2, 0, false, 1, 0, 0), (49, 2, 2, false, 1, 0, 0), (52, 2, 1, false, 1, 0, 0), (54, 2, 2, false, 1, 0, 0), (57, 2, 2, false, 1, 0, 0), (58, 2, 1, false, 1, 0, 0), (61, 2, 3, false, 3, 1, 0), (66, 2, 3, false, 1, 0, 0), (68, 2, 1, false, 1, 0, 0), (71, 2, 1, false, 1, 0, 0), (74, 2, 1, false, 1, 1, 0), (76, 2, 1, false, 1, 1, 0), (77, 2, 0, false, 1, 1, 0), (92, 2, 1, false, 1, 0, 0), (112, 2, 2, false, 1, 0, 0), (113, 2, 2, false, 1, 0, 0), (114, 2, 1, false, 1, 0, 0), (115, 2, 4, false, 1, 0, 0), (119, 2, 2, false, 1, 0, 0), (125, 2, 1, false, 1, 0, 0), (127, 2, 2, false, 1, 1, 0), (128, 2, 2, false, 1, 0, 0), (137, 2, 2, false, 1, 0, 0), (139, 2, 2, false, 1, 0, 0), (143, 2, 4, false, 1, 0, 0), (145, 2, 2, false, 1, 0, 0), (146, 2, 3, false, 1, 0, 0), (149, 2, 5, false, 1, 0, 0), (153, 2, 2, false, 1, 0, 0), (156, 2, 2, false, 1, 0, 0), (157, 2, 3, true, 1, 1, 0), (159, 2, 1, false, 1, 0, 0), (162, 2, 1, false, 1, 0, 0), (163, 2, 1, false, 1, 1, 0), (165, 2, 1, false, 1, 1, 0), (168, 2, 1, false, 1, 0, 0), (173, 155, 2, false, 1, 2, 12), (177, 155, 3, false, 1, 2, 17), (180, 155, 2, false, 1, 2, 21), (181, 155, 2, false, 1, 2, 24), (183, 155, 1, false, 1, 0, 0), (187, 155, 1, false, 1, 0, 0), (198, 155, 1, false, 1, 0, 0), (199, 155, 0, false, 1, 0, 0), (200, 155, 2, false, 1, 0, 0), (202, 155, 1, false, 1, 0, 0), (204, 155, 2, false, 1, 0, 0), (206, 155, 2, false, 1, 0, 0), (207, 155, 1, false, 1, 0, 0), (208, 155, 3, false, 3, 2, 61), (213, 155, 3, false, 1, 0, 0), (214, 155, 1, false, 1, 0, 0), (217, 155, 1, false, 1, 0, 0), (219, 155, 1, false, 1, 2, 74), (220, 155, 1, false, 1, 2, 76), (221, 155, 0, false, 1, 2, 77), (233, 155, 1, false, 1, 0, 0), (246, 155, 2, false, 1, 0, 0), (247, 155, 2, false, 1, 0, 0), (248, 155, 1, false, 1, 0, 0), (249, 155, 4, false, 1, 0, 0), (250, 155, 2, false, 1, 0, 0), (254, 155, 1, false, 1, 0, 0), (255, 155, 2, false, 1, 2, 127), (256, 155, 2, false, 1, 0, 0), (262, 155, 2, false, 1, 0, 0), (263, 155, 2, false, 1, 0, 0), (265, 155, 4, false, 1, 0, 0), (267, 155, 2, false, 1, 0, 0), (268, 155, 3, false, 1, 0, 0), (270, 155, 5, false, 1, 0, 0), (271, 155, 2, false, 1, 0, 0), (272, 155, 2, false, 1, 0, 0), (273, 155, 3, true, 1, 2, 157), (274, 155, 1, false, 1, 0, 0), (278, 155, 1, false, 1, 0, 0), (279, 155, 1, false, 1, 2, 163), (280, 155, 1, false, 1, 2, 165), (281, 155, 1, false, 1, 0, 0), (283, 155, 2, false, 1, 0, 0), (287, 155, 1, false, 2, 0, 0)]
section NJ
variable {X : aX}
def n_tbx0 : nT := [(12, 2, 2, false, 1, 1, 0), (17, 2, 3, false, 1, 1, 0), (21, 2, 2, false, 1, 1, 0), (24, 2, 2, false, 1, 1, 0), (28, 2, 1, false, 1, 0, 0), (33, 2, 1, false, 1, 0, 0), (46, 2, 1, false, 1, 0, 0), (47, 2, 0, false, 1, 0, 0), (49, 2, 2, false, 1, 0, 0), (52, 2, 1, false, 1, 0, 0), (54, 2, 2, false, 1, 0, 0), (57, 2, 2, false, 1, 0, 0), (58, 2, 1, false, 1, 0, 0), (61, 2, 3, false, 3, 1, 0), (66, 2, 3, false, 1, 0, 0), (68, 2, 1, false, 1, 0, 0), (71, 2, 1, false, 1, 0, 0), (74, 2, 1, false, 1, 1, 0), (76, 2, 1, false, 1, 1, 0), (77, 2, 0, false, 1, 1, 0), (92, 2, 1, false, 1, 0, 0), (112, 2, 2, false, 1, 0, 0)]
theorem n_tbx0_G : ∀ e ∈ n_tbx0, n_G X n_IP n_MdP e := List.forall_mem_cons.mpr ⟨(n_P1 rfl (Or.inl ⟨(n_ofc (n_c12) rfl rfl rfl), rfl⟩) (Or.inr ⟨(g_of1 (Md := n_MdZ) g_Zs g_Zi (g_c12 (by decide +kernel)) rfl rfl rfl), rfl⟩)), List.forall_mem_cons.mpr ⟨(n_P1 rfl (Or.inl ⟨(n_ofc (n_c17) rfl rfl rfl), rfl⟩) (Or.inr ⟨(g_of1 (Md := n_MdZ) g_Zs g_Zi (g_c17 (by decide +kernel)) rfl rfl rfl), rfl⟩)), List.forall_mem_cons.mpr ⟨(n_P1 rfl (Or.inl ⟨(n_ofc (n_c21) rfl rfl rfl), rfl⟩) (Or.inr ⟨(g_of1 (Md := n_MdZ) g_Zs g_Zi (g_c21 (by decide +kernel)) rfl rfl rfl), rfl⟩)), List.forall_mem_cons.mpr ⟨(n_P1 rfl (Or.inl ⟨(n_ofc (n_c24) rfl rfl rfl), rfl⟩) (Or.inr ⟨(g_of1 (Md := n_MdZ) g_Zs g_Zi (g_c24 (by decide +kernel)) rfl rfl rfl), rfl⟩)), List.forall_mem_cons.mpr ⟨(n_G_and0 (n_of1I n_a28 rfl rfl rfl) (g_of1 (Md := n_MdZ) g_Zs g_Zi (g_c28 (by decide +kernel)) rfl rfl rfl)), List.forall_mem_cons.mpr ⟨(n_G_and0 (n_of1I n_a33 rfl rfl rfl) (g_of1 (Md := n_MdZ) g_Zs g_Zi (g_c33 (by decide +kernel)) rfl rfl rfl)), List.forall_mem_cons.mpr ⟨(n_G_and0 (n_of1I n_a46 rfl rfl rfl) (g_of1 (Md := n_MdZ) g_Zs g_Zi (g_c46 (by decide +kernel)) rfl rfl rfl)), List.forall_mem_cons.mpr ⟨(n_G_and0 (n_of1I n_a47 rfl rfl rfl) (g_of1 (Md := n_MdZ) g_Zs g_Zi (g_c47 (by decide +kernel)) rfl rfl rfl)), List.forall_mem_cons.mpr ⟨(n_G_and0 (n_of1I n_a49 rfl rfl rfl) (g_of1 (Md := n_MdZ) g_Zs g_Zi (g_c49 (by decide +kernel)) rfl rfl rfl)), List.forall_mem_cons.mpr ⟨(n_G_and0 (n_of1I n_a52 rfl rfl rfl) (g_of1 (Md := n_MdZ) g_Zs g_Zi (g_c52 (by decide +kernel)) rfl rfl rfl)), List.forall_mem_cons.mpr ⟨(n_G_and0 (n_of1I n_a54 rfl rfl rfl) (g_of1 (Md := n_MdZ) g_Zs g_Zi (g_c54 (by decide +kernel)) rfl rfl rfl)), List.forall_mem_cons.mpr ⟨(n_G_and0 (n_of1 n_a57 rfl rfl rfl) (g_of1 (Md := n_MdZ) g_Zs g_Zi (g_c57 (by decide +kernel)) rfl rfl rfl)), List.forall_mem_cons.mpr ⟨(n_G_and0 (n_of1I n_a58 rfl rfl rfl) (g_of1 (Md := n_MdZ) g_Zs g_Zi (g_c58 (by decide +kernel)) rfl rfl rfl)), List.forall_mem_cons.mpr ⟨n_C61, List.forall_mem_cons.mpr ⟨(n_G_and0 (n_of1I n_a66 rfl rfl rfl) (g_of1 (Md := n_MdZ) g_Zs g_Zi (g_c66 (by decide +kernel)) rfl rfl rfl)), List.forall_mem_cons.mpr ⟨(n_G_and0 (n_of1I n_a68 rfl rfl rfl) (g_of1 (Md := n_MdZ) g_Zs g_Zi (g_c68 (by decide +kernel)) rfl rfl rfl)), List.forall_mem_cons.mpr ⟨(n_G_and0 (n_of1I n_a71 rfl rfl rfl) (g_of1 (Md := n_MdZ) g_Zs g_Zi (g_c71 (by decide +kernel)) rfl rfl rfl)), List.forall_mem_cons.mpr ⟨(n_P1 rfl (Or.inl ⟨(n_ofc (n_c74) rfl rfl rfl), rfl⟩) (Or.inr ⟨(g_of1 (Md := n_MdZ) g_Zs g_Zi (g_c74 (by decide +kernel)) rfl rfl rfl), rfl⟩)), List.forall_mem_cons.mpr ⟨(n_P1 rfl (Or.inl ⟨(n_ofc (n_c76) rfl rfl rfl), rfl⟩) (Or.inr ⟨(g_of1 (Md := n_MdZ) g_Zs g_Zi (g_c76 (by decide +kernel)) rfl rfl rfl), rfl⟩)), List.forall_mem_cons.mpr ⟨(n_P1 rfl (Or.inl ⟨(n_ofcS n_c77 rfl rfl rfl), rfl⟩) (Or.inr ⟨(g_of1 (Md := n_MdZ) g_Zs g_Zi (g_c77 (by decide +kernel)) rfl rfl rfl), rfl⟩)), List.forall_mem_cons.mpr ⟨(n_G_and0 (n_of1I n_a92 rfl rfl rfl) (g_of1 (Md := n_MdZ) g_Zs g_Zi (g_c92 (by decide +kernel)) rfl rfl rfl)), List.forall_mem_cons.mpr ⟨(n_G_and0 (n_of1I n_a112 rfl rfl rfl) (g_of1 (Md := n_MdZ) g_Zs g_Zi (g_c112 (by decide +kernel)) rfl rfl rfl)), fun _ h => absurd h List.not_mem_nil⟩⟩⟩⟩⟩⟩⟩⟩⟩⟩⟩⟩⟩⟩⟩⟩⟩⟩⟩⟩⟩⟩
def n_tbx1 : nT := [(113, 2, 2, false, 1, 0, 0), (114, 2, 1, false, 1, 0, 0), (115, 2, 4, false, 1, 0, 0), (119, 2, 2, false, 1, 0, 0), (125, 2, 1, false, 1, 0, 0), (127, 2, 2, false, 1, 1, 0), (128, 2, 2, false, 1, 0, 0), (137, 2, 2, false, 1, 0, 0), (139, 2, 2, false, 1, 0, 0), (143, 2, 4, false, 1, 0, 0), (145, 2, 2, false, 1, 0, 0), (146, 2, 3, false, 1, 0, 0), (149, 2, 5, false, 1, 0, 0), (153, 2, 2, false, 1, 0, 0), (156, 2, 2, false, 1, 0, 0), (157, 2, 3, true, 1, 1, 0), (159, 2, 1, false, 1, 0, 0), (162, 2, 1, false, 1, 0, 0), (163, 2, 1, false, 1, 1, 0), (165, 2, 1, false, 1, 1, 0), (168, 2, 1, false, 1, 0, 0), (173, 155, 2, false, 1, 2, 12)]
theorem n_tbx1_G : ∀ e ∈ n_tbx1, n_G X n_IP n_MdP e := List.forall_mem_cons.mpr ⟨(n_G_and0 (n_of1I n_a113 rfl rfl rfl) (g_of1 (Md := n_MdZ) g_Zs g_Zi (g_c113 (by decide +kernel)) rfl rfl rfl)), List.forall_mem_cons.mpr ⟨(n_G_and0 (n_of1I n_a114 rfl rfl rfl) (g_of1 (Md := n_MdZ) g_Zs g_Zi (g_c114 (by decide +kernel)) rfl rfl rfl)), List.forall_mem_cons.mpr ⟨(n_G_and0 (n_of1 n_a115 rfl rfl rfl) (g_of1 (Md := n_MdZ) g_Zs g_Zi (g_c115 (by decide +kernel)) rfl rfl rfl)), List.forall_mem_cons.mpr ⟨(n_G_and0 (n_of1I n_a119 rfl rfl rfl) (g_of1 (Md := n_MdZ) g_Zs g_Zi (g_c119 (by decide +kernel)) rfl rfl rfl)), List.forall_mem_cons.mpr ⟨(n_G_and0 (n_of1I n_a125 rfl rfl rfl) (g_of1 (Md := n_MdZ) g_Zs g_Zi (g_c125 (by decide +kernel)) rfl rfl rfl)), List.forall_mem_cons.mpr ⟨(n_P1 rfl (Or.inl ⟨(n_ofc (n_c127) rfl rfl rfl), rfl⟩) (Or.inr ⟨(g_of1 (Md := n_MdZ) g_Zs g_Zi (g_c127 (by decide +kernel)) rfl rfl rfl), rfl⟩)), List.forall_mem_cons.mpr ⟨(n_G_and0 (n_of1I n_a128 rfl rfl rfl) (g_of1 (Md := n_MdZ) g_Zs g_Zi (g_c128 (by decide +kernel)) rfl rfl rfl)), List.forall_mem_cons.mpr ⟨(n_G_and0 (n_of1I n_a137 rfl rfl rfl) (g_of1 (Md := n_MdZ) g_Zs g_Zi (g_c137 (by decide +kernel)) rfl rfl rfl)), List.forall_mem_cons.mpr ⟨(n_G_and0 (n_of1I n_a139 rfl rfl rfl) (g_of1 (Md := n_MdZ) g_Zs g_Zi (g_c139 (by decide +kernel)) rfl rfl rfl)), List.forall_mem_cons.mpr ⟨(n_G_and0 (n_of1 n_a143 rfl rfl rfl) (g_of1 (Md := n_MdZ) g_Zs g_Zi (g_c143 (by decide +kernel)) rfl rfl rfl)), List.forall_mem_cons.mpr ⟨(n_G_and0 (n_of1 n_a145 rfl rfl rfl) (g_of1 (Md := n_MdZ) g_Zs g_Zi (g_c145 (by decide +kernel)) rfl rfl rfl)), List.forall_mem_cons.mpr ⟨(n_G_and0 (n_of1I n_a146 rfl rfl rfl) (g_of1 (Md := n_MdZ) g_Zs g_Zi (g_c146 (by decide +kernel)) rfl rfl rfl)), List.forall_mem_cons.mpr ⟨(n_G_and0 (n_of1 n_a149 rfl rfl rfl) (g_of1 (Md := n_MdZ) g_Zs g_Zi (g_c149 (by decide +kernel)) rfl rfl rfl)), List.forall_mem_cons.mpr ⟨(n_G_and0 (n_of1 n_a153 rfl rfl rfl) (g_of1 (Md := n_MdZ) g_Zs g_Zi (g_c153 (by decide +kernel)) rfl rfl rfl)), List.forall_mem_cons.mpr ⟨(n_G_and0 (n_of1 n_a156 rfl rfl rfl) (g_of1 (Md := n_MdZ) g_Zs g_Zi (g_c156 (by decide +kernel)) rfl rfl rfl)), List.forall_mem_cons.mpr ⟨(n_P1 rfl (Or.inl ⟨(n_ofc (n_c157) rfl rfl rfl), rfl⟩) (Or.inr ⟨(g_of1 (Md := n_MdZ) g_Zs g_Zi (g_c157 (by decide +kernel)) rfl rfl rfl), rfl⟩)), List.forall_mem_cons.mpr ⟨(n_G_and0 (n_of1 n_a159 rfl rfl rfl) (g_of1 (Md := n_MdZ) g_Zs g_Zi (g_c159 (by decide +kernel)) rfl rfl rfl)), List.forall_mem_cons.mpr ⟨(n_G_and0 (n_of1 n_a162 rfl rfl rfl) (g_of1 (Md := n_MdZ) g_Zs g_Zi (g_c162 (by decide +kernel)) rfl rfl rfl)), List.forall_mem_cons.mpr ⟨(n_P1 rfl (Or.inl ⟨(n_ofc (n_c163) rfl rfl rfl), rfl⟩) (Or.inr ⟨(g_of1 (Md := n_MdZ) g_Zs g_Zi (g_c163 (by decide +kernel)) rfl rfl rfl), rfl⟩)), List.forall_mem_cons.mpr ⟨(n_P1 rfl (Or.inl ⟨(n_ofc (n_c165) rfl rfl rfl), rfl⟩) (Or.inr ⟨(g_of1 (Md := n_MdZ) g_Zs g_Zi (g_c165 (by decide +kernel)) rfl rfl rfl), rfl⟩)), List.forall_mem_cons.mpr ⟨(n_G_and0 (n_of1 n_a168 rfl rfl rfl) (g_of1 (Md := n_MdZ) g_Zs g_Zi (g_c168 (by decide +kernel)) rfl rfl rfl)), List.forall_mem_cons.mpr ⟨(n_P2 rfl (Or.inl ⟨(n_ofr (by decide) (n_r173) rfl rfl rfl), rfl⟩) (Or.inr ⟨(g_of1 (Md := n_MdZ) g_Zs g_Zi (g_r173 (by decide +kernel)) rfl rfl rfl), rfl⟩)), fun _ h => absurd h List.not_mem_nil⟩⟩⟩⟩⟩⟩⟩⟩⟩⟩⟩⟩⟩⟩⟩⟩⟩⟩⟩⟩⟩⟩
def n_tbx2 : nT := [(177, 155, 3, false, 1, 2, 17), (180, 155, 2, false, 1, 2, 21), (181, 155, 2, false, 1, 2, 24), (183, 155, 1, false, 1, 0, 0), (187, 155, 1, false, 1, 0, 0), (198, 155, 1, false, 1, 0, 0), (199, 155, 0, false, 1, 0, 0), (200, 155, 2, false, 1, 0, 0), (202, 155, 1, false, 1, 0, 0), (204, 155, 2, false, 1, 0, 0), (206, 155, 2, false, 1, 0, 0), (207, 155, 1, false, 1, 0, 0), (208, 155, 3, false, 3, 2, 61), (213, 155, 3, false, 1, 0, 0), (214, 155, 1, false, 1, 0, 0), (217, 155, 1, false, 1, 0, 0), (219, 155, 1, false, 1, 2, 74), (220, 155, 1, false, 1, 2, 76), (221, 155, 0, false, 1, 2, 77), (233, 155, 1, false, 1, 0, 0), (246, 155, 2, false, 1, 0, 0), (247, 155, 2, false, 1, 0, 0)]
theorem n_tbx2_G : ∀ e ∈ n_tbx2, n_G X n_IP n_MdP e := List.forall_mem_cons.mpr ⟨(n_P2 rfl (Or.inl ⟨(n_ofr (by decide) (n_r177) rfl rfl rfl), rfl⟩) (Or.inr ⟨(g_of1 (Md := n_MdZ) g_Zs g_Zi (g_r177 (by decide +kernel)) rfl rfl rfl), rfl⟩)), List.forall_mem_cons.mpr ⟨(n_P2 rfl (Or.inl ⟨(n_ofr (by decide) (n_r180) rfl rfl rfl), rfl⟩) (Or.inr ⟨(g_of1 (Md := n_MdZ) g_Zs g_Zi (g_r180 (by decide +kernel)) rfl rfl rfl), rfl⟩)), List.forall_mem_cons.mpr ⟨(n_P2 rfl (Or.inl ⟨(n_ofr (by decide) (n_r181) rfl rfl rfl), rfl⟩) (Or.inr ⟨(g_of1 (Md := n_MdZ) g_Zs g_Zi (g_r181 (by decide +kernel)) rfl rfl rfl), rfl⟩)), List.forall_mem_cons.mpr ⟨(n_G_and0 (n_of1 n_a183 rfl rfl rfl) (g_of1 (Md := n_MdZ) g_Zs g_Zi (g_r183 (by decide +kernel)) rfl rfl rfl)), List.forall_mem_cons.mpr ⟨(n_G_and0 (n_of1 n_a187 rfl rfl rfl) (g_of1 (Md := n_MdZ) g_Zs g_Zi (g_r187 (by decide +kernel)) rfl rfl rfl)), List.forall_mem_cons.mpr ⟨(n_G_and0 (n_of1 n_a198 rfl rfl rfl) (g_of1 (Md := n_MdZ) g_Zs g_Zi (g_r198 (by decide +kernel)) rfl rfl rfl)), List.forall_mem_cons.mpr ⟨(n_G_and0 (n_of1 n_a199 rfl rfl rfl) (g_of1 (Md := n_MdZ) g_Zs g_Zi (g_r199 (by decide +kernel)) rfl rfl rfl)), List.forall_mem_cons.mpr ⟨(n_G_and0 (n_of1 n_a200 rfl rfl rfl) (g_of1 (Md := n_MdZ) g_Zs g_Zi (g_r200 (by decide +kernel)) rfl rfl rfl)), List.forall_mem_cons.mpr ⟨(n_G_and0 (n_of1 n_a202 rfl rfl rfl) (g_of1 (Md := n_MdZ) g_Zs g_Zi (g_r202 (by decide +kernel)) rfl rfl rfl)), List.forall_mem_cons.mpr ⟨(n_G_and0 (n_of1 n_a204 rfl rfl rfl) (g_of1 (Md := n_MdZ) g_Zs g_Zi (g_r204 (by decide +kernel)) rfl rfl rfl)), List.forall_mem_cons.mpr ⟨(n_G_and0 (n_of1 n_a206 rfl rfl rfl) (g_of1 (Md := n_MdZ) g_Zs g_Zi (g_r206 (by decide +kernel)) rfl rfl rfl)), List.forall_mem_cons.mpr ⟨(n_G_and0 (n_of1 n_a207 rfl rfl rfl) (g_of1 (Md := n_MdZ) g_Zs g_Zi (g_r207 (by decide +kernel)) rfl rfl rfl)), List.forall_mem_cons.mpr ⟨n_C208, List.forall_mem_cons.mpr ⟨(n_G_and0 (n_of1 n_a213 rfl rfl rfl) (g_of1 (Md := n_MdZ) g_Zs g_Zi (g_r213 (by decide +kernel)) rfl rfl rfl)), List.forall_mem_cons.mpr ⟨(n_G_and0 (n_of1 n_a214 rfl rfl rfl) (g_of1 (Md := n_MdZ) g_Zs g_Zi (g_r214 (by decide +kernel)) rfl rfl rfl)), List.forall_mem_cons.mpr ⟨(n_G_and0 (n_of1 n_a217 rfl rfl rfl) (g_of1 (Md := n_MdZ) g_Zs g_Zi (g_r217 (by decide +kernel)) rfl rfl rfl)), List.forall_mem_cons.mpr ⟨(n_P2 rfl (Or.inl ⟨(n_ofr (by decide) (n_r219) rfl rfl rfl), rfl⟩) (Or.inr ⟨(g_of1 (Md := n_MdZ) g_Zs g_Zi (g_r219 (by decide +kernel)) rfl rfl rfl), rfl⟩)), List.forall_mem_cons.mpr ⟨(n_P2 rfl (Or.inl ⟨(n_ofr (by decide) (n_r220) rfl rfl rfl), rfl⟩) (Or.inr ⟨(g_of1 (Md := n_MdZ) g_Zs g_Zi (g_r220 (by decide +kernel)) rfl rfl rfl), rfl⟩)), List.forall_mem_cons.mpr ⟨(n_P2 rfl (Or.inl ⟨(n_ofrS n_r221 rfl rfl rfl), rfl⟩) (Or.inr ⟨(g_of1 (Md := n_MdZ) g_Zs g_Zi (g_r221 (by decide +kernel)) rfl rfl rfl), rfl⟩)), List.forall_mem_cons.mpr ⟨(n_G_and0 (n_of1 n_a233 rfl rfl rfl) (g_of1 (Md := n_MdZ) g_Zs g_Zi (g_r233 (by decide +kernel)) rfl rfl rfl)), List.forall_mem_cons.mpr ⟨(n_G_and0 (n_of1 n_a246 rfl rfl rfl) (g_of1 (Md := n_MdZ) g_Zs g_Zi (g_r246 (by decide +kernel)) rfl rfl rfl)), List.forall_mem_cons.mpr ⟨(n_G_and0 (n_of1 n_a247 rfl rfl rfl) (g_of1 (Md := n_MdZ) g_Zs g_Zi (g_r247 (by decide +kernel)) rfl rfl rfl)), fun _ h => absurd h List.not_mem_nil⟩⟩⟩⟩⟩⟩⟩⟩⟩⟩⟩⟩⟩⟩⟩⟩⟩⟩⟩⟩⟩⟩
def n_tbx3 : nT := [(248, 155, 1, false, 1, 0, 0), (249, 155, 4, false, 1, 0, 0), (250, 155, 2, false, 1, 0, 0), (254, 155, 1, false, 1, 0, 0), (255, 155, 2, false, 1, 2, 127), (256, 155, 2, false, 1, 0, 0), (262, 155, 2, false, 1, 0, 0), (263, 155, 2, false, 1, 0, 0), (265, 155, 4, false, 1, 0, 0), (267, 155, 2, false, 1, 0, 0), (268, 155, 3, false, 1, 0, 0), (270, 155, 5, false, 1, 0, 0), (271, 155, 2, false, 1, 0, 0), (272, 155, 2, false, 1, 0, 0), (273, 155, 3, true, 1, 2, 157), (274, 155, 1, false, 1, 0, 0), (278, 155, 1, false, 1, 0, 0), (279, 155, 1, false, 1, 2, 163), (280, 155, 1, false, 1, 2, 165), (281, 155, 1, false, 1, 0, 0), (283, 155, 2, false, 1, 0, 0), (287, 155, 1, false, 2, 0, 0)]
theorem n_tbx3_G : ∀ e ∈ n_tbx3, n_G X n_IP n_MdP e := List.forall_mem_cons.mpr ⟨(n_G_and0 (n_of1 n_a248 rfl rfl rfl) (g_of1 (Md := n_MdZ) g_Zs g_Zi (g_r248 (by decide +kernel)) rfl rfl rfl)), List.forall_mem_cons.mpr ⟨(n_G_and0 (n_of1 n_a249 rfl rfl rfl) (g_of1 (Md := n_MdZ) g_Zs g_Zi (g_r249 (by decide +kernel)) rfl rfl rfl)), List.forall_mem_cons.mpr ⟨(n_G_and0 (n_of1 n_a250 rfl rfl rfl) (g_of1 (Md := n_MdZ) g_Zs g_Zi (g_r250 (by decide +kernel)) rfl rfl rfl)), List.forall_mem_cons.mpr ⟨(n_G_and0 (n_of1 n_a254 rfl rfl rfl) (g_of1 (Md := n_MdZ) g_Zs g_Zi (g_r254 (by decide +kernel)) rfl rfl rfl)), List.forall_mem_cons.mpr ⟨(n_P2 rfl (Or.inl ⟨(n_ofr (by decide) (n_r255) rfl rfl rfl), rfl⟩) (Or.inr ⟨(g_of1 (Md := n_MdZ) g_Zs g_Zi (g_r255 (by decide +kernel)) rfl rfl rfl), rfl⟩)), List.forall_mem_cons.mpr ⟨(n_G_and0 (n_of1 n_a256 rfl rfl rfl) (g_of1 (Md := n_MdZ) g_Zs g_Zi (g_r256 (by decide +kernel)) rfl rfl rfl)), List.forall_mem_cons.mpr ⟨(n_G_and0 (n_of1 n_a262 rfl rfl rfl) (g_of1 (Md := n_MdZ) g_Zs g_Zi (g_r262 (by decide +kernel)) rfl rfl rfl)), List.forall_mem_cons.mpr ⟨(n_G_and0 (n_of1 n_a263 rfl rfl rfl) (g_of1 (Md := n_MdZ) g_Zs g_Zi (g_r263 (by decide +kernel)) rfl rfl rfl)), List.forall_mem_cons.mpr ⟨(n_G_and0 (n_of1 n_a265 rfl rfl rfl) (g_of1 (Md := n_MdZ) g_Zs g_Zi (g_r265 (by decide +kernel)) rfl rfl rfl)), List.forall_mem_cons.mpr ⟨(n_G_and0 (n_of1 n_a267 rfl rfl rfl) (g_of1 (Md := n_MdZ) g_Zs g_Zi (g_r267 (by decide +kernel)) rfl rfl rfl)), List.forall_mem_cons.mpr ⟨(n_G_and0 (n_of1 n_a268 rfl rfl rfl) (g_of1 (Md := n_MdZ) g_Zs g_Zi (g_r268 (by decide +kernel)) rfl rfl rfl)), List.forall_mem_cons.mpr ⟨(n_G_and0 (n_of1 n_a270 rfl rfl rfl) (g_of1 (Md := n_MdZ) g_Zs g_Zi (g_r270 (by decide +kernel)) rfl rfl rfl)), List.forall_mem_cons.mpr ⟨(n_G_and0 (n_of1 n_a271 rfl rfl rfl) (g_of1 (Md := n_MdZ) g_Zs g_Zi (g_r271 (by decide +kernel)) rfl rfl rfl)), List.forall_mem_cons.mpr ⟨(n_G_and0 (n_of1 n_a272 rfl rfl rfl) (g_of1 (Md := n_MdZ) g_Zs g_Zi (g_r272 (by decide +kernel)) rfl rfl rfl)), List.forall_mem_cons.mpr ⟨(n_P2 rfl (Or.inl ⟨(n_ofr (by decide) (n_r273) rfl rfl rfl), rfl⟩) (Or.inr ⟨(g_of1 (Md := n_MdZ) g_Zs g_Zi (g_r273 (by decide +kernel)) rfl rfl rfl), rfl⟩)), List.forall_mem_cons.mpr ⟨(n_G_and0 (n_of1 n_a274 rfl rfl rfl) (g_of1 (Md := n_MdZ) g_Zs g_Zi (g_r274 (by decide +kernel)) rfl rfl rfl)), List.forall_mem_cons.mpr ⟨(n_G_and0 (n_of1 n_a278 rfl rfl rfl) (g_of1 (Md := n_MdZ) g_Zs g_Zi (g_r278 (by decide +kernel)) rfl rfl rfl)), List.forall_mem_cons.mpr ⟨(n_P2 rfl (Or.inl ⟨(n_ofr (by decide) (n_r279) rfl rfl rfl), rfl⟩) (Or.inr ⟨(g_of1 (Md := n_MdZ) g_Zs g_Zi (g_r279 (by decide +kernel)) rfl rfl rfl), rfl⟩)), List.forall_mem_cons.mpr ⟨(n_P2 rfl (Or.inl ⟨(n_ofr (by decide) (n_r280) rfl rfl rfl), rfl⟩) (Or.inr ⟨(g_of1 (Md := n_MdZ) g_Zs g_Zi (g_r280 (by decide +kernel)) rfl rfl rfl), rfl⟩)), List.forall_mem_cons.mpr ⟨(n_G_and0 (n_of1 n_a281 rfl rfl rfl) (g_of1 (Md := n_MdZ) g_Zs g_Zi (g_r281 (by decide +kernel)) rfl rfl rfl)), List.forall_mem_cons.mpr ⟨(n_G_and0 (n_of1 n_a283 rfl rfl rfl) (g_of1 (Md := n_MdZ) g_Zs g_Zi (g_r283 (by decide +kernel)) rfl rfl rfl)), List.forall_mem_cons.mpr ⟨(n_G_and0 (n_of2 n_a287 rfl rfl rfl) (g_of2 (Md := n_MdZ) g_Zs g_Zi (g_r287 (by decide +kernel)) rfl rfl rfl)), fun _ h => absurd h List.not_mem_nil⟩⟩⟩⟩⟩⟩⟩⟩⟩⟩⟩⟩⟩⟩⟩⟩⟩⟩⟩⟩⟩⟩
theorem n_tb_e : n_tb = n_tbx0 ++ (n_tbx1 ++ (n_tbx2 ++ (n_tbx3))) := rfl
theorem n_tb_T : ∀ e ∈ n_tb, n_G X n_IP n_MdP e := by
  intro e h
  rw [n_tb_e] at h
  exact (List.mem_append.mp h).elim (fun h => n_tbx0_G e h) (fun h => (List.mem_append.mp h).elim (fun h => n_tbx1_G e h) (fun h => (List.mem_append.mp h).elim (fun h => n_tbx2_G e h) (fun h => n_tbx3_G e h)))
def l_offs : List Int := [196, 233, 282, 319, 356, 381, 406, 431, 444, 481, 506, 543, 580, 605, 654, 703, 728, 753, 778, 803, 816, 841, 878, 915, 940, 1001, 1038, 1063, 1100, 1137, 1174, 1211, 1272, 1309, 1358, 1431, 1468, 1505, 1602, 1627, 1652, 1677, 1702, 1727, 1767]
set_option maxRecDepth 100000 in
theorem l_chk : l_offs.all (fun o => decide (0 ≤ o) && n_run n_tb 400 1 [] none (l_to (40 + o).toNat a_cL) []) = true := by decide +kernel
theorem l_sufL : l_suf a_cL := ⟨[], rfl⟩
theorem l_at {t : Nat} {e : Nat × aI} {r : List (Nat × aI)} (h : l_to t a_cL = e :: r) : a_mL.2.2.2.2.2.lookup e.1 = some e.2 := (l_look (h ▸ l_suf_to l_sufL)).1
set_option maxRecDepth 100000 in
theorem l_1835 : l_to 1835 a_cL = (1835, .iinc 4 6, 3, 0, 0, 0, 0) :: l_to 1838 a_cL := rfl
set_option maxRecDepth 100000 in
theorem l_1838 : l_to 1838 a_cL = (1838, .goto (-1815), 3, 0, 23, 0, 0) :: l_to 1841 a_cL := rfl
set_option maxRecDepth 100000 in
theorem l_1841 : l_to 1841 a_cL = (1841, .iconst 1, 1, 0, 0, 0, 0) :: l_to 1842 a_cL := rfl
set_option maxRecDepth 100000 in
theorem l_1842 : l_to 1842 a_cL = [(1842, .ireturn, 1, 0, 0, 0, 0)] := rfl
theorem l_k1835 : a_mL.2.2.2.2.2.lookup 1835 = some (.iinc 4 6, 3, 0, 0, 0, 0) := by
  have h := l_at (e := (1835, .iinc 4 6, 3, 0, 0, 0, 0)) l_1835
  exact h
theorem l_k1838 : a_mL.2.2.2.2.2.lookup 1838 = some (.goto (-1815), 3, 0, 23, 0, 0) := by
  have h := l_at (e := (1838, .goto (-1815), 3, 0, 23, 0, 0)) l_1838
  exact h
theorem l_k1841 : a_mL.2.2.2.2.2.lookup 1841 = some (.iconst 1, 1, 0, 0, 0, 0) := by
  have h := l_at (e := (1841, .iconst 1, 1, 0, 0, 0, 0)) l_1841
  exact h
theorem l_k1842 : a_mL.2.2.2.2.2.lookup 1842 = some (.ireturn, 1, 0, 0, 0, 0) := by
  have h := l_at (e := (1842, .ireturn, 1, 0, 0, 0, 0)) l_1842
  exact h
end NJ
section LP
variable {xs : Nat → Int32} {L : Nat} {CB SB : Nat}
def l_fin (CB SB : Nat) (v : Option Value) (_ : aH) (C S : Nat) : Prop := v = some (.int 1) ∧ C ≤ CB ∧ S ≤ SB
theorem l_and63 (x : Int32) : 0 ≤ (x &&& 63).toInt ∧ (x &&& 63).toInt ≤ 63 := by
  have h : (x &&& 63).toBitVec.toNat ≤ 63 := by
    show (x.toBitVec &&& (63 : Int32).toBitVec).toNat ≤ 63
    rw [BitVec.toNat_and]
    exact Nat.and_le_right
  have e : (x &&& 63).toInt = (x &&& 63).toBitVec.toInt := rfl
  rw [e, BitVec.toInt_eq_toNat_cond, if_pos (by omega)]
  omega
theorem l_Lsub (hL : L ≤ 3072) : (Int32.ofNat L - (Int8.ofInt 6).toInt32).toInt = (L : Int) - 6 := by
  have e1 : (Int32.ofNat L).toInt = L := Int32.toInt_ofNat_of_lt (by omega)
  rw [Int32.toInt_sub, e1, show ((Int8.ofInt 6).toInt32).toInt = 6 by decide, Int.bmod_eq_of_le (by omega) (by omega)]
theorem l_out (a b c : Option Value) {iI : Int32} {H : aH} {C S : Nat} (hC : C ≤ CB) (hS : S ≤ SB) : aOK s_P (some (L, xs)) 202 a_mL 1841 (l_ls iI a b c) [] H C S (l_fin CB SB) := by
  refine aOK_op l_k1841 (show _ = some (1842, l_ls iI a b c, [.int 1], H, 0, 0) from rfl) ?_
  exact aOK_ret l_k1842 rfl (show _ = some (some (.int 1)) from rfl) (fun n q => by cases q) ⟨rfl, hC, hS⟩
theorem l_loop (hL : L ≤ 3072) : ∀ (n i : Nat) (iI : Int32), iI.toInt = i → i ≤ L + 6 → L < i + 6 * (n + 1) → ∀ (a b c : Option Value) (H : aH) (C S : Nat), n_IP H → C + n ≤ CB → S + 6 * n ≤ SB → aOK s_P (some (L, xs)) 202 a_mL 23 (l_ls iI a b c) [] H C S (l_fin CB SB) := by
  intro n
  have top : ∀ (i : Nat) (iI : Int32) (a b c : Option Value) (H : aH) (C S : Nat), iI.toInt = i → (L < i + 6 → aOK s_P (some (L, xs)) 202 a_mL 1841 (l_ls iI a b c) [] H C S (l_fin CB SB)) → (i + 6 ≤ L → aOK s_P (some (L, xs)) 202 a_mL 33 (l_ls iI a b c) [] H C S (l_fin CB SB)) → aOK s_P (some (L, xs)) 202 a_mL 23 (l_ls iI a b c) [] H C S (l_fin CB SB) := by
    intro i iI a b c H C S hi h1 h2
    refine aOK_op rfl (show _ = some (25, l_ls iI a b c, [.int iI], H, 0, 0) from rfl) ?_
    refine aOK_op rfl (show _ = some (26, l_ls iI a b c, [.ref 0, .int iI], H, 0, 0) from rfl) ?_
    refine aOK_op rfl (show _ = some (27, l_ls iI a b c, [.int (Int32.ofNat L), .int iI], H, 0, 0) from rfl) ?_
    refine aOK_op rfl (show _ = some (29, l_ls iI a b c, [.int (Int8.ofInt 6).toInt32, .int (Int32.ofNat L), .int iI], H, 0, 0) from rfl) ?_
    refine aOK_op rfl (show _ = some (30, l_ls iI a b c, [.int (Int32.ofNat L - (Int8.ofInt 6).toInt32), .int iI], H, 0, 0) from rfl) ?_
    refine aOK_op rfl (show _ = some (if a_cnd .gt iI (Int32.ofNat L - (Int8.ofInt 6).toInt32) then 1841 else 33, l_ls iI a b c, [], H, 0, 0) from rfl) ?_
    cases q : a_cnd .gt iI (Int32.ofNat L - (Int8.ofInt 6).toInt32) with
    | true =>
      have g : (Int32.ofNat L - (Int8.ofInt 6).toInt32).toInt < iI.toInt := (y_ci .gt _ _).mp q
      rw [l_Lsub hL, hi] at g
      exact h1 (by omega)
    | false =>
      have g : ¬ ((Int32.ofNat L - (Int8.ofInt 6).toInt32).toInt < iI.toInt) := y_cif q
      rw [l_Lsub hL, hi] at g
      exact h2 (by omega)
  induction n with
  | zero =>
    intro i iI hi hb hn a b c H C S hI hC hS
    exact top i iI a b c H C S hi (fun _ => l_out a b c (by omega) (by omega)) (fun q => by omega)
  | succ n ih =>
    intro i iI hi hb hn a b c H C S hI hC hS
    refine top i iI a b c H C S hi (fun _ => l_out a b c (by omega) (by omega)) (fun h6 => ?_)
    have hend : ∀ (a b c : Option Value) (H : aH) (C' S' : Nat), n_IP H → C' ≤ C + 1 → S' ≤ S + 6 → aOK s_P (some (L, xs)) 202 a_mL 1835 (l_ls iI a b c) [] H C' S' (l_fin CB SB) := by
      intro a b c H C' S' hI' hC' hS'
      refine aOK_op l_k1835 (show _ = some (1838, l_ls (iI + Int32.ofInt 6) a b c, [], H, 0, 0) from rfl) ?_
      refine aOK_op l_k1838 (show _ = some (23, l_ls (iI + Int32.ofInt 6) a b c, [], H, 0, 0) from rfl) ?_
      exact ih (i + 6) _ (y_addS _ hi (show (Int32.ofInt 6).toInt = (6 : Nat) by decide) rfl (by omega)) (by omega) (by omega) a b c H C' S' hI' (by omega) (by omega)
    refine aOK_op rfl (show _ = some (34, l_ls iI a b c, [.ref 0], H, 0, 0) from rfl) ?_
    refine aOK_op rfl (show _ = some (36, l_ls iI a b c, [.int iI, .ref 0], H, 0, 0) from rfl) ?_
    refine aOK_op rfl (l_scr (n := i) hi (by omega)) ?_
    refine aOK_op rfl (show _ = some (39, l_ls iI a b c, [.int (Int8.ofInt 63).toInt32, .int (xs i)], H, 0, 0) from rfl) ?_
    refine aOK_op rfl (show _ = some (40, l_ls iI a b c, [.int (xs i &&& (Int8.ofInt 63).toInt32)], H, 0, 0) from rfl) ?_
    have h63 : 0 ≤ (xs i &&& (Int8.ofInt 63).toInt32).toInt := by
      have : (Int8.ofInt 63).toInt32 = 63 := by decide
      rw [this]
      exact (l_and63 (xs i)).1
    generalize (xs i &&& (Int8.ofInt 63).toInt32) = x at h63
    by_cases q : x.toInt < 0 ∨ 44 < x.toInt
    · exact y_tsw_d (t := 1835) rfl q (by decide) (hend a b c H C S hI (by omega) (by omega))
    · have hx : ∃ v : Nat, x.toInt = v ∧ v < 45 := ⟨x.toInt.toNat, by omega, by omega⟩
      obtain ⟨v, hv, v45⟩ := hx
      have ho : ∃ o, l_offs[v]? = some o := ⟨_, List.getElem?_eq_getElem (show v < l_offs.length from v45)⟩
      obtain ⟨o, ho⟩ := ho
      have hc := List.all_eq_true.mp l_chk o (List.mem_of_getElem? ho)
      rw [Bool.and_eq_true, decide_eq_true_eq] at hc
      refine y_tsw_i (t := (40 + o).toNat) (o := o) rfl q ?_ ?_ ?_
      · rw [hv]
        show l_offs.toArray[((v : Int) - 0).toNat]? = some o
        rw [show ((v : Int) - 0).toNat = v by omega, List.getElem?_toArray]
        exact ho
      · show (if 0 ≤ ((40 : Nat) : Int) + o then some (((40 : Nat) : Int) + o).toNat else none) = _
        rw [if_pos (by omega)]
        rfl
      · exact n_run_ok (CB := C + 1) (SB := S + 6) (Md := n_MdP) (by omega) hL hi (fun H q => q.1.1.1) (fun _ _ _ H q => n_MdP_r q) n_tb_T (n_S_and n_S169 (g_S169 g_Zs g_Zi rfl)) (n_S_and n_S171 (g_S171 g_Zs g_Zi rfl)) hend 400 1 [] none _ [] hc.2 (l_suf_to l_sufL) (fun j z q => (by cases q)) _ (fun e r hr => l_to_hd hr) 0 [] trivial a b c H C S hI (by omega) (by omega)
end LP
end PT33j
