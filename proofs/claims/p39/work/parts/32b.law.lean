/-! ===== v4: one turn of the law's loop, by a machine of its own ===== -/
/-- on the law's stack: the script's int at i + j; a value; some int (1), some long (2), the int that is compared (3) -/
abbrev lO : Type := Nat ⊕ (Value ⊕ Nat)
def l_v (xs : Nat → Int32) (i : Nat) (g : Int32) (o : lO) (w : Value) : Prop := match o with
  | .inl j => w = .int (xs (i + j))
  | .inr (.inl v) => w = v
  | .inr (.inr 1) => ∃ x : Int32, w = .int x
  | .inr (.inr 2) => ∃ x : Int64, w = .long x
  | .inr (.inr _) => w = .int g
def l_st (xs : Nat → Int32) (i : Nat) (g : Int32) : List lO → List Value → Prop
  | [], [] => True
  | o :: os, w :: ws => l_v xs i g o w ∧ l_st xs i g os ws
  | _, _ => False
/-- entries that follow one another -/
def l_seq : List (Nat × aI) → Bool
  | e :: e' :: r => Nat.beq (e.1 + e.2.2.1) e'.1 && Nat.blt 0 e.2.2.1 && l_seq (e' :: r)
  | _ => true
def l_to (t : Nat) : List (Nat × aI) → List (Nat × aI)
  | [] => []
  | e :: r => cond (Nat.beq e.1 t) (e :: r) (l_to t r)
/-- a method: its receiver, how many ints, whether they are 0 or 1, what it answers -/
abbrev lT : Type := List (Nat × Nat × Nat × Bool × Nat)
def l_int (b : Bool) (o : lO) : Bool := match o with
  | .inl _ => !b
  | .inr (.inl (.int x)) => !b || decide (x = 0) || decide (x = 1)
  | _ => false
def l_fa : Nat → List lO
  | 0 => []
  | n + 1 => .inl (n + 1) :: l_fa n
def l_run (T : lT) : Nat → Nat → List (Nat × aI) → List lO → Bool
  | 0, _, _, _ => false
  | _ + 1, _, [], _ => false
  | n + 1, u, (_, i, len, k) :: r, st => match i with
    | .aload_n 0 => (match r with
      | (_, .iload 4, _) :: (_, .iconst j, _) :: (_, .iadd, _) :: (_, .iaload, _) :: r' => decide (0 ≤ j) && decide (j ≤ 5) && l_run T n u r' (.inl j.toNat :: st)
      | _ => false)
    | .aload_n 1 => l_run T n u r (.inr (.inl (.ref 2)) :: st)
    | .aload_n 2 => l_run T n u r (.inr (.inl (.ref 155)) :: st)
    | .aload_n 3 => l_run T n u r (.inr (.inl (.ref 197)) :: st)
    | .iconst c => l_run T n u r (.inr (.inl (.int (Int32.ofInt c))) :: st)
    | .ifCond .eq _ => (match st with
      | .inl _ :: st' => decide (len = 3) && l_run T n u (l_to k.2.1 r) st' && l_run T n u r st'
      | _ => false)
    | .goto _ => (match st with
      | [] => Nat.beq k.2.1 1835
      | _ => false) || l_run T n u (l_to k.2.1 r) st
    | .pop => (match st with
      | .inr (.inr 1) :: st' => l_run T n u r st'
      | _ => false)
    | .istore 5 => (match st with
      | .inr (.inr 1) :: st' => l_run T n u r st'
      | _ => false)
    | .istore 6 => (match st with
      | .inr (.inr 1) :: st' => l_run T n u r st'
      | _ => false)
    | .lstore 6 => (match st with
      | .inr (.inr 2) :: st' => l_run T n u r st'
      | _ => false)
    | .if_icmp .eq _ => (match st with
      | [.inr (.inr 3), .inr (.inr 3)] => Nat.beq k.2.1 1835
      | _ => false)
    | .invokevirtual _ => (match T.lookup k.2.1 with
      | some (r0, m, b, ty) => Nat.beq k.1 4 && ((Nat.beq r0 2 && Nat.beq k.2.2.1 11) || (Nat.beq r0 155 && Nat.beq k.2.2.1 12)) && Nat.beq (st.take m).length m && (st.take m).all (l_int b) && (cond (Nat.beq ty 3) (decide (st.take m = l_fa m)) true) && (match st.drop m with
        | .inr (.inl (.ref q)) :: [] => Nat.beq q r0 && l_run T n u r [.inr (.inr ty)]
        | [.inr (.inl (.ref q)), .inr (.inr 3)] => Nat.beq q r0 && l_run T n u r [.inr (.inr ty), .inr (.inr 3)]
        | _ => false)
      | none => false)
    | .invokestatic _ => (match st with
      | .inr (.inl (.ref 197)) :: st' => Nat.beq k.1 20 && Nat.beq u 1 && ((Nat.beq k.2.1 169 && (match st' with
          | [.inl _, .inl _, .inr (.inl (.ref 2))] => true
          | _ => false)) || (Nat.beq k.2.1 171 && (match st' with
          | [.inl _, .inr (.inl (.ref 2))] => true
          | _ => false))) && l_run T n 0 r [.inr (.inr 1)]
      | _ => false)
    | _ => false
theorem l_seq_lt : ∀ {r : List (Nat × aI)} {e : Nat × aI}, l_seq (e :: r) = true → ∀ e' ∈ r, e.1 < e'.1 := by
  intro r
  induction r with
  | nil => intro e _ e' h; cases h
  | cons f r ih =>
    intro e h e' he'
    unfold l_seq at h
    simp only [Bool.and_eq_true] at h
    obtain ⟨⟨h1, h2⟩, h3⟩ := h
    have q1 := Nat.eq_of_beq_eq_true h1
    have q2 : 0 < e.2.2.1 := by rw [Nat.blt_eq] at h2; exact h2
    rcases List.mem_cons.mp he' with rfl | h4
    · omega
    · have := ih h3 e' h4
      omega
theorem l_seq_tl {e : Nat × aI} {r : List (Nat × aI)} (h : l_seq (e :: r) = true) : l_seq r = true := by
  cases r with
  | nil => rfl
  | cons f r =>
    unfold l_seq at h
    simp only [Bool.and_eq_true] at h
    exact h.2
theorem l_seq_look : ∀ {pre : List (Nat × aI)} {e : Nat × aI} {r : List (Nat × aI)}, l_seq (pre ++ e :: r) = true → (pre ++ e :: r).lookup e.1 = some e.2 ∧ l_seq (e :: r) = true := by
  intro pre
  induction pre with
  | nil =>
    intro e r h
    refine ⟨?_, h⟩
    rw [List.nil_append, List.lookup_cons, beq_self_eq_true]
  | cons f pre ih =>
    intro e r h
    have h1 := l_seq_lt h e (List.mem_append_right _ List.mem_cons_self)
    obtain ⟨h2, h3⟩ := ih (l_seq_tl h)
    refine ⟨?_, h3⟩
    rw [List.cons_append, List.lookup_cons]
    have : (e.1 == f.1) = false := beq_eq_false_iff_ne.mpr (by omega)
    rw [this]
    exact h2
set_option maxRecDepth 100000 in
theorem l_seqL : l_seq a_cL = true := by decide +kernel
def l_suf (code : List (Nat × aI)) : Prop := ∃ pre, a_cL = pre ++ code
theorem l_suf_t {e : Nat × aI} {r : List (Nat × aI)} (h : l_suf (e :: r)) : l_suf r := by
  obtain ⟨pre, h⟩ := h
  exact ⟨pre ++ [e], by rw [h, List.append_assoc]; rfl⟩
theorem l_suf_to {t : Nat} : ∀ {r : List (Nat × aI)}, l_suf r → l_suf (l_to t r) := by
  intro r
  induction r with
  | nil => intro h; exact h
  | cons e r ih =>
    intro h
    unfold l_to
    cases Nat.beq e.1 t with
    | true => exact h
    | false => exact ih (l_suf_t h)
theorem l_to_hd {t : Nat} : ∀ {r r' : List (Nat × aI)} {e : Nat × aI}, l_to t r = e :: r' → e.1 = t := by
  intro r
  induction r with
  | nil => intro r' e h; cases h
  | cons f r ih =>
    intro r' e h
    unfold l_to at h
    cases hb : Nat.beq f.1 t with
    | true =>
      rw [hb] at h
      cases h
      exact Nat.eq_of_beq_eq_true hb
    | false =>
      rw [hb] at h
      exact ih h
theorem l_look {e : Nat × aI} {r : List (Nat × aI)} (h : l_suf (e :: r)) : a_mL.2.2.2.2.2.lookup e.1 = some e.2 ∧ ∀ f r', r = f :: r' → f.1 = e.1 + e.2.2.1 := by
  obtain ⟨pre, h⟩ := h
  have hs := l_seqL
  rw [h] at hs
  obtain ⟨h1, h2⟩ := l_seq_look hs
  refine ⟨?_, fun f r' hr => ?_⟩
  · show a_cL.lookup e.1 = _
    rw [h]
    exact h1
  · subst hr
    unfold l_seq at h2
    simp only [Bool.and_eq_true] at h2
    exact (Nat.eq_of_beq_eq_true h2.1.1).symm
section LR
variable {L : Nat} {xs : Nat → Int32} {i : Nat} {g : Int32}
theorem l_scr {idx : Int32} {n len pc : Nat} {k : aK} {ls : aL} {ws : List Value} {H : aH} (h1 : idx.toInt = n) (h2 : n < L) : a_op (some (L, xs)) .iaload len k pc ls (.int idx :: .ref 0 :: ws) H = some (pc + len, ls, .int (xs n) :: ws, H, 0, 0) := by
  have e : a_scr (some (L, xs)) .iaload (.int idx :: .ref 0 :: ws) = some (.int (xs n) :: ws) := by
    show (if idx < 0 ∨ L ≤ idx.toNatClampNeg then none else some (Value.int (xs idx.toNatClampNeg) :: ws)) = _
    have hc : idx.toNatClampNeg = n := by
      show idx.toInt.toNat = n
      rw [h1]; rfl
    rw [if_neg (w_ix (n := L) (by omega) (by omega)).1, hc]
  show (match a_scr (some (L, xs)) .iaload (.int idx :: .ref 0 :: ws) with
    | some st' => some (pc + len, ls, st', H, 0, 0)
    | none => none) = _
  rw [e]
theorem l_st_app {m : Nat} : ∀ {st : List lO} {ws : List Value}, l_st xs i g st ws → l_st xs i g (st.take m) (ws.take m) ∧ l_st xs i g (st.drop m) (ws.drop m) := by
  induction m with
  | zero => intro st ws h; exact ⟨trivial, h⟩
  | succ m ih =>
    intro st ws h
    cases st with
    | nil => cases ws with
      | nil => exact ⟨trivial, trivial⟩
      | cons w ws => cases h
    | cons o st => cases ws with
      | nil => cases h
      | cons w ws =>
        have := ih h.2
        exact ⟨⟨h.1, this.1⟩, this.2⟩
theorem l_st_len : ∀ {st : List lO} {ws : List Value}, l_st xs i g st ws → ws.length = st.length := by
  intro st
  induction st with
  | nil => intro ws h; cases ws with
    | nil => rfl
    | cons w ws => cases h
  | cons o st ih => intro ws h; cases ws with
    | nil => cases h
    | cons w ws => rw [List.length_cons, List.length_cons, ih h.2]
theorem l_ints {b : Bool} : ∀ {st : List lO} {ws : List Value}, l_st xs i g st ws → st.all (l_int b) = true → ∃ us : List Int32, ws = us.map .int ∧ (b = true → ∀ u ∈ us, 0 ≤ u.toInt ∧ u.toInt ≤ 1) := by
  intro st
  induction st with
  | nil => intro ws h _; cases ws with
    | nil => exact ⟨[], rfl, fun _ u hu => by cases hu⟩
    | cons w ws => cases h
  | cons o st ih =>
    intro ws h ha
    cases ws with
    | nil => cases h
    | cons w ws =>
      rw [List.all_cons, Bool.and_eq_true] at ha
      obtain ⟨us, e1, e2⟩ := ih h.2 ha.2
      have : ∃ u : Int32, w = .int u ∧ (b = true → 0 ≤ u.toInt ∧ u.toInt ≤ 1) := by
        have h0 := h.1
        have ha0 := ha.1
        unfold l_int at ha0
        split at ha0
        · rename_i j
          refine ⟨_, h0, fun q => ?_⟩
          rw [q] at ha0
          cases ha0
        · rename_i x
          refine ⟨x, h0, fun q => ?_⟩
          rw [q] at ha0
          simp only [Bool.not_true, Bool.false_or, Bool.or_eq_true, decide_eq_true_eq] at ha0
          rcases ha0 with rfl | rfl <;> decide
        · cases ha0
      obtain ⟨u, rfl, hu⟩ := this
      subst e1
      refine ⟨u :: us, rfl, fun q v hv => ?_⟩
      rcases List.mem_cons.mp hv with rfl | hv
      · exact hu q
      · exact e2 q v hv
theorem l_fa_ok : ∀ {m : Nat} {ws : List Value}, l_st xs i g (l_fa m) ws → ws.reverse = (List.range m).map (fun a => Value.int (xs (i + (a + 1)))) := by
  intro m
  induction m with
  | zero => intro ws h; cases ws with
    | nil => rfl
    | cons w ws => cases h
  | succ m ih =>
    intro ws h
    cases ws with
    | nil => cases h
    | cons w ws =>
      rw [List.reverse_cons, ih h.2, List.range_succ, List.map_append]
      have : w = .int (xs (i + (m + 1))) := h.1
      rw [this]
      rfl
theorem l_ae {r : Nat} (us : List Int32) : a_entry (.ref r :: us.map .int) = some (.ref r) :: us.map (fun u => some (.int u)) := by
  have e : ∀ (us : List Int32), a_entry (us.map .int) = us.map (fun u => some (.int u)) := by
    intro us
    induction us with
    | nil => rfl
    | cons u us ih =>
      show a_entry (.int u :: us.map .int) = _
      unfold a_entry
      rw [if_neg (Nat.ne_of_beq_eq_false rfl), ih]
      rfl
  show (if _ then _ else _) = _
  rw [if_neg (Nat.ne_of_beq_eq_false rfl), e]
/-- what is told of the methods that the law calls -/
def l_T (X : aX) (xs : Nat → Int32) (i : Nat) (g : Int32) (T : lT) : Prop := ∀ j r0 m b ty, T.lookup j = some (r0, m, b, ty) → ∃ M, s_P[j]? = some M ∧ M.2.2.2.2.1 = m ∧ Nat.ble (m + 1) M.2.2.1 = true ∧
  ∀ (us : List Int32) (h : aH) (C S : Nat) (K0 : Option Value → aH → Nat → Nat → Prop), us.length = m → (b = true → ∀ u ∈ us, 0 ≤ u.toInt ∧ u.toInt ≤ 1) → (ty = 3 → us.map Value.int = (List.range m).map (fun a => Value.int (xs (i + (a + 1))))) → t_I h →
    (∀ (w : Value) (H : aH), t_I H → l_v xs i g (.inr (.inr ty)) w → K0 (some w) H C S) → aOK s_P X 200 M 0 (a_ent (.ref r0 :: us.map .int) M.2.2.1) [] h C S K0
def l_S (X : aX) (j : Nat) (n : Nat) : Prop := ∃ M, s_P[j]? = some M ∧ M.2.2.2.2.1 = n + 2 ∧ Nat.ble (n + 2) M.2.2.1 = true ∧ ∀ (us : List Int32) (h : aH) (C S : Nat) (K0 : Option Value → aH → Nat → Nat → Prop), us.length = n → t_I h →
    (∀ (x : Int32) (H : aH) (C' S' : Nat), t_I H → C' ≤ C + 1 → S' ≤ S + 6 → K0 (some (.int x)) H C' S') → aOK s_P X 201 M 0 (a_ent (.ref 2 :: (us.map .int ++ [.ref 197])) M.2.2.1) [] h C S K0
theorem l_vnr {t : Nat} {w : Value} (h : l_v xs i g (.inr (.inr t)) w) : ∀ n, (some w : Option Value) ≠ some (.retAddr n) := by
  intro n q
  cases q
  unfold l_v at h
  split at h
  · rename_i e; cases e
  · rename_i e; cases e
  · obtain ⟨x, h⟩ := h
    cases h
  · obtain ⟨x, h⟩ := h
    cases h
  · cases h
theorem l_recv {H : aH} (hr : w_hr z_D H) {r0 ci : Nat} (h : ((Nat.beq r0 2 && Nat.beq ci 11) || (Nat.beq r0 155 && Nat.beq ci 12)) = true) : a_recv H (.ref r0) ci = true := by
  have key : ∀ (o ci : Nat) (ks : List zK), z_D o = some (.inr (.inl (ci, ks))) → a_recv H (.ref (o + 2)) ci = true := by
    intro o ci ks hD
    obtain ⟨e, h1, h2⟩ := hr.1 o _ hD
    obtain ⟨vs, e1, -, -⟩ := h2
    subst e1
    unfold a_recv
    dsimp only
    rw [h1]
    exact decide_eq_true rfl
  simp only [Bool.or_eq_true, Bool.and_eq_true] at h
  rcases h with ⟨h1, h2⟩ | ⟨h1, h2⟩
  · have e1 := Nat.eq_of_beq_eq_true h1
    have e2 := Nat.eq_of_beq_eq_true h2
    subst e1; subst e2
    exact key 0 11 _ rfl
  · have e1 := Nat.eq_of_beq_eq_true h1
    have e2 := Nat.eq_of_beq_eq_true h2
    subst e1; subst e2
    exact key 153 12 _ rfl
theorem l_set6 {p0 p1 p2 p3 p4 a b c : Option Value} {v : Value} : ∃ a', a_set1 [p0, p1, p2, p3, p4, a, b, c] 6 v = [p0, p1, p2, p3, p4, a', some v, c] := by
  cases a with
  | none => exact ⟨none, rfl⟩
  | some w => cases w with
    | long x => exact ⟨none, rfl⟩
    | double x => exact ⟨none, rfl⟩
    | _ => exact ⟨_, rfl⟩
theorem l_set62 {p0 p1 p2 p3 p4 a b c : Option Value} {v : Value} : ∃ a', a_set2 [p0, p1, p2, p3, p4, a, b, c] 6 v = [p0, p1, p2, p3, p4, a', some v, none] := by
  obtain ⟨a', h⟩ := l_set6 (p0 := p0) (p1 := p1) (p2 := p2) (p3 := p3) (p4 := p4) (a := a) (b := b) (c := c) (v := v)
  refine ⟨a', ?_⟩
  show (a_set1 [p0, p1, p2, p3, p4, a, b, c] 6 v).set 7 none = _
  rw [h]
  rfl
end LR
