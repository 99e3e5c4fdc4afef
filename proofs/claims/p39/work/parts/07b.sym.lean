/-! ===== values on paper that hang on the script's ints: a row of tokens, run on a stack: a value, an int of the script, an instruction, a function's name ===== -/
abbrev sT : Type := Value ⊕ (Nat ⊕ (Instr ⊕ Nat))
abbrev sV : Type := List sT
abbrev sF : Type := Nat → Value → Value → Value
/-- what a stack instruction leaves on top -/
def s_top (i : Instr) (st : List Value) : Value := ((a_stk i (0, 0, 0, 0) st).getD []).headD .null
def s_u (i : Instr) (t : Nat) : Nat := match i, t with
  | .ineg, 1 => 1
  | .i2b, 1 => 1
  | .i2s, 1 => 1
  | .i2c, 1 => 1
  | .i2l, 1 => 2
  | .l2i, 2 => 1
  | .lneg, 2 => 2
  | _, _ => 0
def s_b (i : Instr) (t t' : Nat) : Nat := match i, t, t' with
  | .iadd, 1, 1 => 1
  | .isub, 1, 1 => 1
  | .imul, 1, 1 => 1
  | .iand, 1, 1 => 1
  | .ior, 1, 1 => 1
  | .ixor, 1, 1 => 1
  | .ishl, 1, 1 => 1
  | .ishr, 1, 1 => 1
  | .iushr, 1, 1 => 1
  | .idiv, 1, 1 => 1
  | .irem, 1, 1 => 1
  | .ladd, 2, 2 => 2
  | .lsub, 2, 2 => 2
  | .lmul, 2, 2 => 2
  | .land, 2, 2 => 2
  | .lor, 2, 2 => 2
  | .lxor, 2, 2 => 2
  | .ldiv, 2, 2 => 2
  | .lrem, 2, 2 => 2
  | .lcmp, 2, 2 => 1
  | .lushr, 2, 1 => 2
  | _, _, _ => 0
def s_div (i : Instr) : Bool := match i with
  | .idiv => true
  | .irem => true
  | .ldiv => true
  | .lrem => true
  | _ => false
def s_isu (i : Instr) : Bool := match i with
  | .ineg => true
  | .i2b => true
  | .i2s => true
  | .i2c => true
  | .i2l => true
  | .l2i => true
  | .lneg => true
  | _ => false
/-- a token's run -/
def s_tk (E : Nat → Int32) (F : sF) (st : List Value) (t : sT) : List Value := match t with
  | .inl x => x :: st
  | .inr (.inl i) => .int (E i) :: st
  | .inr (.inr (.inl i)) => if s_isu i then (match st with
    | a :: r => s_top i [a] :: r
    | _ => st) else match st with
    | b :: a :: r => s_top i [b, a] :: r
    | _ => st
  | .inr (.inr (.inr j)) => match st with
    | b :: a :: r => F j a b :: r
    | _ => st
def s_rn (E : Nat → Int32) (F : sF) (e : sV) (st : List Value) : List Value := e.foldl (s_tk E F) st
def s_ev (E : Nat → Int32) (F : sF) (e : sV) : Value := (s_rn E F e []).headD .null
/-- its types: 1 an int, 2 a long, 3 a reference; and whether it is known not to be 0 -/
def s_vt (w : Value) : Nat × Bool := match w with
  | .int n => (1, !decide (n = 0))
  | .long n => (2, !decide (n = 0))
  | .ref _ => (3, false)
  | _ => (0, false)
def s_tt (ts : List (Nat × Bool)) (t : sT) : Option (List (Nat × Bool)) := match t with
  | .inl x => some (s_vt x :: ts)
  | .inr (.inl _) => some ((1, false) :: ts)
  | .inr (.inr (.inl i)) => if s_isu i then (match ts with
    | a :: r => some ((s_u i a.1, false) :: r)
    | _ => none) else match ts with
    | b :: a :: r => some ((if s_div i && !b.2 then 0 else s_b i a.1 b.1, false) :: r)
    | _ => none
  | .inr (.inr (.inr j)) => match ts with
    | _ :: _ :: r => some ((if j = 0 then 1 else 2, !decide (j = 0)) :: r)
    | _ => none
def s_tr (ts : List (Nat × Bool)) (e : sV) : Option (List (Nat × Bool)) := match e with
  | [] => some ts
  | t :: r => match s_tt ts t with
    | some ts' => s_tr ts' r
    | none => none
def s_tn (e : sV) : Nat × Bool := match s_tr [] e with
  | some [q] => q
  | _ => (0, false)
def s_ty (e : sV) : Nat := (s_tn e).1
def s_nz (e : sV) : Bool := (s_tn e).2
/-- the function named 0 answers ints, the others longs that are not 0 -/
def s_Fok (F : sF) : Prop := ∀ a b, (∃ n, F 0 a b = .int n) ∧ ∀ j, ∃ n : Int64, F (j + 1) a b = .long n ∧ n ≠ 0
def s_tv (t : Nat) (w : Value) : Prop := (t = 1 → ∃ n, w = .int n) ∧ (t = 2 → ∃ n, w = .long n) ∧ (t = 3 → ∃ n, w = .ref n)
def s_qv (q : Nat × Bool) (w : Value) : Prop := s_tv q.1 w ∧ (q.2 = true → (∀ n, w = .int n → n ≠ 0) ∧ ∀ n, w = .long n → n ≠ 0)
theorem s_tv_int (n : Int32) : s_tv 1 (.int n) := ⟨fun _ => ⟨n, rfl⟩, fun e => absurd e (by decide), fun e => absurd e (by decide)⟩
theorem s_tv_long (n : Int64) : s_tv 2 (.long n) := ⟨fun e => absurd e (by decide), fun _ => ⟨n, rfl⟩, fun e => absurd e (by decide)⟩
theorem s_tv_0 (w : Value) : s_tv 0 w := ⟨fun e => absurd e (by decide), fun e => absurd e (by decide), fun e => absurd e (by decide)⟩
theorem s_qv_f {t : Nat} {w : Value} (h : s_tv t w) : s_qv (t, false) w := ⟨h, fun (e : false = true) => absurd e (by decide)⟩
/-- an instruction of one argument -/
theorem s_u_ok {i : Instr} {t : Nat} {w : Value} (hw : s_tv t w) (hne : s_u i t ≠ 0) : s_tv (s_u i t) (s_top i [w]) ∧ (∀ (k : aK) (r : List Value), a_stk i k (w :: r) = some (s_top i [w] :: r)) ∧ s_isu i = true := by
  unfold s_u at hne ⊢
  split at hne <;> first
    | (obtain ⟨n, rfl⟩ := hw.1 rfl; first | exact ⟨s_tv_int _, fun _ _ => rfl, rfl⟩ | exact ⟨s_tv_long _, fun _ _ => rfl, rfl⟩)
    | (obtain ⟨n, rfl⟩ := hw.2.1 rfl; first | exact ⟨s_tv_int _, fun _ _ => rfl, rfl⟩ | exact ⟨s_tv_long _, fun _ _ => rfl, rfl⟩)
    | exact absurd rfl hne
/-- an instruction of two -/
theorem s_b_ok {i : Instr} {t t' : Nat} {w w' : Value} (hw : s_tv t w) (hw' : s_tv t' w') (hd : s_div i = true → (∀ n, w' = .int n → n ≠ 0) ∧ ∀ n, w' = .long n → n ≠ 0) (hne : s_b i t t' ≠ 0) : s_tv (s_b i t t') (s_top i [w', w]) ∧ (∀ (k : aK) (r : List Value), a_stk i k (w' :: w :: r) = some (s_top i [w', w] :: r)) ∧ s_isu i = false := by
  unfold s_b at hne ⊢
  split at hne <;> first
    | (obtain ⟨n, rfl⟩ := hw.1 rfl; obtain ⟨n', rfl⟩ := hw'.1 rfl; first
        | exact ⟨s_tv_int _, fun _ _ => rfl, rfl⟩
        | (have h0 := (hd rfl).1 _ rfl
           refine ⟨?_, fun k r => ?_, rfl⟩
           · simp only [s_top, a_stk, a_iin, if_neg h0, Option.getD_some, List.headD_cons]; exact s_tv_int _
           · simp only [s_top, a_stk, a_iin, if_neg h0, Option.getD_some, List.headD_cons]))
    | (obtain ⟨n, rfl⟩ := hw.2.1 rfl; obtain ⟨n', rfl⟩ := hw'.2.1 rfl; first
        | exact ⟨s_tv_long _, fun _ _ => rfl, rfl⟩
        | exact ⟨s_tv_int _, fun _ _ => rfl, rfl⟩
        | (have h0 := (hd rfl).2 _ rfl
           refine ⟨?_, fun k r => ?_, rfl⟩
           · simp only [s_top, a_stk, a_lln, if_neg h0, Option.getD_some, List.headD_cons]; exact s_tv_long _
           · simp only [s_top, a_stk, a_lln, if_neg h0, Option.getD_some, List.headD_cons]))
    | (obtain ⟨n, rfl⟩ := hw.2.1 rfl; obtain ⟨n', rfl⟩ := hw'.1 rfl; exact ⟨s_tv_long _, fun _ _ => rfl, rfl⟩)
    | exact absurd rfl hne
theorem s_vt_ok (w : Value) : s_qv (s_vt w) w := by
  cases w with
  | int n => exact ⟨s_tv_int n, fun e => ⟨fun m q => by cases q; simpa [s_vt] using e, fun m q => by cases q⟩⟩
  | long n => exact ⟨s_tv_long n, fun e => ⟨fun m q => (by cases q), fun m q => by cases q; simpa [s_vt] using e⟩⟩
  | ref n => exact ⟨⟨fun (e : 3 = 1) => absurd e (by decide), fun (e : 3 = 2) => absurd e (by decide), fun _ => ⟨n, rfl⟩⟩, fun (e : false = true) => absurd e (by decide)⟩
  | _ => exact ⟨s_tv_0 _, fun (e : false = true) => absurd e (by decide)⟩
/-- types and values beside each other -/
def s_al (ts : List (Nat × Bool)) (vs : List Value) : Prop := match ts, vs with
  | [], [] => True
  | q :: ts, w :: vs => s_qv q w ∧ s_al ts vs
  | _, _ => False
theorem s_tt_ok {E : Nat → Int32} {F : sF} (hF : s_Fok F) {ts ts' : List (Nat × Bool)} {vs : List Value} {t : sT} (ha : s_al ts vs) (h : s_tt ts t = some ts') : ∃ vs', s_al ts' vs' ∧ ∀ r, s_tk E F (vs ++ r) t = vs' ++ r := by
  unfold s_tt at h
  split at h
  · rename_i x
    cases h
    exact ⟨x :: vs, ⟨s_vt_ok x, ha⟩, fun r => rfl⟩
  · rename_i i
    cases h
    exact ⟨.int (E i) :: vs, ⟨s_qv_f (s_tv_int _), ha⟩, fun r => rfl⟩
  · rename_i i
    split at h
    · rename_i hu
      split at h
      · rename_i a r
        cases h
        cases vs with
        | nil => exact ha.elim
        | cons w vs =>
          refine ⟨s_top i [w] :: vs, ⟨s_qv_f ?_, ha.2⟩, fun r => by simp only [s_tk, hu, if_true, List.cons_append]⟩
          by_cases h0 : s_u i a.1 = 0
          · rw [h0]; exact s_tv_0 _
          · exact (s_u_ok ha.1.1 h0).1
      · cases h
    · rename_i hu
      split at h
      · rename_i b a r
        cases h
        cases vs with
        | nil => exact ha.elim
        | cons w vs =>
          cases vs with
          | nil => exact ha.2.elim
          | cons w2 vs =>
            refine ⟨s_top i [w, w2] :: vs, ⟨s_qv_f ?_, ha.2.2⟩, fun r => by simp only [s_tk, hu, if_false, List.cons_append, Bool.false_eq_true]⟩
            split
            · exact s_tv_0 _
            · rename_i hd
              by_cases h0 : s_b i a.1 b.1 = 0
              · rw [h0]; exact s_tv_0 _
              · refine (s_b_ok ha.2.1.1 ha.1.1 (fun q => ?_) h0).1
                rw [q] at hd
                simp only [Bool.true_and, Bool.not_eq_true', Bool.not_eq_false] at hd
                exact ha.1.2 hd
      · cases h
  · rename_i j
    split at h
    · rename_i b a r
      cases h
      cases vs with
      | nil => exact ha.elim
      | cons w vs =>
        cases vs with
        | nil => exact ha.2.elim
        | cons w2 vs =>
          refine ⟨F j w2 w :: vs, ⟨?_, ha.2.2⟩, fun r => rfl⟩
          cases j with
          | zero =>
            obtain ⟨n, hn⟩ := (hF w2 w).1
            rw [hn]
            exact ⟨s_tv_int n, fun e => (by simp at e)⟩
          | succ j =>
            obtain ⟨n, hn, h0⟩ := (hF w2 w).2 j
            rw [hn]
            exact ⟨s_tv_long n, fun _ => ⟨fun m q => (by cases q), fun m q => by cases q; exact h0⟩⟩
    · cases h
theorem s_tr_ok {E : Nat → Int32} {F : sF} (hF : s_Fok F) : ∀ {e : sV} {ts ts' : List (Nat × Bool)} {vs : List Value}, s_al ts vs → s_tr ts e = some ts' → ∃ vs', s_al ts' vs' ∧ ∀ r, s_rn E F e (vs ++ r) = vs' ++ r
  | [], ts, ts', vs, ha, h => by cases h; exact ⟨vs, ha, fun r => rfl⟩
  | t :: e, ts, ts', vs, ha, h => by
    unfold s_tr at h
    split at h
    · rename_i ts1 h1
      obtain ⟨v1, a1, r1⟩ := s_tt_ok (E := E) hF ha h1
      obtain ⟨v2, a2, r2⟩ := s_tr_ok hF a1 h
      refine ⟨v2, a2, fun r => ?_⟩
      show s_rn E F e (s_tk E F (vs ++ r) t) = _
      rw [r1, r2]
    · cases h
theorem s_tn_ok {E : Nat → Int32} {F : sF} (hF : s_Fok F) {e : sV} (h : s_ty e ≠ 0) : s_qv (s_tn e) (s_ev E F e) ∧ ∀ r, s_rn E F e r = s_ev E F e :: r := by
  unfold s_ty at h
  unfold s_tn at h ⊢
  split at h
  · rename_i q hq
    obtain ⟨vs, a1, r1⟩ := s_tr_ok (E := E) (ts := []) (vs := []) hF (show s_al [] [] from trivial) hq
    cases vs with
    | nil => exact a1.elim
    | cons w vs =>
      cases vs with
      | cons _ _ => exact a1.2.elim
      | nil =>
        have e1 : s_ev E F e = w := by
          unfold s_ev
          rw [show s_rn E F e [] = [w] from r1 []]
          rfl
        rw [e1]
        exact ⟨a1.1, fun r => r1 r⟩
  · exact absurd rfl h
theorem s_ty_ok {E : Nat → Int32} {F : sF} (hF : s_Fok F) (e : sV) : s_tv (s_ty e) (s_ev E F e) := by
  by_cases h : s_ty e = 0
  · rw [h]; exact s_tv_0 _
  · exact (s_tn_ok hF h).1.1
theorem s_nz_ok {E : Nat → Int32} {F : sF} (hF : s_Fok F) {e : sV} (h0 : s_ty e ≠ 0) (h : s_nz e = true) : (∀ n, s_ev E F e = .int n → n ≠ 0) ∧ ∀ n, s_ev E F e = .long n → n ≠ 0 := (s_tn_ok hF h0).1.2 h
def s_bb (i : Instr) (a b : sV) : sV := a ++ (b ++ [.inr (.inr (.inl i))])
def s_uu (i : Instr) (a : sV) : sV := a ++ [.inr (.inr (.inl i))]
theorem s_bb_ev {E : Nat → Int32} {F : sF} (hF : s_Fok F) {i : Instr} {a b : sV} (ha : s_ty a ≠ 0) (hb : s_ty b ≠ 0) (hi : s_isu i = false) : s_ev E F (s_bb i a b) = s_top i [s_ev E F b, s_ev E F a] := by
  have e : s_rn E F (s_bb i a b) [] = [s_top i [s_ev E F b, s_ev E F a]] := by
    unfold s_bb s_rn
    rw [List.foldl_append, List.foldl_append]
    rw [show List.foldl (s_tk E F) [] a = _ from (s_tn_ok hF ha).2 []]
    rw [show List.foldl (s_tk E F) [s_ev E F a] b = _ from (s_tn_ok hF hb).2 _]
    simp only [List.foldl_cons, List.foldl_nil, s_tk, hi, Bool.false_eq_true, if_false]
  show (s_rn E F (s_bb i a b) []).headD .null = _
  rw [e]; rfl
theorem s_uu_ev {E : Nat → Int32} {F : sF} (hF : s_Fok F) {i : Instr} {a : sV} (ha : s_ty a ≠ 0) (hi : s_isu i = true) : s_ev E F (s_uu i a) = s_top i [s_ev E F a] := by
  have e : s_rn E F (s_uu i a) [] = [s_top i [s_ev E F a]] := by
    unfold s_uu s_rn
    rw [List.foldl_append]
    rw [show List.foldl (s_tk E F) [] a = _ from (s_tn_ok hF ha).2 []]
    simp only [List.foldl_cons, List.foldl_nil, s_tk, hi, if_true]
  show (s_rn E F (s_uu i a) []).headD .null = _
  rw [e]; rfl
