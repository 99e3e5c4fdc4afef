/-! ===== the machine on such values ===== -/
abbrev sL : Type := List (Option sV)
/-- a frame that waits: method, where it goes on, locals, stack, the call's link -/
abbrev sFr : Type := aM × Nat × sL × List sV × Nat
/-- depth, method, place, locals, stack, frames, heap, facts, cells, slots -/
abbrev sC : Type := Nat × aM × Nat × sL × List sV × List sFr × sH × sFa × Nat × Nat
def s_at (a : sA) (j : Nat) : sV := (a.2.2.2.lookup j).getD a.2.2.1
def s_toI (w : Value) : Int32 := match w with
  | .int n => n
  | _ => 0
def s_toL (w : Value) : Int64 := match w with
  | .long n => n
  | _ => 0
def s_toR (w : Value) : Option Nat := match w with
  | .ref n => some n
  | _ => none
section SEV
variable (E : Nat → Int32) (F : sF)
def s_els (l : sL) : aL := l.map (fun o => o.map (s_ev E F))
def s_est (l : List sV) : List Value := l.map (s_ev E F)
def s_eA (a : sA) : aA := if a.1 = 1 then .inr (.inl ((List.range a.2.1).map (fun j => s_toL (s_ev E F (s_at a j))))) else
  if 4 ≤ a.1 then .inr (.inr ((List.range a.2.1).map (fun j => s_toR (s_ev E F (s_at a j))))) else .inl ((List.range a.2.1).map (fun j => s_toI (s_ev E F (s_at a j))))
def s_eE (q : sE) : aE := match q with
  | .inl a => .inl (a.1, s_eA E F a)
  | .inr (ci, fs) => .inr (ci, s_est E F fs)
def s_eH (h : sH) : aH := (List.range h.1).map (fun o => s_eE E F (s_hg h.2 o))
end SEV
def s_bty (i : Instr) (a b : sV) : Nat := if s_div i && !s_nz b then 0 else s_b i (s_ty a) (s_ty b)
/-- an int of the script, and another one time and again -/
def s_lin (i : Instr) (a b : sV) : Option sV := match i, a, b with
  | .iadd, [.inr (.inl x)], [.inr (.inl y)] => some [.inr (.inl x), .inl (.int 1), .inr (.inl y), .inr (.inr (.inl .imul)), .inr (.inr (.inl .iadd))]
  | .iadd, [.inr (.inl x)], [.inl (.int n), .inr (.inl _), .inr (.inr (.inl .imul))] => if n = 0 then some [.inr (.inl x)] else none
  | .iadd, [.inr (.inl x), .inl (.int n), .inr (.inl y), .inr (.inr (.inl .imul)), .inr (.inr (.inl .iadd))], [.inr (.inl z)] => if y = z then some [.inr (.inl x), .inl (.int (n + 1)), .inr (.inl y), .inr (.inr (.inl .imul)), .inr (.inr (.inl .iadd))] else none
  | _, _, _ => none
def s_mkb (i : Instr) (a b : sV) : sV := match a, b with
  | [.inl x], [.inl y] => [.inl (s_top i [y, x])]
  | _, _ => match s_lin i a b with
    | some e => e
    | none => s_bb i a b
theorem s_lin_ev {E : Nat → Int32} {F : sF} {i : Instr} {a b e : sV} (h : s_lin i a b = some e) : s_ev E F e = s_top i [s_ev E F b, s_ev E F a] := by
  unfold s_lin at h
  split at h
  · cases h
    rename_i x y
    show Value.int (E x + 1 * E y) = Value.int (E x + E y)
    rw [Int32.one_mul]
  · split at h
    · rename_i x n y hn
      cases h
      subst hn
      show Value.int (E x) = Value.int (E x + 0 * E y)
      rw [Int32.zero_mul, Int32.add_zero]
    · cases h
  · split at h
    · rename_i x n y z hz
      cases h
      subst hz
      show Value.int (E x + (n + 1) * E y) = Value.int (E x + n * E y + E y)
      rw [Int32.add_mul, Int32.one_mul, Int32.add_assoc]
    · cases h
  · cases h
def s_mku (i : Instr) (a : sV) : sV := match a with
  | [.inl x] => [.inl (s_top i [x])]
  | _ => s_uu i a
theorem s_mkb_ev {E : Nat → Int32} {F : sF} (hF : s_Fok F) {i : Instr} {a b : sV} (ha : s_ty a ≠ 0) (hb : s_ty b ≠ 0) (hi : s_isu i = false) : s_ev E F (s_mkb i a b) = s_top i [s_ev E F b, s_ev E F a] := by
  unfold s_mkb
  split
  · rfl
  · split
    · rename_i h
      exact s_lin_ev h
    · exact s_bb_ev hF ha hb hi
theorem s_mku_ev {E : Nat → Int32} {F : sF} (hF : s_Fok F) {i : Instr} {a : sV} (ha : s_ty a ≠ 0) (hi : s_isu i = true) : s_ev E F (s_mku i a) = s_top i [s_ev E F a] := by
  unfold s_mku
  split
  · rfl
  · exact s_uu_ev hF ha hi
theorem s_u0 (i : Instr) : s_u i 0 = 0 := by unfold s_u; split <;> first | rfl | contradiction
theorem s_b0 (i : Instr) (t : Nat) : s_b i 0 t = 0 := by unfold s_b; split <;> first | rfl | contradiction
theorem s_b0' (i : Instr) (t : Nat) : s_b i t 0 = 0 := by unfold s_b; split <;> first | rfl | contradiction
/-- a constant -/
def s_con (i : Instr) (k : aK) : Option Value := match i with
  | .iconst n => some (.int (Int32.ofInt n))
  | .bipush n => some (.int (Int8.ofInt n).toInt32)
  | .sipush n => some (.int (Int16.ofInt n).toInt32)
  | .lconst n => some (.long (Int64.ofNat (n : Nat)))
  | .ldc _ => if k.1 = 15 then some (.int (Int32.ofInt k.2.2.2)) else none
  | .ldc_w _ => if k.1 = 15 then some (.int (Int32.ofInt k.2.2.2)) else none
  | .ldc2_w _ => if k.1 = 16 then some (.long (Int64.ofInt k.2.2.2)) else none
  | _ => none
def s_one1 (e : sV) : Bool := decide (s_ty e = 1) || decide (s_ty e = 3)
def s_stk (i : Instr) (k : aK) (st : List sV) : Option (List sV) := match s_con i k with
  | some w => some ([.inl w] :: st)
  | none => match i with
    | .dup => match st with
      | a :: r => if s_one1 a then some (a :: a :: r) else none
      | _ => none
    | .pop => match st with
      | a :: r => if s_one1 a then some r else none
      | _ => none
    | .dup2 => match st with
      | a :: b :: r => if s_one1 a && s_one1 b then some (a :: b :: a :: b :: r) else none
      | _ => none
    | _ => if s_isu i then (match st with
      | a :: r => if s_u i (s_ty a) = 0 then none else some (s_mku i a :: r)
      | _ => none) else match st with
      | b :: a :: r => if s_bty i a b = 0 then none else some (s_mkb i a b :: r)
      | _ => none
theorem s_con_ok {i : Instr} {k : aK} {w : Value} (h : s_con i k = some w) (r : List Value) : a_stk i k r = some (w :: r) := by
  unfold s_con at h
  split at h <;> first
    | (cases h; rfl)
    | (split at h
       · rename_i e
         cases h
         simp only [a_stk, e, if_true]
       · cases h)
    | cases h
theorem s_one1_ok {E : Nat → Int32} {F : sF} (hF : s_Fok F) {e : sV} (h : s_one1 e = true) : (s_ev E F e).category = 1 := by
  unfold s_one1 at h
  simp only [Bool.or_eq_true, decide_eq_true_eq] at h
  rcases h with h | h
  · obtain ⟨n, q⟩ := (s_ty_ok (E := E) hF e).1 h
    rw [q]; rfl
  · obtain ⟨n, q⟩ := (s_ty_ok (E := E) hF e).2.2 h
    rw [q]; rfl
theorem s_stk_ok {E : Nat → Int32} {F : sF} (hF : s_Fok F) {i : Instr} {k : aK} {st st' : List sV} (h : s_stk i k st = some st') : a_stk i k (s_est E F st) = some (s_est E F st') := by
  unfold s_stk at h
  split at h
  · rename_i w hw
    cases h
    exact s_con_ok hw _
  · split at h
    · split at h
      · split at h
        · rename_i a r q
          cases h
          simp only [a_stk, s_est, List.map_cons, a_dup, s_one1_ok hF q, if_true]
        · cases h
      · cases h
    · split at h
      · split at h
        · rename_i a r q
          cases h
          simp only [a_stk, s_est, List.map_cons, a_pop, s_one1_ok hF q, if_true]
        · cases h
      · cases h
    · split at h
      · split at h
        · rename_i a b r q
          cases h
          simp only [Bool.and_eq_true] at q
          simp only [a_stk, s_est, List.map_cons, a_dup2, s_one1_ok hF q.1, s_one1_ok hF q.2, and_self, if_true]
        · cases h
      · cases h
    · split at h
      · split at h
        · rename_i a r
          split at h
          · cases h
          · rename_i hne
            cases h
            have ha : s_ty a ≠ 0 := fun e => hne (by rw [e]; exact s_u0 i)
            obtain ⟨-, q1, q2⟩ := s_u_ok (s_ty_ok (E := E) hF a) hne
            have q3 := q1 k (s_est E F r)
            show a_stk i k (s_ev E F a :: s_est E F r) = some (s_ev E F (s_mku i a) :: s_est E F r)
            rw [q3, s_mku_ev hF ha q2]
        · cases h
      · split at h
        · rename_i b a r
          split at h
          · cases h
          · rename_i hne
            cases h
            unfold s_bty at hne
            split at hne
            · exact absurd rfl hne
            · rename_i hd
              have ha : s_ty a ≠ 0 := fun e => hne (by rw [e]; exact s_b0 i _)
              have hb : s_ty b ≠ 0 := fun e => hne (by rw [e]; exact s_b0' i _)
              obtain ⟨-, q1, q2⟩ := s_b_ok (s_ty_ok (E := E) hF a) (s_ty_ok (E := E) hF b) (fun q => by
                rw [q] at hd
                simp only [Bool.true_and, Bool.not_eq_true', Bool.not_eq_false] at hd
                exact s_nz_ok hF hb hd) hne
              have q3 := q1 k (s_est E F r)
              show a_stk i k (s_ev E F b :: s_ev E F a :: s_est E F r) = some (s_ev E F (s_mkb i a b) :: s_est E F r)
              rw [q3, s_mkb_ev hF ha hb q2]
        · cases h
