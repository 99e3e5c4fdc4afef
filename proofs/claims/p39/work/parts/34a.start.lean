/-! ===== the start: both constructors, run on paper ===== -/
theorem a_scr_i {X : aX} {i : Instr} {st r : List Value} (h : a_scr X i st = some r) : i = .iaload ∨ i = .arraylength := by
  unfold a_scr at h
  split at h
  · exact Or.inl rfl
  · exact Or.inr rfl
  · cases h
section ASTART
variable {P : List aM} {X : aX}
theorem a_op_none {i : Instr} {len : Nat} {k : aK} {pc : Nat} {ls : aL} {st : List Value} {h : aH} {r : aS} (e : a_op none i len k pc ls st h = some r) : a_op X i len k pc ls st h = some r := by
  unfold a_op at e ⊢
  cases h1 : a_stk i k st with
  | some q => rw [h1] at e; exact e
  | none =>
    rw [h1] at e
    dsimp only at e ⊢
    cases h2 : a_loc i ls st with
    | some q => rw [h2] at e; exact e
    | none =>
      rw [h2] at e
      dsimp only at e ⊢
      cases h3 : a_br i k pc st with
      | some q => rw [h3] at e; exact e
      | none =>
        rw [h3] at e
        dsimp only at e ⊢
        cases h4 : a_hp i k st h with
        | some q => rw [h4] at e; exact e
        | none =>
          rw [h4] at e
          have : a_scr none i st = none := rfl
          rw [this] at e
          cases e
theorem a_op_none' {i : Instr} {len : Nat} {k : aK} {pc : Nat} {ls : aL} {st : List Value} {h : aH} (e : a_op none i len k pc ls st h = none) (h1 : i ≠ .iaload) (h2 : i ≠ .arraylength) : a_op X i len k pc ls st h = none := by
  have hs : a_scr X i st = none := by
    cases hq : a_scr X i st with
    | none => rfl
    | some r => rcases a_scr_i hq with q | q
                · exact absurd q h1
                · exact absurd q h2
  unfold a_op at e ⊢
  rw [hs]
  have : a_scr none i st = none := rfl
  rw [this] at e
  exact e
theorem a_ret_i {i : Instr} {k : aK} {ret : Option FieldType} {st : List Value} {v : Option Value} (h : a_ret i k ret st = some v) : i ≠ .iaload ∧ i ≠ .arraylength := by
  constructor <;> (rintro rfl; cases h)
theorem a_inv_i {i : Instr} {k : aK} {st : List Value} {h : aH} {q : aM × List Value × List Value} (e : a_inv P i k st h = some q) : i ≠ .iaload ∧ i ≠ .arraylength := by
  constructor <;> (rintro rfl; unfold a_inv at e; split at e <;> cases e)
theorem a_body_none {rec rec' : Nat → aM → Nat → aL → List Value → aH → Option aQ} (hm : ∀ d M pc ls st h q, rec d M pc ls st h = some q → rec' d M pc ls st h = some q) {d : Nat} {M : aM} {pc : Nat} {ls : aL} {st : List Value} {h : aH} {r : aQ} (e : a_body P none rec d M pc ls st h = some r) : a_body P X rec' d M pc ls st h = some r := by
  unfold a_body at e ⊢
  cases hl : M.2.2.2.2.2.lookup pc with
  | none => rw [hl] at e; cases e
  | some q =>
    obtain ⟨i, len, k⟩ := q
    rw [hl] at e
    dsimp only at e ⊢
    cases ho : a_op none i len k pc ls st h with
    | some q =>
      rw [a_op_none ho]
      obtain ⟨pc', ls', st', h', c, s⟩ := q
      rw [ho] at e
      dsimp only at e ⊢
      exact a_more_mono (fun q => hm _ _ _ _ _ _ q) e
    | none =>
      rw [ho] at e
      dsimp only at e
      cases hr : a_ret i k M.2.2.2.1 st with
      | some v =>
        rw [a_op_none' ho (a_ret_i hr).1 (a_ret_i hr).2]
        rw [hr] at e
        exact e
      | none =>
        rw [hr] at e
        dsimp only at e
        cases hi : a_inv P i k st h with
        | none => rw [hi] at e; cases e
        | some q =>
          rw [a_op_none' ho (a_inv_i hi).1 (a_inv_i hi).2]
          obtain ⟨M', as, rest⟩ := q
          rw [hi] at e
          dsimp only at e ⊢
          cases d with
          | zero => cases e
          | succ d' =>
            dsimp only at e ⊢
            cases hc : rec d' M' 0 (a_ent as M'.2.2.1) [] h with
            | none => rw [hc] at e; cases e
            | some q =>
              rw [hm _ _ _ _ _ _ _ hc]
              rw [hc] at e
              obtain ⟨v, h1, c, s⟩ := q
              dsimp only at e ⊢
              split at e
              · exact e
              · exact a_more_mono (fun q => hm _ _ _ _ _ _ q) e
theorem aexec_none : ∀ (f : Nat) {d : Nat} {M : aM} {pc : Nat} {ls : aL} {st : List Value} {h : aH} {r : aQ}, aexec P none f d M pc ls st h = some r → aexec P X f d M pc ls st h = some r
  | 0, _, _, _, _, _, _, _, e => by rw [aexec] at e; cases e
  | f + 1, _, _, _, _, _, _, _, e => by
    rw [aexec_S] at e ⊢
    exact a_body_none (fun _ _ _ _ _ _ _ q => aexec_none f q) e
/-- n instructions of a method, with void calls run to their ends -/
def a_go (P : List aM) (d : Nat) (M : aM) : Nat → Nat → aL → List Value → aH → Nat → Nat → Option aS
  | 0, pc, ls, st, h, C, S => some (pc, ls, st, h, C, S)
  | n + 1, pc, ls, st, h, C, S => match M.2.2.2.2.2.lookup pc with
    | none => none
    | some (i, len, k) => match a_op none i len k pc ls st h with
      | some (pc', ls', st', h', c, s) => a_go P d M n pc' ls' st' h' (C + c) (S + s)
      | none => match a_ret i k M.2.2.2.1 st with
        | some _ => none
        | none => match a_inv P i k st h with
          | none => none
          | some (M', as, rest) => match aexec P none 3000 d M' 0 (a_ent as M'.2.2.1) [] h with
            | some (none, h1, c, s) => a_go P d M n (pc + len) ls rest h1 (C + c) (S + s)
            | _ => none
theorem a_go_ok {d : Nat} {M : aM} {K : Option Value → aH → Nat → Nat → Prop} {pc' : Nat} {ls' : aL} {st' : List Value} {h' : aH} {C' S' : Nat} (hk : aOK P X (d + 1) M pc' ls' st' h' C' S' K) : ∀ (n pc : Nat) (ls : aL) (st : List Value) (h : aH) (C S : Nat), a_go P d M n pc ls st h C S = some (pc', ls', st', h', C', S') → aOK P X (d + 1) M pc ls st h C S K
  | 0, pc, ls, st, h, C, S, e => by
    unfold a_go at e
    cases e
    exact hk
  | n + 1, pc, ls, st, h, C, S, e => by
    unfold a_go at e
    split at e
    · cases e
    · rename_i i len k hl
      split at e
      · rename_i ho
        exact aOK_op hl (a_op_none ho) (a_go_ok hk n _ _ _ _ _ _ e)
      · rename_i ho
        split at e
        · cases e
        · rename_i hr
          split at e
          · cases e
          · rename_i M' as rest hi
            split at e
            · rename_i h1 c s hx
              refine aOK_call hl (a_op_none' ho (a_inv_i hi).1 (a_inv_i hi).2) hr hi ⟨3000, none, h1, c, s, aexec_none 3000 hx, Or.inr ⟨fun n w => (by cases w), ?_⟩⟩
              exact a_go_ok hk n _ _ _ _ _ _ e
            · cases e
end ASTART
/-- heaps of constants -/
def s_cE (q : sE) : Bool := match q with
  | .inl a => s_cst a.2.2.1 && a.2.2.2.all (fun z => s_cst z.2)
  | .inr o => o.2.all s_cst
def s_allc (n : Nat) : Bool := (List.range n).all (fun o => s_cE (s_h0f o))
theorem s_cst_ev {e : sV} (h : s_cst e = true) (E E' : Nat → Int32) (F F' : sF) : s_ev E F e = s_ev E' F' e := by
  unfold s_cst at h
  split at h
  · rfl
  · cases h
theorem s_at_cst {a : sA} (h1 : s_cst a.2.2.1 = true) (h2 : a.2.2.2.all (fun z => s_cst z.2) = true) (j : Nat) : s_cst (s_at a j) = true := by
  unfold s_at
  cases hq : a.2.2.2.lookup j with
  | none => exact h1
  | some v =>
    have hm : ∃ k, (k, v) ∈ a.2.2.2 := by
      revert hq
      generalize a.2.2.2 = l
      intro hq
      induction l with
      | nil => cases hq
      | cons p t ih =>
        rw [List.lookup_cons] at hq
        split at hq
        · cases hq
          exact ⟨p.1, List.mem_cons_self⟩
        · obtain ⟨k, hk⟩ := ih hq
          exact ⟨k, List.mem_cons_of_mem _ hk⟩
    obtain ⟨k, hk⟩ := hm
    exact List.all_eq_true.mp h2 _ hk
theorem s_cE_ev {q : sE} (h1 : s_cE q = true) (E E' : Nat → Int32) (F F' : sF) : s_eE E F q = s_eE E' F' q := by
  cases q with
  | inl a =>
    simp only [s_cE, Bool.and_eq_true] at h1
    have ha : ∀ j, s_ev E F (s_at a j) = s_ev E' F' (s_at a j) := fun j => s_cst_ev (s_at_cst h1.1 h1.2 j) E E' F F'
    unfold s_eE s_eA
    simp only [ha]
  | inr o =>
    obtain ⟨ci, fs⟩ := o
    have hf : s_est E F fs = s_est E' F' fs := List.map_congr_left (fun e he => s_cst_ev (List.all_eq_true.mp h1 e he) E E' F F')
    unfold s_eE
    simp only [hf]
theorem s_allc_ev {n : Nat} (hc : s_allc n = true) (E E' : Nat → Int32) (F F' : sF) : s_eH E F (n, []) = s_eH E' F' (n, []) :=
  List.map_congr_left (fun o ho => s_cE_ev (List.all_eq_true.mp hc o ho) E E' F F')
/-- two heaps are one -/
def q_A : aA → aA → Bool
  | .inl a, .inl b => decide (a = b)
  | .inr (.inl a), .inr (.inl b) => decide (a = b)
  | .inr (.inr a), .inr (.inr b) => decide (a = b)
  | _, _ => false
theorem q_A_ok : ∀ {a b : aA}, q_A a b = true → a = b
  | .inl a, .inl b, h => by rw [of_decide_eq_true h]
  | .inr (.inl a), .inr (.inl b), h => by rw [of_decide_eq_true h]
  | .inr (.inr a), .inr (.inr b), h => by rw [of_decide_eq_true h]
  | .inl _, .inr _, h => by cases h
  | .inr (.inl _), .inl _, h => by cases h
  | .inr (.inr _), .inl _, h => by cases h
  | .inr (.inl _), .inr (.inr _), h => by cases h
  | .inr (.inr _), .inr (.inl _), h => by cases h
def q_E : aE → aE → Bool
  | .inl (t, a), .inl (t', b) => decide (t = t') && q_A a b
  | .inr (c, f), .inr (c', g) => decide (c = c') && decide (f = g)
  | _, _ => false
theorem q_E_ok : ∀ {a b : aE}, q_E a b = true → a = b
  | .inl (t, a), .inl (t', b), h => by
    simp only [q_E, Bool.and_eq_true, decide_eq_true_eq] at h
    rw [h.1, q_A_ok h.2]
  | .inr (c, f), .inr (c', g), h => by
    simp only [q_E, Bool.and_eq_true, decide_eq_true_eq] at h
    rw [h.1, h.2]
  | .inl (_, _), .inr (_, _), h => by cases h
  | .inr (_, _), .inl (_, _), h => by cases h
def q_H : aH → aH → Bool
  | [], [] => true
  | a :: r, b :: t => q_E a b && q_H r t
  | _, _ => false
theorem q_H_ok : ∀ {a b : aH}, q_H a b = true → a = b
  | [], [], _ => rfl
  | a :: r, b :: t, h => by
    simp only [q_H, Bool.and_eq_true] at h
    rw [q_E_ok h.1, q_H_ok h.2]
  | [], _ :: _, h => by cases h
  | _ :: _, [], h => by cases h
def s_ls0 : aL := [some (.ref 0), none, none, none, none, none, none, none]
def s_E0 : Nat → Int32 := fun _ => 0
def s_F0' : sF := fun _ _ _ => .null
def s_ls1 : sL := [some [.inl (.ref 0)], some [.inl (.ref 2)], some [.inl (.ref 155)], some [.inl (.ref 197)], some [.inl (.int 0)], none, none, none]
def s_goT (o : Option aS) : Bool := match o with
  | some (pc, ls, st, h, C, S) => decide (pc = 23) && decide (ls = s_els s_E0 s_F0' s_ls1) && decide (st = []) && q_H h (s_eH s_E0 s_F0' (196, [])) && decide (C = 196) && decide (S = 6613)
  | none => false
set_option maxRecDepth 100000 in
theorem s_go0 : s_goT (a_go s_P 201 a_mL 13 0 s_ls0 [] [] 0 0) = true := by decide +kernel
set_option maxRecDepth 100000 in
theorem s_h0_c : s_allc 196 = true := by decide +kernel
theorem s_go1 (E : Nat → Int32) (F : sF) : a_go s_P 201 a_mL 13 0 s_ls0 [] [] 0 0 = some (23, s_els E F s_ls1, [], s_eH E F (196, []), 196, 6613) := by
  have h := s_go0
  generalize a_go s_P 201 a_mL 13 0 s_ls0 [] [] 0 0 = o at h
  unfold s_goT at h
  split at h
  · simp only [Bool.and_eq_true, decide_eq_true_eq] at h
    obtain ⟨⟨⟨⟨⟨h1, h2⟩, h3⟩, h4⟩, h5⟩, h6⟩ := h
    subst h1 h2 h3 h5 h6
    rw [q_H_ok h4, s_allc_ev s_h0_c s_E0 E s_F0' F]
    rfl
  · cases h
