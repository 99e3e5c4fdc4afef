section PT34a
/-! ===== the start: both constructors, run on paper ===== -/
theorem a_scr_i {X : aX} {i : Instr} {st r : List Value} (h : a_scr X i st = some r) : i = .iaload ∨ i = .arraylength := by
  unfold a_scr at h
  split at h
  · exact Or.inl rfl
  · exact Or.inr rfl
  · cases h
section ASTART
variable {P : List aM} {X : aX}
theorem a_op_none {i : Instr} {len : Nat} {k : aK} {pc : Nat} {ls : aL} {st : List Value} {h : aH} {r : aS} (e : a_op none i len k pc ls st h = some r) : a_op X i len k pc ls st h = some r := by
  unfold a_op at e ⊢
  cases h1 : a_stk i k st with
  | some q => rw [h1] at e; exact e
  | none =>
    rw [h1] at e
    dsimp only at e ⊢
    cases h2 : a_loc i ls st with
    | some q => rw [h2] at e; exact e
    | none =>
      rw [h2] at e
      dsimp only at e ⊢
      cases h3 : a_br i k pc st with
      | some q => rw [h3] at e; exact e
      | none =>
        rw [h3] at e
        dsimp only at e ⊢
        cases h4 : a_hp i k st h with
        | some q => rw [h4] at e; exact e
        | none =>
          rw [h4] at e
          have : a_scr none i st = none := rfl
          rw [this] at e
          cases e
theorem a_op_none' {i : Instr} {len : Nat} {k : aK} {pc : Nat} {ls : aL} {st : List Value} {h : aH} (e : a_op none i len k pc ls st h = none) (h1 : i ≠ .iaload) (h2 : i ≠ .arraylength) : a_op X i len k pc ls st h = none := by
  have hs : a_scr X i st = none := by
    cases hq : a_scr X i st with
    | none => rfl
    | some r => rcases a_scr_i hq with q | q
                · exact absurd q h1
                · exact absurd q h2
  unfold a_op at e ⊢
  rw [hs]
  have : a_scr none i st = none := rfl
  rw [this] at e
  exact e
theorem a_ret_i {i : Instr} {k : aK} {ret : Option FieldType} {st : List Value} {v : Option Value} (h : a_ret i k ret st = some v) : i ≠ .iaload ∧ i ≠ .arraylength := by
  constructor <;> (rintro rfl; cases h)
theorem a_inv_i {i : Instr} {k : aK} {st : List Value} {h : aH} {q : aM × List Value × List Value} (e : a_inv P i k st h = some q) : i ≠ .iaload ∧ i ≠ .arraylength := by
  constructor <;> (rintro rfl; unfold a_inv at e; split at e <;> cases e)
theorem a_body_none {rec rec' : Nat → aM → Nat → aL → List Value → aH → Option aQ} (hm : ∀ d M pc ls st h q, rec d M pc ls st h = some q → rec' d M pc ls st h = some q) {d : Nat} {M : aM} {pc : Nat} {ls : aL} {st : List Value} {h : aH} {r : aQ} (e : a_body P none rec d M pc ls st h = some r) : a_body P X rec' d M pc ls st h = some r := by
  unfold a_body at e ⊢
  cases hl : M.2.2.2.2.2.lookup pc with
  | none => rw [hl] at e; cases e
  | some q =>
    obtain ⟨i, len, k⟩ := q
    rw [hl] at e
    dsimp only at e ⊢
    cases ho : a_op none i len k pc ls st h with
    | some q =>
      rw [a_op_none ho]
      obtain ⟨pc', ls', st', h', c, s⟩ := q
      rw [ho] at e
      dsimp only at e ⊢
      exact a_more_mono (fun q => hm _ _ _ _ _ _ q) e
    | none =>
      rw [ho] at e
      dsimp only at e
      cases hr : a_ret i k M.2.2.2.1 st with
      | some v =>
        rw [a_op_none' ho (a_ret_i hr).1 (a_ret_i hr).2]
        rw [hr] at e
        exact e
      | none =>
        rw [hr] at e
        dsimp only at e
        cases hi : a_inv P i k st h with
        | none => rw [hi] at e; cases e
        | some q =>
          rw [a_op_none' ho (a_inv_i hi).1 (a_inv_i hi).2]
          obtain ⟨M', as, rest⟩ := q
          rw [hi] at e
          dsimp only at e ⊢
          cases d with
          | zero => cases e
          | succ d' =>
            dsimp only at e ⊢
            cases hc : rec d' M' 0 (a_ent as M'.2.2.1) [] h with
            | none => rw [hc] at e; cases e
            | some q =>
              rw [hm _ _ _ _ _ _ _ hc]
              rw [hc] at e
              obtain ⟨v, h1, c, s⟩ := q
              dsimp only at e ⊢
              split at e
              · exact e
              · exact a_more_mono (fun q => hm _ _ _ _ _ _ q) e
theorem aexec_none : ∀ (f : Nat) {d : Nat} {M : aM} {pc : Nat} {ls : aL} {st : List Value} {h : aH} {r : aQ}, aexec P none f d M pc ls st h = some r → aexec P X f d M pc ls st h = some r
  | 0, _, _, _, _, _, _, _, e => by rw [aexec] at e; cases e
  | f + 1, _, _, _, _, _, _, _, e => by
    rw [aexec_S] at e ⊢
    exact a_body_none (fun _ _ _ _ _ _ _ q => aexec_none f q) e
/-- n instructions of a method, with void calls run to their ends -/
def a_go (P : List aM) (d : Nat) (M : aM) : Nat → Nat → aL → List Value → aH → Nat → Nat → Option aS
  | 0, pc, ls, st, h, C, S => some (pc, ls, st, h, C, S)
  | n + 1, pc, ls, st, h, C, S => match M.2.2.2.2.2.lookup pc with
    | none => none
    | some (i, len, k) => match a_op none i len k pc ls st h with
      | some (pc', ls', st', h', c, s) => a_go P d M n pc' ls' st' h' (C + c) (S + s)
      | none => match a_ret i k M.2.2.2.1 st with
        | some _ => none
        | none => match a_inv P i k st h with
          | none => none
          | some (M', as, rest) => match aexec P none 3000 d M' 0 (a_ent as M'.2.2.1) [] h with
            | some (none, h1, c, s) => a_go P d M n (pc + len) ls rest h1 (C + c) (S + s)
            | _ => none
theorem a_go_ok {d : Nat} {M : aM} {K : Option Value → aH → Nat → Nat → Prop} {pc' : Nat} {ls' : aL} {st' : List Value} {h' : aH} {C' S' : Nat} (hk : aOK P X (d + 1) M pc' ls' st' h' C' S' K) : ∀ (n pc : Nat) (ls : aL) (st : List Value) (h : aH) (C S : Nat), a_go P d M n pc ls st h C S = some (pc', ls', st', h', C', S') → aOK P X (d + 1) M pc ls st h C S K
  | 0, pc, ls, st, h, C, S, e => by
    unfold a_go at e
    cases e
    exact hk
  | n + 1, pc, ls, st, h, C, S, e => by
    unfold a_go at e
    split at e
    · cases e
    · rename_i i len k hl
      split at e
      · rename_i ho
        exact aOK_op hl (a_op_none ho) (a_go_ok hk n _ _ _ _ _ _ e)
      · rename_i ho
        split at e
        · cases e
        · rename_i hr
          split at e
          · cases e
          · rename_i M' as rest hi
            split at e
            · rename_i h1 c s hx
              refine aOK_call hl (a_op_none' ho (a_inv_i hi).1 (a_inv_i hi).2) hr hi ⟨3000, none, h1, c, s, aexec_none 3000 hx, Or.inr ⟨fun n w => (by cases w), ?_⟩⟩
              exact a_go_ok hk n _ _ _ _ _ _ e
            · cases e
end ASTART
/-- heaps of constants -/
def s_cE (q : sE) : Bool := match q with
  | .inl a => s_cst a.2.2.1 && a.2.2.2.all (fun z => s_cst z.2)
  | .inr o => o.2.all s_cst
def s_allc (n : Nat) : Bool := (List.range n).all (fun o => s_cE (s_h0f o))
theorem s_cst_ev {e : sV} (h : s_cst e = true) (E E' : Nat → Int32) (F F' : sF) : s_ev E F e = s_ev E' F' e := by
  unfold s_cst at h
  split at h
  · rfl
  · cases h
theorem s_at_cst {a : sA} (h1 : s_cst a.2.2.1 = true) (h2 : a.2.2.2.all (fun z => s_cst z.2) = true) (j : Nat) : s_cst (s_at a j) = true := by
  unfold s_at
  cases hq : a.2.2.2.lookup j with
  | none => exact h1
  | some v =>
    have hm : ∃ k, (k, v) ∈ a.2.2.2 := by
      revert hq
      generalize a.2.2.2 = l
      intro hq
      induction l with
      | nil => cases hq
      | cons p t ih =>
        rw [List.lookup_cons] at hq
        split at hq
        · cases hq
          exact ⟨p.1, List.mem_cons_self⟩
        · obtain ⟨k, hk⟩ := ih hq
          exact ⟨k, List.mem_cons_of_mem _ hk⟩
    obtain ⟨k, hk⟩ := hm
    exact List.all_eq_true.mp h2 _ hk
theorem s_cE_ev {q : sE} (h1 : s_cE q = true) (E E' : Nat → Int32) (F F' : sF) : s_eE E F q = s_eE E' F' q := by
  cases q with
  | inl a =>
    simp only [s_cE, Bool.and_eq_true] at h1
    have ha : ∀ j, s_ev E F (s_at a j) = s_ev E' F' (s_at a j) := fun j => s_cst_ev (s_at_cst h1.1 h1.2 j) E E' F F'
    unfold s_eE s_eA
    simp only [ha]
  | inr o =>
    obtain ⟨ci, fs⟩ := o
    have hf : s_est E F fs = s_est E' F' fs := List.map_congr_left (fun e he => s_cst_ev (List.all_eq_true.mp h1 e he) E E' F F')
    unfold s_eE
    simp only [hf]
theorem s_allc_ev {n : Nat} (hc : s_allc n = true) (E E' : Nat → Int32) (F F' : sF) : s_eH E F (n, []) = s_eH E' F' (n, []) :=
  List.map_congr_left (fun o ho => s_cE_ev (List.all_eq_true.mp hc o ho) E E' F F')
/-- two heaps are one -/
def q_A : aA → aA → Bool
  | .inl a, .inl b => decide (a = b)
  | .inr (.inl a), .inr (.inl b) => decide (a = b)
  | .inr (.inr a), .inr (.inr b) => decide (a = b)
  | _, _ => false
theorem q_A_ok : ∀ {a b : aA}, q_A a b = true → a = b
  | .inl a, .inl b, h => by rw [of_decide_eq_true h]
  | .inr (.inl a), .inr (.inl b), h => by rw [of_decide_eq_true h]
  | .inr (.inr a), .inr (.inr b), h => by rw [of_decide_eq_true h]
  | .inl _, .inr _, h => by cases h
  | .inr (.inl _), .inl _, h => by cases h
  | .inr (.inr _), .inl _, h => by cases h
  | .inr (.inl _), .inr (.inr _), h => by cases h
  | .inr (.inr _), .inr (.inl _), h => by cases h
def q_E : aE → aE → Bool
  | .inl (t, a), .inl (t', b) => decide (t = t') && q_A a b
  | .inr (c, f), .inr (c', g) => decide (c = c') && decide (f = g)
  | _, _ => false
theorem q_E_ok : ∀ {a b : aE}, q_E a b = true → a = b
  | .inl (t, a), .inl (t', b), h => by
    simp only [q_E, Bool.and_eq_true, decide_eq_true_eq] at h
    rw [h.1, q_A_ok h.2]
  | .inr (c, f), .inr (c', g), h => by
    simp only [q_E, Bool.and_eq_true, decide_eq_true_eq] at h
    rw [h.1, h.2]
  | .inl (_, _), .inr (_, _), h => by cases h
  | .inr (_, _), .inl (_, _), h => by cases h
def q_H : aH → aH → Bool
  | [], [] => true
  | a :: r, b :: t => q_E a b && q_H r t
  | _, _ => false
theorem q_H_ok : ∀ {a b : aH}, q_H a b = true → a = b
  | [], [], _ => rfl
  | a :: r, b :: t, h => by
    simp only [q_H, Bool.and_eq_true] at h
    rw [q_E_ok h.1, q_H_ok h.2]
  | [], _ :: _, h => by cases h
  | _ :: _, [], h => by cases h
def s_ls0 : aL := [some (.ref 0), none, none, none, none, none, none, none]
def s_E0 : Nat → Int32 := fun _ => 0
def s_F0' : sF := fun _ _ _ => .null
def s_ls1 : sL := [some [.inl (.ref 0)], some [.inl (.ref 2)], some [.inl (.ref 155)], some [.inl (.ref 197)], some [.inl (.int 0)], none, none, none]
def s_goT (o : Option aS) : Bool := match o with
  | some (pc, ls, st, h, C, S) => decide (pc = 23) && decide (ls = s_els s_E0 s_F0' s_ls1) && decide (st = []) && q_H h (s_eH s_E0 s_F0' (196, [])) && decide (C = 196) && decide (S = 6613)
  | none => false
set_option maxRecDepth 100000 in
theorem s_go0 : s_goT (a_go s_P 201 a_mL 13 0 s_ls0 [] [] 0 0) = true := by decide +kernel
set_option maxRecDepth 100000 in
theorem s_h0_c : s_allc 196 = true := by decide +kernel
theorem s_go1 (E : Nat → Int32) (F : sF) : a_go s_P 201 a_mL 13 0 s_ls0 [] [] 0 0 = some (23, s_els E F s_ls1, [], s_eH E F (196, []), 196, 6613) := by
  have h := s_go0
  generalize a_go s_P 201 a_mL 13 0 s_ls0 [] [] 0 0 = o at h
  unfold s_goT at h
  split at h
  · simp only [Bool.and_eq_true, decide_eq_true_eq] at h
    obtain ⟨⟨⟨⟨⟨h1, h2⟩, h3⟩, h4⟩, h5⟩, h6⟩ := h
    subst h1 h2 h3 h5 h6
    rw [q_H_ok h4, s_allc_ev s_h0_c s_E0 E s_F0' F]
    rfl
  · cases h
end PT34a
section PT34b
/-! ===== v4: the law's start is kept so ===== -/
def h_0 : aH := s_eH s_E0 s_F0' (196, [])
def h_dk (d : zK) (w : Value) : Bool := match d, w with
  | .inl (k, lo, hi), .int x => decide (k = 1) && decide (lo ≤ x.toInt) && decide (x.toInt ≤ hi)
  | .inl (k, lo, hi), .long x => decide (k = 2) && decide (lo ≤ x.toInt) && decide (x.toInt ≤ hi)
  | .inr r, .ref q => decide (q = r)
  | _, _ => false
theorem h_dk_ok {d : zK} {w : Value} (h : h_dk d w = true) : z_dk d w := by
  unfold h_dk at h
  split at h
  · simp only [Bool.and_eq_true, decide_eq_true_eq] at h
    exact Or.inl ⟨h.1.1, _, rfl, h.1.2, h.2⟩
  · simp only [Bool.and_eq_true, decide_eq_true_eq] at h
    exact Or.inr ⟨h.1.1, _, rfl, h.1.2, h.2⟩
  · rw [of_decide_eq_true h]
    rfl
  · cases h
def h_cell (c : zC) (e : aE) : Bool := match c, e with
  | .inl (t, n, lo, hi), .inl (t', .inr (.inl l)) => decide (t = 1) && decide (t' = t) && decide (l.length = n) && l.all (fun x => decide (lo ≤ x.toInt) && decide (x.toInt ≤ hi))
  | .inl (t, n, lo, hi), .inl (t', .inl l) => decide (t ≠ 1) && decide (t < 4) && decide (t' = t) && decide (l.length = n) && l.all (fun x => decide (lo ≤ x.toInt) && decide (x.toInt ≤ hi))
  | .inr (.inl (ci, ks)), .inr (ci', vs) => decide (ci' = ci) && decide (vs.length = ks.length) && (ks.zip vs).all (fun q => h_dk q.1 q.2)
  | .inr (.inr (t, rs)), .inl (t', .inr (.inr l)) => decide (4 ≤ t) && decide (t < a_tys.length) && decide (t' = t) && decide (l = rs.map some)
  | _, _ => false
theorem h_cell_ok {o : Nat} {c : zC} {e : aE} (h : h_cell c e = true) : z_cell [] [] o c e := by
  unfold h_cell at h
  split at h
  · simp only [Bool.and_eq_true, decide_eq_true_eq, List.all_eq_true] at h
    obtain ⟨⟨⟨h1, h2⟩, h3⟩, h4⟩ := h
    unfold z_cell
    dsimp only
    rw [if_pos h1]
    exact ⟨_, by rw [h2], h3, h4⟩
  · simp only [Bool.and_eq_true, decide_eq_true_eq, List.all_eq_true] at h
    obtain ⟨⟨⟨⟨h1, h2⟩, h3⟩, h4⟩, h5⟩ := h
    unfold z_cell
    dsimp only
    rw [if_neg h1]
    exact ⟨h2, _, by rw [h3], h4, h5⟩
  · rename_i ci ks ci' vs
    simp only [Bool.and_eq_true, decide_eq_true_eq, List.all_eq_true] at h
    obtain ⟨⟨h1, h2⟩, h3⟩ := h
    subst h1
    refine ⟨vs, rfl, h2, fun k d hd => ?_⟩
    have hk : k < vs.length := by rw [h2]; exact (List.getElem?_eq_some_iff.mp hd).1
    refine ⟨vs[k], List.getElem?_eq_getElem hk, fun x hx => (by cases hx), fun _ => ?_⟩
    refine h_dk_ok (h3 (d, vs[k]) (List.mem_of_getElem? (i := k) ?_))
    rw [List.getElem?_zip_eq_some]
    exact ⟨hd, List.getElem?_eq_getElem hk⟩
  · simp only [Bool.and_eq_true, decide_eq_true_eq] at h
    obtain ⟨⟨⟨h1, h2⟩, h3⟩, h4⟩ := h
    exact ⟨h1, h2, by rw [h3, h4]⟩
  · cases h
def h_all : Nat → aH → Bool
  | _, [] => true
  | o, e :: r => (match z_D o with
    | some c => h_cell c e
    | none => true) && h_all (o + 1) r
theorem h_all_ok : ∀ {H : aH} {m : Nat}, h_all m H = true → ∀ (o : Nat) (e : aE) (c : zC), H[o]? = some e → z_D (m + o) = some c → z_cell [] [] (m + o) c e := by
  intro H
  induction H with
  | nil => intro m _ o e c h; cases h
  | cons e0 r ih =>
    intro m h o e c he hc
    unfold h_all at h
    rw [Bool.and_eq_true] at h
    cases o with
    | zero =>
      cases he
      rw [Nat.add_zero] at hc ⊢
      rw [hc] at h
      exact h_cell_ok h.1
    | succ o =>
      have := ih h.2 o e c he (by rw [show m + 1 + o = m + (o + 1) from by omega]; exact hc)
      rw [show m + 1 + o = m + (o + 1) from by omega] at this
      exact this
set_option maxRecDepth 100000 in
theorem h_0_all : h_all 0 h_0 = true := by decide +kernel
theorem h_0_len : h_0.length = 196 := by
  unfold h_0 s_eH
  rw [List.length_map, List.length_range]
theorem h_0_hr : w_hr z_D h_0 := by
  refine ⟨fun o c hc => ?_, trivial⟩
  have ho : o < 196 := by
    unfold z_D at hc
    cases hb : Nat.ble 196 o with
    | true => rw [hb] at hc; cases hc
    | false =>
      rcases Nat.lt_or_ge o 196 with q | q
      · exact q
      · rw [Nat.ble_eq_true_of_le q] at hb
        cases hb
  have hl : o < h_0.length := by rw [h_0_len]; exact ho
  refine ⟨h_0[o], List.getElem?_eq_getElem hl, ?_⟩
  have := h_all_ok h_0_all o _ c (List.getElem?_eq_getElem hl) (by rw [Nat.zero_add]; exact hc)
  rw [Nat.zero_add] at this
  exact this
theorem h_N {n i : Nat} : y_N (List.replicate n 0) i = 0 := by
  unfold y_N
  rw [List.getD_eq_getElem?_getD]
  cases h : (List.replicate n (0 : Int32))[i]? with
  | none => rfl
  | some x => rw [List.eq_of_mem_replicate (List.mem_of_getElem? h)]; rfl
theorem h_Nn {n i : Nat} : y_Nn (List.replicate n 0) i = 0 := by
  have : y_Nn (List.replicate n 0) i = (y_N (List.replicate n 0) i).toNat := rfl
  rw [this, h_N]
  rfl
theorem h_L {n i : Nat} : (List.replicate n (0 : Int64)).getD i 0 = 0 := by
  rw [List.getD_eq_getElem?_getD]
  cases h : (List.replicate n (0 : Int64))[i]? with
  | none => rfl
  | some x => rw [List.eq_of_mem_replicate (List.mem_of_getElem? h)]; rfl
theorem h_tot {n : Nat} : ∀ m, y_tot (List.replicate n 0) m = 0 := by
  intro m
  induction m with
  | zero => rfl
  | succ m ih =>
    unfold y_tot
    rw [ih, h_L]
    rfl
def h_eqA (a b : Option (Nat × aA)) : Bool := match a, b with
  | some (t, x), some (t', y) => decide (t = t') && q_A x y
  | _, _ => false
theorem h_eqA_ok {a b : Option (Nat × aA)} (h : h_eqA a b = true) : a = b := by
  unfold h_eqA at h
  split at h
  · simp only [Bool.and_eq_true, decide_eq_true_eq] at h
    rw [h.1, q_A_ok h.2]
  · cases h
set_option maxRecDepth 100000 in
theorem h_a156 : w_a h_0 156 = some (0, .inl (List.replicate 10 0)) := h_eqA_ok (by decide +kernel)
set_option maxRecDepth 100000 in
theorem h_a157 : w_a h_0 157 = some (0, .inl (List.replicate 10 0)) := h_eqA_ok (by decide +kernel)
set_option maxRecDepth 100000 in
theorem h_a158 : w_a h_0 158 = some (0, .inl (List.replicate 80 0)) := h_eqA_ok (by decide +kernel)
set_option maxRecDepth 100000 in
theorem h_a160 : w_a h_0 160 = some (0, .inl (List.replicate 10 0)) := h_eqA_ok (by decide +kernel)
set_option maxRecDepth 100000 in
theorem h_a161 : w_a h_0 161 = some (0, .inl (List.replicate 10 0)) := h_eqA_ok (by decide +kernel)
set_option maxRecDepth 100000 in
theorem h_a162 : w_a h_0 162 = some (0, .inl (List.replicate 10 0)) := h_eqA_ok (by decide +kernel)
set_option maxRecDepth 100000 in
theorem h_a163 : w_a h_0 163 = some (1, .inr (.inl (List.replicate 1024 0))) := h_eqA_ok (by decide +kernel)
set_option maxRecDepth 100000 in
theorem h_a165 : w_a h_0 165 = some (0, .inl (List.replicate 13 0)) := h_eqA_ok (by decide +kernel)
set_option maxRecDepth 100000 in
theorem h_a166 : w_a h_0 166 = some (0, .inl (List.replicate 26 0)) := h_eqA_ok (by decide +kernel)
set_option maxRecDepth 100000 in
theorem h_a167 : w_a h_0 167 = some (1, .inr (.inl (List.replicate 52 0))) := h_eqA_ok (by decide +kernel)
set_option maxRecDepth 100000 in
theorem h_a168 : w_a h_0 168 = some (0, .inl (List.replicate 52 0)) := h_eqA_ok (by decide +kernel)
set_option maxRecDepth 100000 in
theorem h_a169 : w_a h_0 169 = some (0, .inl (List.replicate 52 0)) := h_eqA_ok (by decide +kernel)
set_option maxRecDepth 100000 in
theorem h_a170 : w_a h_0 170 = some (0, .inl (List.replicate 520 0)) := h_eqA_ok (by decide +kernel)
set_option maxRecDepth 100000 in
theorem h_a172 : w_a h_0 172 = some (0, .inl (List.replicate 6 0)) := h_eqA_ok (by decide +kernel)
set_option maxRecDepth 100000 in
theorem h_a174 : w_a h_0 174 = some (0, .inl (List.replicate 6 0)) := h_eqA_ok (by decide +kernel)
set_option maxRecDepth 100000 in
theorem h_a175 : w_a h_0 175 = some (0, .inl (List.replicate 6 0)) := h_eqA_ok (by decide +kernel)
set_option maxRecDepth 100000 in
theorem h_a176 : w_a h_0 176 = some (0, .inl (List.replicate 80 0)) := h_eqA_ok (by decide +kernel)
set_option maxRecDepth 100000 in
theorem h_a182 : w_a h_0 182 = some (0, .inl (List.replicate 8 0)) := h_eqA_ok (by decide +kernel)
set_option maxRecDepth 100000 in
theorem h_a187 : w_a h_0 187 = some (0, .inl (List.replicate 3 0)) := h_eqA_ok (by decide +kernel)
set_option maxRecDepth 100000 in
theorem h_a190 : w_a h_0 190 = some (0, .inl (List.replicate 30 0)) := h_eqA_ok (by decide +kernel)
set_option maxRecDepth 100000 in
theorem h_a191 : w_a h_0 191 = some (0, .inl (List.replicate 30 0)) := h_eqA_ok (by decide +kernel)
set_option maxRecDepth 100000 in
theorem h_a192 : w_a h_0 192 = some (0, .inl (List.replicate 30 0)) := h_eqA_ok (by decide +kernel)
set_option maxRecDepth 100000 in
theorem h_a193 : w_a h_0 193 = some (0, .inl (List.replicate 3 0)) := h_eqA_ok (by decide +kernel)
set_option maxRecDepth 100000 in
theorem h_a194 : w_a h_0 194 = some (0, .inl (List.replicate 240 0)) := h_eqA_ok (by decide +kernel)
set_option maxRecDepth 100000 in
theorem h_f19591 : w_f h_0 19591 = some (.int 0) := by decide +kernel
set_option maxRecDepth 100000 in
theorem h_f19600 : w_f h_0 19600 = some (.long 1) := by decide +kernel
set_option maxRecDepth 100000 in
theorem h_f19598 : w_f h_0 19598 = some (.int 0) := by decide +kernel
set_option maxRecDepth 100000 in
theorem h_f19640 : w_f h_0 19640 = some (.int 0) := by decide +kernel
set_option maxRecDepth 100000 in
theorem h_f19603 : w_f h_0 19603 = some (.int 0) := by decide +kernel
set_option maxRecDepth 100000 in
theorem h_f17152 : w_f h_0 17152 = some (.int 0) := by decide +kernel
set_option maxRecDepth 100000 in
theorem h_f17153 : w_f h_0 17153 = some (.int 0) := by decide +kernel
set_option maxRecDepth 100000 in
theorem h_f17154 : w_f h_0 17154 = some (.int 0) := by decide +kernel
set_option maxRecDepth 100000 in
theorem h_f17155 : w_f h_0 17155 = some (.int 0) := by decide +kernel
set_option maxRecDepth 100000 in
theorem h_f17156 : w_f h_0 17156 = some (.int 0) := by decide +kernel
set_option maxRecDepth 100000 in
theorem h_f17157 : w_f h_0 17157 = some (.int 0) := by decide +kernel
theorem h_0_JA : y_JA h_0 := by
  have z : (0 : Int32).toInt = 0 := rfl
  refine ⟨⟨?_, ?_, ?_, ?_, ?_, ?_, ?_⟩, ?_, ?_⟩
  · refine ⟨_, _, _, _, h_f19591, h_a156, h_a157, h_a158, fun v hv => ?_, fun i hi => ?_, fun v hv => ?_, ?_, fun v hv => h_N⟩
    · rw [h_Nn]
      exact ⟨by decide, Nat.two_pow_pos v⟩
    · rw [h_N, h_N]
      exact Int.le_refl _
    · rw [z] at hv
      omega
    · show y_pr _ 0 ≤ _
      exact (by decide : (1 : Int) ≤ 100000000)
  · exact ⟨_, _, _, h_f19591, h_f19600, h_a157, rfl⟩
  · refine ⟨_, _, _, _, _, _, h_a157, h_a176, h_a194, h_a172, h_a174, h_a175, fun i hi => ?_, fun i hi => ?_, fun k hk => ⟨?_, ?_⟩⟩
    · rw [h_N, h_N]; exact Int.le_refl _
    · rw [h_N, h_N]; exact Int.le_refl _
    · rw [h_N, h_N]; exact Int.le_refl _
    · rw [h_N, h_N]; exact Int.le_refl _
  · refine ⟨_, _, h_f19591, h_a163, fun x hx => ?_, ?_, fun i hi => h_L⟩
    · rw [List.eq_of_mem_replicate hx]
      decide
    · rw [h_tot]
      decide
  · refine ⟨_, _, _, _, h_f19591, h_f19598, h_a162, h_a160, Nat.le_refl _, fun k hk => ?_, fun i j hi => ?_, fun v hv => ?_⟩
    · exact absurd hk (Nat.not_lt_zero _)
    · exact absurd hi (Nat.not_lt_zero _)
    · exact absurd hv (Nat.not_lt_zero _)
  · refine ⟨_, _, _, _, _, h_f19591, h_a187, h_a193, h_a192, h_a190, fun i hi => ⟨?_, ?_⟩⟩
    · rw [h_N]
      exact Int.le_refl _
    · rw [h_Nn]
      refine ⟨Nat.le_refl _, fun k hk => ?_, fun i j hi => ?_, fun v hv => ?_⟩
      · exact absurd hk (Nat.not_lt_zero _)
      · exact absurd hi (Nat.not_lt_zero _)
      · exact absurd hv (Nat.not_lt_zero _)
  · refine ⟨_, _, h_f19640, h_a182, fun k hk => ?_⟩
    rw [z] at hk
    omega
  · refine ⟨_, _, _, _, _, _, _, h_f19603, h_a165, h_a166, h_a167, h_a168, h_a169, h_a170, fun s hs => ?_⟩
    rw [z] at hs
    omega
  · refine ⟨_, _, _, _, h_f19591, h_a161, h_a187, h_a191, fun v hv => ?_, fun i v hi hv => ?_⟩
    · rw [z] at hv
      omega
    · rw [h_Nn] at hv
      exact absurd hv (Nat.not_lt_zero _)
theorem h_0_I : t_I h_0 := by
  refine ⟨h_0_hr, h_0_JA, fun k hk => ?_⟩
  simp only [t_K, List.mem_cons, List.not_mem_nil, or_false] at hk
  rcases hk with rfl | rfl | rfl | rfl | rfl
  · exact ⟨0, 0, h_f17153, h_f17152, Int.le_refl _⟩
  · exact ⟨0, 0, h_f17154, h_f17152, Int.le_refl _⟩
  · exact ⟨0, 0, h_f17155, h_f17152, Int.le_refl _⟩
  · exact ⟨0, 0, h_f17156, h_f17152, Int.le_refl _⟩
  · exact ⟨0, 0, h_f17157, h_f17152, Int.le_refl _⟩
set_option maxRecDepth 100000 in
theorem h_n16 : w_f h_0 16 = some (.int 0) := by decide +kernel
set_option maxRecDepth 100000 in
theorem h_n128 : w_f h_0 128 = some (.int 0) := by decide +kernel
set_option maxRecDepth 100000 in
theorem h_n1537 : w_f h_0 1537 = some (.int 0) := by decide +kernel
set_option maxRecDepth 100000 in
theorem h_n16640 : w_f h_0 16640 = some (.int 0) := by decide +kernel
set_option maxRecDepth 100000 in
theorem h_n17152 : w_f h_0 17152 = some (.int 0) := by decide +kernel
set_option maxRecDepth 100000 in
theorem h_n17408 : w_f h_0 17408 = some (.int 0) := by decide +kernel
set_option maxRecDepth 100000 in
theorem h_n17920 : w_f h_0 17920 = some (.int 0) := by decide +kernel
set_option maxRecDepth 100000 in
theorem h_n18432 : w_f h_0 18432 = some (.int 0) := by decide +kernel
set_option maxRecDepth 100000 in
theorem h_n19625 : w_f h_0 19625 = some (.int 0) := by decide +kernel
set_option maxRecDepth 100000 in
theorem h_n19591 : w_f h_0 19591 = some (.int 0) := by decide +kernel
set_option maxRecDepth 100000 in
theorem h_n19612 : w_f h_0 19612 = some (.int 0) := by decide +kernel
set_option maxRecDepth 100000 in
theorem h_n19640 : w_f h_0 19640 = some (.int 0) := by decide +kernel
set_option maxRecDepth 100000 in
theorem h_n19643 : w_f h_0 19643 = some (.int 0) := by decide +kernel
set_option maxRecDepth 100000 in
theorem h_n129 : w_f h_0 129 = some (.int 1) := by decide +kernel
set_option maxRecDepth 100000 in
theorem h_n19600 : w_f h_0 19600 = some (.long 1) := by decide +kernel
set_option maxRecDepth 100000 in
theorem h_a188 : w_a h_0 188 = some (2, .inl [0, 0, 0]) := h_eqA_ok (by decide +kernel)
set_option maxRecDepth 100000 in
theorem h_b132 : w_a h_0 132 = some (0, .inl (List.replicate 8 0)) := h_eqA_ok (by decide +kernel)
set_option maxRecDepth 100000 in
theorem h_b133 : w_a h_0 133 = some (0, .inl (List.replicate 48 0)) := h_eqA_ok (by decide +kernel)
set_option maxRecDepth 100000 in
theorem h_b183 : w_a h_0 183 = some (0, .inl (List.replicate 48 0)) := h_eqA_ok (by decide +kernel)
def h_v0 (k : Nat) : Int32 := if k = 129 then 1 else 0
theorem h_v0_o {k : Nat} (hk : k ≠ 129) : h_v0 k = 0 := if_neg hk
theorem h_0_n : n_I h_0 := by
  refine ⟨h_0_I, h_v0, ⟨fun k hk => ?_, _, _, h_b132, h_b133, List.length_replicate, List.length_replicate, fun l m hl _ => absurd (show (l : Int) < 0 from hl) (by omega)⟩, fun p hp => ?_, ⟨h_a188, _, h_b183, List.length_replicate, fun k hk => absurd (show (k : Int) < 6 * 0 from hk) (by omega)⟩, h_n19600⟩
  · simp only [nC, List.mem_cons, List.not_mem_nil, or_false] at hk
    rcases hk with rfl | rfl | rfl | rfl | rfl | rfl | rfl | rfl | rfl
    · exact h_n16
    · exact h_n128
    · exact h_n129
    · exact h_n1537
    · exact h_n16640
    · exact h_n17152
    · exact h_n17408
    · exact h_n17920
    · exact h_n18432
  · simp only [nM, List.mem_cons, List.not_mem_nil, or_false] at hp
    rcases hp with rfl | rfl | rfl | rfl | rfl
    · exact h_n19625
    · exact h_n19591
    · exact h_n19612
    · exact h_n19640
    · exact h_n19643
/-- the law on paper: it answers 1 -/
theorem l_law {xs : Nat → Int32} (L : Nat) (hL : L ≤ 3072) : aOK s_P (some (L, xs)) 202 a_mL 0 s_ls0 [] [] 0 0 (l_fin 708 9685) := by
  refine a_go_ok (d := 201) ?_ 13 0 s_ls0 [] [] 0 0 (s_go1 s_E0 s_F0')
  exact l_loop hL 512 0 0 rfl (Nat.zero_le _) (by omega) none none none h_0 196 6613 h_0_n (by decide) (by decide)
end PT34b
section PT34c
/-! ===== what is known at the law's start ===== -/
theorem a_arrC {s : State} {A : Array Value} {ty : FieldType} (hty : ∀ C, ty ≠ .object C) (h : (Cond.arrayClass ty).before A s = true) : ∃ cA, ArrOfT s cA ty ∧ va_RA s cA ty := by
  obtain ⟨c, k, comp, h1, h2, h3⟩ := Cond.arrayClass_spec (args := A) (first := s) (o := none) (s := s) (idx := []) h
  refine ⟨c, fun n z => ⟨fun k h => (by cases h), k, h2, comp, h3⟩, ?_⟩
  cases ty with
  | object C => exact absurd rfl (hty C)
  | _ => exact h1
theorem a_arrO {s : State} {A : Array Value} {C : String} (h : (Cond.arrayOver (.object C)).before A s = true) : ∃ cA, ArrOfT s cA (.object C) ∧ va_RA s cA (.object C) := by
  obtain ⟨comp, c, k, h1, h2, h3, h4, h5⟩ := Cond.arrayOver_spec (args := A) (first := s) (o := none) (s := s) (idx := []) h
  exact ⟨c, fun n z => ⟨fun k h => (by cases h), k, h3, comp, h4⟩, k, comp, h3, h4, h1, h5⟩
theorem a_arrA {s : State} {A : Array Value} {t : FieldType} (h : (Cond.arrayOver (.array t)).before A s = true) : ∃ cA, ArrOfT s cA (.array t) ∧ va_RA s cA (.array t) := by
  obtain ⟨comp, c, k, h1, h2, h3, h4, h5⟩ := arrayOverA_spec (args := A) (first := s) (o := none) (s := s) (idx := []) h
  exact ⟨c, fun n z => ⟨fun k h => (by cases h), k, h3, comp, h4⟩, h5⟩
set_option maxRecDepth 100000 in
theorem a_nest_in : ∀ w ∈ a_nest, w ∈ lw_tbl := by decide +kernel
theorem a_nest_ot : ∀ w ∈ a_nest, w.onTables = true := by decide +kernel
theorem a_tops_in : ∀ w ∈ [Cond.arrayClass .int, Cond.arrayClass .long, Cond.arrayClass .boolean, Cond.arrayClass .char, Cond.arrayOver (.object "OddsInCourt$Saying"), Cond.arrayOver (.object "OddsInCourt$Kept"), Cond.arrayOver (.array .long),
    Cond.laysStatic a_soC a_soN "[J", Cond.initialized a_soC, Cond.laysStatic Bundle.tN "UNASSIGNED_STACK" Bundle.steD, Cond.laysStatic Bundle.tN "SUPPRESSED_SENTINEL" Bundle.listD, Cond.initialized Bundle.tN,
    Cond.stringRef "OddsInCourt" 426 "no such node or number", Cond.stringRef "OddsInCourt" 440 "no such number of the row", Cond.instantiable "java/util/NoSuchElementException" 6], w ∈ lw_tbl := by decide +kernel
def a_flat : List Cond := flatC (Jvm.Cond.and given_1 narrow_1)
theorem a_flats_in : ∀ w ∈ [Cond.arrayOf (.static a_soC a_soN "[J") .long, Cond.eq (.length (.static a_soC a_soN "[J")) (.int 6),
    Cond.eq (.elem (.static a_soC a_soN "[J") (.int 0)) (.long (-6148914691236517206)), Cond.eq (.elem (.static a_soC a_soN "[J") (.int 1)) (.long (-3689348814741910324)), Cond.eq (.elem (.static a_soC a_soN "[J") (.int 2)) (.long (-1085102592571150096)),
    Cond.eq (.elem (.static a_soC a_soN "[J") (.int 3)) (.long (-71777214294589696)), Cond.eq (.elem (.static a_soC a_soN "[J") (.int 4)) (.long (-281470681808896)), Cond.eq (.elem (.static a_soC a_soN "[J") (.int 5)) (.long (-4294967296)),
    Cond.isRef (.static Bundle.tN "UNASSIGNED_STACK" Bundle.steD), Cond.isRef (.static Bundle.tN "SUPPRESSED_SENTINEL" Bundle.listD),
    Cond.exactly (.string "OddsInCourt" 426) "java/lang/String", Cond.exactly (.string "OddsInCourt" 440) "java/lang/String"], w ∈ a_flat := by decide +kernel
theorem a_known {s : State} {b L : Nat} {xs : Nat → Int32} (hts : ∀ w ∈ lw_tbl, w.before #[Value.ref b] s = true) (hgv : (Jvm.Cond.and given_1 narrow_1).before #[Value.ref b] s = true) (hX : va_X b L xs s s.heap) (hbl : b < s.heap.size) :
    ∃ (so : Nat) (D : va_G) (dA : Nat → ClassId), a_Kn (b, so, s.heap.size, D, dA) s.heap (some (L, xs)) s := by
  have hgood : ∀ w ∈ a_good, w.before #[Value.ref b] s = true := fun w hw => hts w (List.mem_filter.mp hw).1
  have ht : ∀ {w : Cond}, w ∈ _ → w.before #[Value.ref b] s = true := fun {w} hw => hts w (a_tops_in w hw)
  have hfl := flat_of_before (Jvm.Cond.and given_1 narrow_1) hgv
  have hf : ∀ {w : Cond}, w ∈ _ → w.before #[Value.ref b] s = true := fun {w} hw => hfl w (a_flats_in w hw)
  -- classes
  have h1 : ∀ ci : Nat, ∃ z : ClassId × (Nat → Nat), ∀ q, vwCl[ci]? = some q → u_Kn s q.1 q.2.1 q.2.2 z.1 z.2 := by
    intro ci
    cases hq : vwCl[ci]? with
    | none => exact ⟨(0, fun _ => 0), fun q e => by cases e⟩
    | some q =>
      obtain ⟨C, T, N⟩ := q
      have hin := a_inC hq
      have hi : ∃ n, (Cond.instantiable C n).before #[Value.ref b] s = true := by
        rcases (a_cl_ok hq).2.2 with e | e
        · subst e
          have hC : C = "java/util/NoSuchElementException" := by
            have e2 : vwCl[13]? = some ("java/util/NoSuchElementException", a_T [], 0) := rfl
            rw [e2] at hq
            cases hq
            rfl
          subst hC
          exact ⟨6, ht (by simp)⟩
        · exact ⟨N, hgood _ e.1⟩
      obtain ⟨n, hi⟩ := hi
      obtain ⟨cC, iS, hk⟩ := u_known hgood hin hi
      exact ⟨(cC, iS), fun q e => by cases e; exact hk⟩
  obtain ⟨D, hD⟩ := Classical.axiomOfChoice h1
  -- arrays
  have h2 : ∀ t : Nat, ∃ cA : ClassId, ∀ ty, a_tys[t]? = some ty → ArrOfT s cA ty ∧ va_RA s cA ty := by
    intro t
    have use : ∀ {ty0 : FieldType}, a_tys[t]? = some ty0 → (∃ cA, ArrOfT s cA ty0 ∧ va_RA s cA ty0) → ∃ cA : ClassId, ∀ ty, a_tys[t]? = some ty → ArrOfT s cA ty ∧ va_RA s cA ty := by
      intro ty0 e ⟨cA, h⟩
      exact ⟨cA, fun ty e2 => by rw [e] at e2; cases e2; exact h⟩
    by_cases h7 : t < 7
    · rcases (show t = 0 ∨ t = 1 ∨ t = 2 ∨ t = 3 ∨ t = 4 ∨ t = 5 ∨ t = 6 by omega) with rfl | rfl | rfl | rfl | rfl | rfl | rfl
      · exact use rfl (a_arrC (fun C h => by cases h) (ht (by simp)))
      · exact use rfl (a_arrC (fun C h => by cases h) (ht (by simp)))
      · exact use rfl (a_arrC (fun C h => by cases h) (ht (by simp)))
      · exact use rfl (a_arrC (fun C h => by cases h) (ht (by simp)))
      · exact use rfl (a_arrO (ht (by simp)))
      · exact use rfl (a_arrO (ht (by simp)))
      · exact use rfl (a_arrA (ht (by simp)))
    · exact ⟨0, fun ty e => absurd (List.getElem?_eq_some_iff.mp e).1 (fun q => h7 q)⟩
  obtain ⟨dA, hdA⟩ := Classical.axiomOfChoice h2
  -- the row of constants
  have hA : ∀ a : Nat, a < s.heap.size → ¬ (fun q : Nat => s.heap.size ≤ q) a := fun a h => Nat.not_le.mpr h
  obtain ⟨so, hso, hT⟩ := va_Tof (tm := .static a_soC a_soN "[J") (ty := .long) (N := a_so.length) (f := fun j => .long (a_so.getD j 0)) (A := fun q : Nat => s.heap.size ≤ q) (by decide) (hf (by simp)) (va_eqt (hf (w := Cond.eq (.length (.static a_soC a_soN "[J")) (.int 6)) (by simp))) (fun j hj => by
    have hj' : j < 6 := hj
    rcases (show j = 0 ∨ j = 1 ∨ j = 2 ∨ j = 3 ∨ j = 4 ∨ j = 5 by omega) with rfl | rfl | rfl | rfl | rfl | rfl
    · exact va_eqtl (hf (w := Cond.eq (.elem (.static a_soC a_soN "[J") (.int 0)) (.long (-6148914691236517206))) (by simp))
    · exact va_eqtl (hf (w := Cond.eq (.elem (.static a_soC a_soN "[J") (.int 1)) (.long (-3689348814741910324))) (by simp))
    · exact va_eqtl (hf (w := Cond.eq (.elem (.static a_soC a_soN "[J") (.int 2)) (.long (-1085102592571150096))) (by simp))
    · exact va_eqtl (hf (w := Cond.eq (.elem (.static a_soC a_soN "[J") (.int 3)) (.long (-71777214294589696))) (by simp))
    · exact va_eqtl (hf (w := Cond.eq (.elem (.static a_soC a_soN "[J") (.int 4)) (.long (-281470681808896))) (by simp))
    · exact va_eqtl (hf (w := Cond.eq (.elem (.static a_soC a_soN "[J") (.int 5)) (.long (-4294967296))) (by simp))) hA
  have hZ : va_Z a_soC a_soN "[J" (.ref so) (fun q : Nat => s.heap.size ≤ q) s s.heap := va_Zref (ht (by simp)) (ht (by simp)) hso hA
  have hU : vx_Zq Bundle.tN "UNASSIGNED_STACK" Bundle.steD (fun q : Nat => s.heap.size ≤ q) s s.heap := vx_Zqof (ht (by simp)) (ht (by simp)) (hf (by simp)) hA
  have hN : vx_Zq Bundle.tN "SUPPRESSED_SENTINEL" Bundle.listD (fun q : Nat => s.heap.size ≤ q) s s.heap := vx_Zqof (ht (by simp)) (ht (by simp)) (hf (by simp)) hA
  have hstr : ∀ q ∈ a_strs, ∃ sa, vk_R "OddsInCourt" q.1 q.2 sa s := by
    intro q hq
    have hq' : q = (426, "no such node or number") ∨ q = (440, "no such number of the row") := by simpa [a_strs] using hq
    rcases hq' with rfl | rfl
    · obtain ⟨a, -, -, -, h1, -⟩ := Cond.exactly_spec (args := #[Value.ref b]) (first := s) (o := none) (s := s) (idx := []) (hf (w := Cond.exactly (.string "OddsInCourt" 426) "java/lang/String") (by simp))
      exact ⟨a, vk_R.of (A := #[Value.ref b]) (ht (by simp)) h1⟩
    · obtain ⟨a, -, -, -, h1, -⟩ := Cond.exactly_spec (args := #[Value.ref b]) (first := s) (o := none) (s := s) (idx := []) (hf (w := Cond.exactly (.string "OddsInCourt" 440) "java/lang/String") (by simp))
      exact ⟨a, vk_R.of (A := #[Value.ref b]) (ht (by simp)) h1⟩
  refine ⟨so, (fun k => (D k).1, fun k => (D k).2), dA, ⟨fun c q hq => hD c q hq, fun k q hq => ?_⟩, fun w hw => va_Nw.of (a_nest_ot w hw) (hts w (a_nest_in w hw)), fun C hC => ?_, ?_, hZ, hT, fun L' xs' e => ?_, hU, hN, hstr⟩
  · rw [a_tyl, List.getElem?_map, List.getElem?_zipIdx] at hq
    cases hk : a_tys[k]? with
    | none => rw [hk] at hq; cases hq
    | some ty =>
      rw [hk] at hq
      simp only [Option.map_some, Option.some.injEq, Nat.zero_add] at hq
      subst hq
      exact hdA k ty hk
  · have hC' : C = "OddsInCourt$Saying" ∨ C = "OddsInCourt$Kept" := by simpa [a_over] using hC
    rcases hC' with rfl | rfl
    · exact va_AO.of (A := #[Value.ref b]) (ht (by simp))
    · exact va_AO.of (A := #[Value.ref b]) (ht (by simp))
  · exact ht (w := Cond.arrayOver (.array .long)) (by simp)
  · cases e
    exact ⟨hX, hbl⟩
end PT34c
