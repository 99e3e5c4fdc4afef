/-! ===== v2: locals that nobody reads ===== -/
/-- what the first row of locals has, the other has too -/
def a_lle (ls ls' : aL) : Prop := ls.length = ls'.length ∧ ∀ (i : Nat) (v : Value), ls[i]? = some (some v) → ls'[i]? = some (some v)
theorem a_lle_pre {ls ls' : aL} (h : a_lle ls ls') (i : Nat) : a_lle (a_pre ls i) (a_pre ls' i) := by
  refine ⟨by rw [a_pre_len, a_pre_len]; exact h.1, fun j v hj => ?_⟩
  obtain ⟨h1, h2⟩ := a_pre_at hj
  have h3 := h.2 j v h1
  unfold a_pre
  split
  · exact h3
  · rename_i i'
    split
    · rename_i w hw
      split
      · rename_i hc
        by_cases e : i' = j
        · subst e
          rw [h3] at hw
          cases hw
          exact absurd ⟨rfl, hc⟩ h2
        · rw [List.getElem?_set_ne e]
          exact h3
      · exact h3
    · exact h3
theorem a_lle_set {ls ls' : aL} (h : a_lle ls ls') (i : Nat) (o : Option Value) : a_lle (ls.set i o) (ls'.set i o) := by
  refine ⟨by rw [List.length_set, List.length_set]; exact h.1, fun j v hj => ?_⟩
  rw [List.getElem?_set] at hj ⊢
  split at hj
  · rename_i e
    rw [if_pos e]
    split at hj
    · rename_i hl
      rw [if_pos (by rw [← h.1]; exact hl)]
      exact hj
    · cases hj
  · rename_i e
    rw [if_neg e]
    exact h.2 j v hj
theorem a_lle_loc {i : Instr} {ls ls' : aL} {st : List Value} {r : aL × List Value} (h : a_lle ls ls') (e : a_loc i ls st = some r) : ∃ r', a_loc i ls' st = some r' ∧ r'.2 = r.2 ∧ a_lle r.1 r'.1 := by
  have ldi : ∀ {n : Nat}, a_ldi ls n st = some r → ∃ r', a_ldi ls' n st = some r' ∧ r'.2 = r.2 ∧ a_lle r.1 r'.1 := by
    intro n e
    unfold a_ldi at e ⊢
    split at e
    · rename_i x hx
      cases e
      rw [h.2 _ _ hx]
      exact ⟨_, rfl, rfl, h⟩
    · cases e
  have ldl : ∀ {n : Nat}, a_ldl ls n st = some r → ∃ r', a_ldl ls' n st = some r' ∧ r'.2 = r.2 ∧ a_lle r.1 r'.1 := by
    intro n e
    unfold a_ldl at e ⊢
    split at e
    · rename_i x hx
      cases e
      rw [h.2 _ _ hx]
      exact ⟨_, rfl, rfl, h⟩
    · cases e
  have lda : ∀ {n : Nat}, a_lda ls n st = some r → ∃ r', a_lda ls' n st = some r' ∧ r'.2 = r.2 ∧ a_lle r.1 r'.1 := by
    intro n e
    unfold a_lda at e ⊢
    split at e
    · rename_i x hx
      cases e
      rw [h.2 _ _ hx]
      exact ⟨_, rfl, rfl, h⟩
    · cases e
  have sti : ∀ {n : Nat}, a_sti ls n st = some r → ∃ r', a_sti ls' n st = some r' ∧ r'.2 = r.2 ∧ a_lle r.1 r'.1 := by
    intro n e
    unfold a_sti at e ⊢
    split at e
    · split at e
      · rename_i hl
        cases e
        rw [if_pos (Nat.lt_of_lt_of_eq hl h.1)]
        exact ⟨_, rfl, rfl, a_lle_set (a_lle_pre h _) _ _⟩
      · cases e
    · cases e
  have sta : ∀ {n : Nat}, a_sta ls n st = some r → ∃ r', a_sta ls' n st = some r' ∧ r'.2 = r.2 ∧ a_lle r.1 r'.1 := by
    intro n e
    unfold a_sta at e ⊢
    split at e
    · split at e
      · rename_i hl
        cases e
        rw [if_pos (Nat.lt_of_lt_of_eq hl h.1)]
        exact ⟨_, rfl, rfl, a_lle_set (a_lle_pre h _) _ _⟩
      · cases e
    · cases e
  have stl : ∀ {n : Nat}, a_stl ls n st = some r → ∃ r', a_stl ls' n st = some r' ∧ r'.2 = r.2 ∧ a_lle r.1 r'.1 := by
    intro n e
    unfold a_stl at e ⊢
    split at e
    · split at e
      · rename_i hl
        cases e
        rw [if_pos (Nat.lt_of_lt_of_eq hl h.1)]
        exact ⟨_, rfl, rfl, a_lle_set (a_lle_set (a_lle_pre h _) _ _) _ _⟩
      · cases e
    · cases e
  have inc : ∀ {n : Nat} {c : Int}, a_inc ls n c st = some r → ∃ r', a_inc ls' n c st = some r' ∧ r'.2 = r.2 ∧ a_lle r.1 r'.1 := by
    intro n c e
    unfold a_inc at e ⊢
    split at e
    · rename_i x hx
      cases e
      rw [h.2 _ _ hx]
      exact ⟨_, rfl, rfl, a_lle_set (a_lle_pre h _) _ _⟩
    · cases e
  unfold a_loc at e ⊢
  split at e <;> first
    | exact ldi e
    | exact ldl e
    | exact lda e
    | exact sti e
    | exact stl e
    | exact sta e
    | exact inc e
    | cases e
/-- what a row of locals that has nothing to say answers -/
theorem a_loc_none {i : Instr} {ls : aL} {st : List Value} (h : ∀ ls', a_loc i ls' st = none ∨ True) : True := trivial
section ALE
variable {P : List aM} {X : aX}
/-- is the instruction one on locals -/
def a_isl (i : Instr) : Bool := match i with
  | .iload_n _ => true
  | .iload _ => true
  | .lload_n _ => true
  | .lload _ => true
  | .aload_n _ => true
  | .aload _ => true
  | .istore_n _ => true
  | .istore _ => true
  | .lstore_n _ => true
  | .lstore _ => true
  | .astore_n _ => true
  | .astore _ => true
  | .iinc _ _ => true
  | _ => false
theorem a_isl_no {i : Instr} (h : a_isl i = false) (ls : aL) (st : List Value) : a_loc i ls st = none := by
  unfold a_isl at h
  unfold a_loc
  split <;> first
    | rfl
    | (exfalso; exact Bool.noConfusion h)
    | (exfalso; simp at h)
theorem a_isl_op {i : Instr} (h : a_isl i = true) {len : Nat} {k : aK} {pc : Nat} {ls : aL} {st : List Value} {hp : aH} : a_op X i len k pc ls st hp = (a_loc i ls st).map (fun q => (pc + len, q.1, q.2, hp, 0, 0)) := by
  unfold a_isl at h
  split at h
  all_goals first
    | (exfalso; exact Bool.noConfusion h)
    | (show (match a_loc _ ls st with
        | some (ls', st') => some (pc + len, ls', st', hp, 0, 0)
        | none => _) = _
       cases a_loc _ ls st with
       | none => cases X <;> rfl
       | some q => rfl)
theorem a_op_lle {i : Instr} {len : Nat} {k : aK} {pc : Nat} {ls ls' : aL} {st : List Value} {h : aH} (hl : a_lle ls ls') {pc' : Nat} {l1 : aL} {st' : List Value} {h' : aH} {c s : Nat} (e : a_op X i len k pc ls st h = some (pc', l1, st', h', c, s)) : ∃ l2, a_op X i len k pc ls' st h = some (pc', l2, st', h', c, s) ∧ a_lle l1 l2 := by
  cases hi : a_isl i with
  | true =>
    rw [a_isl_op hi] at e ⊢
    cases hq : a_loc i ls st with
    | none => rw [hq] at e; cases e
    | some q =>
      rw [hq] at e
      cases e
      obtain ⟨r', e1, e2, e3⟩ := a_lle_loc hl hq
      exact ⟨r'.1, by rw [e1, Option.map_some, e2], e3⟩
  | false =>
    unfold a_op at e ⊢
    rw [a_isl_no hi] at e ⊢
    cases h1 : a_stk i k st with
    | some q => rw [h1] at e; cases e; exact ⟨ls', rfl, hl⟩
    | none =>
      rw [h1] at e
      dsimp only at e ⊢
      cases h3 : a_br i k pc st with
      | some q => rw [h3] at e; cases e; exact ⟨ls', rfl, hl⟩
      | none =>
        rw [h3] at e
        dsimp only at e ⊢
        cases h4 : a_hp i k st h with
        | some q => rw [h4] at e; cases e; exact ⟨ls', rfl, hl⟩
        | none =>
          rw [h4] at e
          dsimp only at e ⊢
          cases h5 : a_scr X i st with
          | some q => rw [h5] at e; cases e; exact ⟨ls', rfl, hl⟩
          | none => rw [h5] at e; cases e
theorem a_op_lle' {i : Instr} {len : Nat} {k : aK} {pc : Nat} {ls ls' : aL} {st : List Value} {h : aH} (hi : a_isl i = false) (e : a_op X i len k pc ls st h = none) : a_op X i len k pc ls' st h = none := by
  unfold a_op at e ⊢
  rw [a_isl_no hi] at e ⊢
  cases h1 : a_stk i k st with
  | some q => rw [h1] at e; cases e
  | none =>
    rw [h1] at e
    dsimp only at e ⊢
    cases h3 : a_br i k pc st with
    | some q => rw [h3] at e; cases e
    | none =>
      rw [h3] at e
      dsimp only at e ⊢
      cases h4 : a_hp i k st h with
      | some q => rw [h4] at e; cases e
      | none =>
        rw [h4] at e
        dsimp only at e ⊢
        cases h5 : a_scr X i st with
        | some q => rw [h5] at e; cases e
        | none => rfl
theorem a_ret_l {i : Instr} {k : aK} {ret : Option FieldType} {st : List Value} {v : Option Value} (h : a_ret i k ret st = some v) : a_isl i = false := by
  unfold a_ret at h
  split at h <;> first | rfl | cases h
theorem a_inv_l {i : Instr} {k : aK} {st : List Value} {h : aH} {q : aM × List Value × List Value} (e : a_inv P i k st h = some q) : a_isl i = false := by
  unfold a_inv at e
  split at e
  · cases e
  · split at e <;> first | rfl | cases e
theorem aexec_lle : ∀ (n : Nat) {d : Nat} {M : aM} {pc : Nat} {ls ls' : aL} {st : List Value} {h : aH} {r : aQ}, a_lle ls ls' → aexec P X n d M pc ls st h = some r → aexec P X n d M pc ls' st h = some r
  | 0, _, _, _, _, _, _, _, _, _, e => by rw [aexec] at e; cases e
  | n + 1, d, M, pc, ls, ls', st, h, r, hl, e => by
    rw [aexec_S] at e ⊢
    unfold a_body at e ⊢
    cases hlk : M.2.2.2.2.2.lookup pc with
    | none => rw [hlk] at e; cases e
    | some q =>
      obtain ⟨i, len, k⟩ := q
      rw [hlk] at e
      dsimp only at e ⊢
      cases ho : a_op X i len k pc ls st h with
      | some q =>
        obtain ⟨pc', l1, st', h', c, s⟩ := q
        obtain ⟨l2, e2, hl2⟩ := a_op_lle hl ho
        rw [ho] at e
        rw [e2]
        dsimp only at e ⊢
        exact a_more_mono (fun q hq => aexec_lle n hl2 hq) e
      | none =>
        rw [ho] at e
        dsimp only at e
        cases hr : a_ret i k M.2.2.2.1 st with
        | some v =>
          rw [a_op_lle' (a_ret_l hr) ho]
          rw [hr] at e
          exact e
        | none =>
          rw [hr] at e
          dsimp only at e
          cases hi : a_inv P i k st h with
          | none => rw [hi] at e; cases e
          | some q =>
            rw [a_op_lle' (a_inv_l hi) ho]
            obtain ⟨M', as, rest⟩ := q
            rw [hi] at e
            dsimp only at e ⊢
            cases d with
            | zero => cases e
            | succ d' =>
              dsimp only at e ⊢
              cases hc : aexec P X n d' M' 0 (a_ent as M'.2.2.1) [] h with
              | none => rw [hc] at e; cases e
              | some q =>
                rw [hc] at e
                obtain ⟨v, h1, c, s⟩ := q
                dsimp only at e ⊢
                split at e
                · exact e
                · exact a_more_mono (fun q hq => aexec_lle n hl hq) e
theorem aOK_lle {d pc C S : Nat} {M : aM} {ls ls' : aL} {st : List Value} {h : aH} {K : Option Value → aH → Nat → Nat → Prop} (hl : a_lle ls ls') (q : aOK P X d M pc ls st h C S K) : aOK P X d M pc ls' st h C S K := by
  obtain ⟨n, v, h2, c2, s2, e, q⟩ := q
  exact ⟨n, v, h2, c2, s2, aexec_lle n hl e, q⟩
end ALE
