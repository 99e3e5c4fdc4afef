/-! ===== one step on such values ===== -/
def s_hp (fa : sFa) (i : Instr) (k : aK) (st : List sV) (h : List sE) : Option (List sV × List sE) := match i with
  | .getfield _ => s_get k st h
  | .putfield _ => s_putf fa k st h
  | .iaload => match st with
    | [.inl (.int j)] :: [.inl (.ref 0)] :: r => if j < 0 ∨ 6 ≤ j.toNatClampNeg then none else some ([.inr (.inl j.toNatClampNeg)] :: r, h)
    | _ => s_ald fa 0 1 st h
  | .baload => s_ald fa 2 1 st h
  | .caload => s_ald fa 3 1 st h
  | .laload => s_ald fa 1 2 st h
  | .aaload => match s_ald fa 4 3 st h with
    | some q => some q
    | none => match s_ald fa 5 3 st h with
      | some q => some q
      | none => s_ald fa 6 3 st h
  | .iastore => s_ast fa 0 st h
  | .bastore => s_ast fa 2 st h
  | .castore => s_ast fa 3 st h
  | .lastore => s_ast fa 1 st h
  | .arraylength => match st with
    | [.inl (.ref 0)] :: r => some ([.inl (.int (Int32.ofNat 6))] :: r, h)
    | _ => none
  | _ => none
def s_jmp (fa : sFa) (i : Instr) (k : aK) (pc : Nat) (st : List sV) : Option (Nat × List sV) := match i with
  | .goto _ => some (k.2.1, st)
  | .tableswitch d lo hi offs => match st with
    | e :: r => if s_ty e = 1 ∧ (s_itv fa e).1 = (s_itv fa e).2 then
      (if (s_itv fa e).1 < lo ∨ hi < (s_itv fa e).1 then (a_tgt pc d).map (fun t => (t, r)) else
        match offs[((s_itv fa e).1 - lo).toNat]? with
        | some o => (a_tgt pc o).map (fun t => (t, r))
        | none => none) else none
    | _ => none
  | _ => none
def s_one (fa : sFa) (i : Instr) (len : Nat) (k : aK) (pc : Nat) (ls : sL) (st : List sV) (h : List sE) : Option (Nat × sL × List sV × List sE) :=
  match s_stk i k st with
  | some st' => some (pc + len, ls, st', h)
  | none => match s_loc i ls st with
    | some (ls', st') => some (pc + len, ls', st', h)
    | none => match s_jmp fa i k pc st with
      | some (pc', st') => some (pc', ls, st', h)
      | none => match s_hp fa i k st h with
        | some (st', h') => some (pc + len, ls, st', h')
        | none => none
section SST
variable {E : Nat → Int32} {F : sF}
theorem s_jmp_ok (hF : s_Fok F) {fa : sFa} (hs : s_sat E F fa) {i : Instr} {k : aK} {pc pc' : Nat} {ls : aL} {st st' : List sV} (q : s_jmp fa i k pc st = some (pc', st')) : a_stk i k (s_est E F st) = none ∧ a_loc i ls (s_est E F st) = none ∧ a_br i k pc (s_est E F st) = some (pc', s_est E F st') := by
  unfold s_jmp at q
  split at q
  · cases q
    exact ⟨rfl, rfl, rfl⟩
  · rename_i d lo hi offs
    refine ⟨rfl, rfl, ?_⟩
    split at q
    · rename_i e r
      split at q
      · rename_i hc
        obtain ⟨z, hz⟩ := s_ty1 (E := E) hF hc.1
        have hi' := s_itv_ok hs hz
        have hzz : z.toInt = (s_itv fa e).1 := by omega
        show (match s_est E F (e :: r) with
          | .int x :: r => if x.toInt < lo ∨ hi < x.toInt then (a_tgt pc d).map (fun t => (t, r)) else
            match offs[(x.toInt - lo).toNat]? with
            | some o => (a_tgt pc o).map (fun t => (t, r))
            | none => none
          | _ => none) = _
        simp only [s_est, List.map_cons, hz]
        rw [hzz]
        split at q
        · rename_i hb
          rw [if_pos hb]
          cases ht : a_tgt pc d with
          | none => rw [ht] at q; cases q
          | some t => rw [ht] at q; cases q; rfl
        · rename_i hb
          rw [if_neg hb]
          split at q
          · rename_i o ho
            cases ht : a_tgt pc o with
            | none => rw [ht] at q; cases q
            | some t => rw [ht] at q; cases q; rfl
          · cases q
      · cases q
    · cases q
  · cases q
theorem s_hp_ok (hF : s_Fok F) {fa : sFa} (hs : s_sat E F fa) {i : Instr} {k : aK} {pc len : Nat} {ls : aL} {st st' : List sV} {h h' : List sE} (q : s_hp fa i k st h = some (st', h')) : a_op (some (6, E)) i len k pc ls (s_est E F st) (s_eH E F h) = some (pc + len, ls, s_est E F st', s_eH E F h', 0, 0) := by
  have key : ∀ {x : Option aR}, x = some (s_est E F st', s_eH E F h', 0, 0) → (match x with
        | some (st', h', c, s) => some (pc + len, ls, st', h', c, s)
        | none => match a_scr (some (6, E)) i (s_est E F st) with
          | some st' => some (pc + len, ls, st', s_eH E F h, 0, 0)
          | none => none) = some (pc + len, ls, s_est E F st', s_eH E F h', 0, 0) := fun e => by rw [e]
  unfold s_hp at q
  split at q
  · exact key (s_get_ok q)
  · exact key (s_putf_ok hF hs q)
  · split at q
    · rename_i j r
      split at q
      · cases q
      · rename_i hj
        cases q
        show (match a_scr (some (6, E)) .iaload (.int j :: .ref 0 :: s_est E F r) with
          | some st' => some (pc + len, ls, st', s_eH E F h, 0, 0)
          | none => none) = _
        simp only [a_scr, hj, if_false]
        rfl
    · exact key (s_ald_ok hF hs (Or.inl rfl) q)
  · exact key (s_ald_ok hF hs (Or.inr (Or.inl rfl)) q)
  · exact key (s_ald_ok hF hs (Or.inr (Or.inr rfl)) q)
  · exact key (s_lald_ok hF hs q)
  · split at q
    · rename_i q1
      cases q
      exact key (s_aald_ok hF hs (by decide) q1)
    · split at q
      · rename_i q1
        cases q
        exact key (s_aald_ok hF hs (by decide) q1)
      · exact key (s_aald_ok hF hs (by decide) q)
  · exact key (s_ast_ok hF hs (Or.inl rfl) q)
  · exact key (s_ast_ok hF hs (Or.inr (Or.inl rfl)) q)
  · exact key (s_ast_ok hF hs (Or.inr (Or.inr rfl)) q)
  · exact key (s_last_ok hF q)
  · split at q
    · rename_i r
      cases q
      rfl
    · cases q
  · cases q
theorem s_one_ok (hF : s_Fok F) {fa : sFa} (hs : s_sat E F fa) {i : Instr} {len : Nat} {k : aK} {pc pc' : Nat} {ls ls' : sL} {st st' : List sV} {h h' : List sE} (q : s_one fa i len k pc ls st h = some (pc', ls', st', h')) :
    a_op (some (6, E)) i len k pc (s_els E F ls) (s_est E F st) (s_eH E F h) = some (pc', s_els E F ls', s_est E F st', s_eH E F h', 0, 0) := by
  unfold s_one at q
  split at q
  · rename_i st2 h1
    cases q
    unfold a_op
    rw [s_stk_ok hF h1]
  · split at q
    · rename_i ls2 st2 h1
      cases q
      obtain ⟨e1, e2⟩ := s_loc_ok (k := k) hF h1 (E := E)
      unfold a_op
      rw [e1]; dsimp only; rw [e2]
    · split at q
      · rename_i pc2 st2 h1
        cases q
        obtain ⟨e1, e2, e3⟩ := s_jmp_ok (ls := s_els E F ls) hF hs h1
        unfold a_op
        rw [e1]; dsimp only; rw [e2]; dsimp only; rw [e3]
      · split at q
        · rename_i st2 h2 h1
          cases q
          exact s_hp_ok hF hs h1
        · cases q
/-- a test with two ways -/
def s_tst (i : Instr) (st : List sV) : Option (ClassFile.Cond × sV × sV × List sV) := match i with
  | .ifCond c _ => match st with
    | a :: r => if s_ty a = 1 then some (c, a, [.inl (.int 0)], r) else none
    | _ => none
  | .if_icmp c _ => match st with
    | b :: a :: r => if s_ty a = 1 ∧ s_ty b = 1 then some (c, a, b, r) else none
    | _ => none
  | _ => none
theorem s_tst_ok (hF : s_Fok F) {i : Instr} {len : Nat} {k : aK} {pc : Nat} {ls : aL} {st r : List sV} {h : aH} {c : ClassFile.Cond} {a b : sV} {X : aX} (q : s_tst i st = some (c, a, b, r)) :
    ∃ x y, s_ev E F a = .int x ∧ s_ev E F b = .int y ∧ a_op X i len k pc ls (s_est E F st) h = some (if a_cnd c x y then k.2.1 else pc + 3, ls, s_est E F r, h, 0, 0) := by
  unfold s_tst at q
  split at q
  · split at q
    · rename_i a r
      split at q
      · rename_i ht
        cases q
        obtain ⟨x, hx⟩ := s_ty1 (E := E) hF ht
        refine ⟨x, 0, hx, rfl, ?_⟩
        simp only [s_est, List.map_cons, hx]
        rfl
      · cases q
    · cases q
  · split at q
    · rename_i b a r
      split at q
      · rename_i ht
        cases q
        obtain ⟨x, hx⟩ := s_ty1 (E := E) hF ht.1
        obtain ⟨y, hy⟩ := s_ty1 (E := E) hF ht.2
        refine ⟨x, y, hx, hy, ?_⟩
        simp only [s_est, List.map_cons, hx, hy]
        rfl
      · cases q
    · cases q
  · cases q
/-- the ways of a test, with what each tells -/
def s_ways (fa : sFa) (c : ClassFile.Cond) (a b : sV) (yes no : Nat) : List (Nat × sFa) := match s_nrm c a b with
  | (lt, a', b', neg) => match s_dec fa lt a' b' with
    | some z => [(if z != neg then yes else no, fa)]
    | none => [(if neg then no else yes, s_add fa lt true a' b'), (if neg then yes else no, s_add fa lt false a' b')]
theorem s_nrm_ok {c : ClassFile.Cond} {a b a' b' : sV} {lt neg : Bool} {x y : Int32} (ha : s_ev E F a = .int x) (hb : s_ev E F b = .int y) (h : s_nrm c a b = (lt, a', b', neg)) : ∃ x' y', s_ev E F a' = .int x' ∧ s_ev E F b' = .int y' ∧ a_cnd c x y = (s_cmp lt x' y' != neg) := by
  cases c <;> cases h <;> first
    | (refine ⟨_, _, ha, hb, ?_⟩; simp [a_cnd, s_cmp]; done)
    | (refine ⟨_, _, hb, ha, ?_⟩; simp [a_cnd, s_cmp]; done)
    | (refine ⟨_, _, ha, hb, ?_⟩; simp only [a_cnd, s_cmp, if_true, Bool.bne_true]; rw [← decide_not]; exact decide_eq_decide.mpr (Int32.not_lt).symm)
    | (refine ⟨_, _, hb, ha, ?_⟩; simp only [a_cnd, s_cmp, if_true, Bool.bne_true]; rw [← decide_not]; exact decide_eq_decide.mpr (Int32.not_lt).symm)
theorem s_ways_ok {fa : sFa} (hs : s_sat E F fa) {c : ClassFile.Cond} {a b : sV} {yes no : Nat} {x y : Int32} (ha : s_ev E F a = .int x) (hb : s_ev E F b = .int y) : ∃ q ∈ s_ways fa c a b yes no, q.1 = (if a_cnd c x y then yes else no) ∧ s_sat E F q.2 := by
  unfold s_ways
  obtain ⟨⟨lt, a', b', neg⟩, hn⟩ : ∃ z, s_nrm c a b = z := ⟨_, rfl⟩
  rw [hn]
  obtain ⟨x', y', ha', hb', hc⟩ := s_nrm_ok ha hb hn
  rw [hc]
  dsimp only
  split
  · rename_i z hz
    refine ⟨_, List.mem_singleton.mpr rfl, ?_, hs⟩
    rw [s_dec_ok hs ha' hb' hz]
  · cases hz : s_cmp lt x' y' with
    | true =>
      refine ⟨_, List.mem_cons_self, ?_, s_add_ok hs ha' hb' hz⟩
      cases neg <;> rfl
    | false =>
      refine ⟨_, List.mem_cons_of_mem _ List.mem_cons_self, ?_, s_add_ok hs ha' hb' hz⟩
      cases neg <;> rfl
end SST
