section PT07h
/-! ===== one step on such values ===== -/
/-- a copy of nothing -/
def s_cp0 (st : List sV) (h : sH) : Option (List sV × sH) := match st with
  | [.inl (.int n)] :: [.inl (.int dp)] :: [.inl (.ref (d + 2))] :: [.inl (.int sp)] :: [.inl (.ref (o + 2))] :: [] => match s_hget h o, s_hget h d with
    | some (.inl a), some (.inl b) => if n = 0 ∧ dp = 0 ∧ sp = 0 ∧ a.1 = 0 ∧ b.1 = 0 then some ([], h) else none
    | _, _ => none
  | _ => none
theorem s_cp0_cpy (f g : List Int32) : a_cpy f g 0 0 0 = g := by
  unfold a_cpy
  apply List.ext_getElem?
  intro i
  rw [List.getElem?_map]
  by_cases h : i < g.length
  · rw [List.getElem?_range h, Option.map_some, if_neg (by omega), List.getD_eq_getElem?_getD, List.getElem?_eq_getElem h]; rfl
  · rw [List.getElem?_eq_none (by rw [List.length_range]; omega), List.getElem?_eq_none (by omega)]; rfl
theorem s_set_same {α : Type} {l : List α} {d : Nat} {x : α} (h : l[d]? = some x) : l.set d x = l := by
  apply List.ext_getElem?
  intro i
  rw [List.getElem?_set]
  by_cases e : d = i
  · subst e
    rw [if_pos rfl, h, if_pos (List.getElem?_eq_some_iff.mp h).1]
  · rw [if_neg e]
theorem s_cp0_ok {E : Nat → Int32} {F : sF} {st st' : List sV} {h h' : sH} (q : s_cp0 st h = some (st', h')) : (if a_wd ((s_est E F st).drop 5) ≤ 8 then a_copy (s_est E F st) (s_eH E F h) else none) = some (s_est E F st', s_eH E F h', 0, 0) := by
  unfold s_cp0 at q
  split at q
  · rename_i n dp d sp o
    split at q
    · rename_i a b ha hb
      split at q
      · rename_i hc
        obtain ⟨rfl, rfl, rfl, h1, h2⟩ := hc
        cases q
        have ea : (s_eH E F h)[o]? = some (.inl (0, .inl ((List.range a.2.1).map (fun j => s_toI (s_ev E F (s_at a j)))))) := by
          rw [s_eH_get, ha]
          show some (s_eE E F (.inl a)) = _
          unfold s_eE
          dsimp only
          rw [s_eA_int (by omega) (by omega), h1]
        have eb : (s_eH E F h)[d]? = some (.inl (0, .inl ((List.range b.2.1).map (fun j => s_toI (s_ev E F (s_at b j)))))) := by
          rw [s_eH_get, hb]
          show some (s_eE E F (.inl b)) = _
          unfold s_eE
          dsimp only
          rw [s_eA_int (by omega) (by omega), h2]
        show (if a_wd [] ≤ 8 then a_copy (.int 0 :: .int 0 :: .ref (d + 2) :: .int 0 :: .ref (o + 2) :: []) (s_eH E F h) else none) = _
        rw [if_pos (by decide)]
        unfold a_copy
        dsimp only
        rw [ea, eb]
        dsimp only
        rw [if_pos ⟨rfl, Or.inl rfl⟩, if_neg (by
          have e0 : Int32.toNatClampNeg 0 = 0 := rfl
          rw [e0]
          rintro (w | w | w | w | w)
          · exact absurd w (by decide)
          · exact absurd w (by decide)
          · exact absurd w (by decide)
          · exact absurd w (Nat.not_lt_zero _)
          · exact absurd w (Nat.not_lt_zero _)), if_pos (Or.inl rfl)]
        have e0 : Int32.toNatClampNeg 0 = 0 := rfl
        rw [e0, s_cp0_cpy, s_set_same eb]; rfl
      · cases q
    · cases q
  · cases q
def s_hp (fa : sFa) (i : Instr) (k : aK) (st : List sV) (h : sH) : Option (List sV × sH) := match i with
  | .getfield _ => s_get k st h
  | .putfield _ => s_putf fa k st h
  | .iaload => match st with
    | [.inl (.int j)] :: [.inl (.ref 0)] :: r => if j < 0 ∨ 6 ≤ j.toNatClampNeg then none else some ([.inr (.inl j.toNatClampNeg)] :: r, h)
    | _ => s_ald fa 0 1 st h
  | .baload => s_ald fa 2 1 st h
  | .caload => s_ald fa 3 1 st h
  | .laload => s_ald fa 1 2 st h
  | .aaload => match s_ald fa 4 3 st h with
    | some q => some q
    | none => match s_ald fa 5 3 st h with
      | some q => some q
      | none => s_ald fa 6 3 st h
  | .iastore => s_ast fa 0 st h
  | .bastore => s_ast fa 2 st h
  | .castore => s_ast fa 3 st h
  | .lastore => s_ast fa 1 st h
  | .invokestatic _ => if k.1 = 10 then s_cp0 st h else none
  | .arraylength => match st with
    | [.inl (.ref 0)] :: r => some ([.inl (.int (Int32.ofNat 6))] :: r, h)
    | _ => none
  | _ => none
def s_jmp (fa : sFa) (i : Instr) (k : aK) (pc : Nat) (st : List sV) : Option (Nat × List sV) := match i with
  | .goto _ => some (k.2.1, st)
  | .tableswitch d lo hi offs => match st with
    | e :: r => if s_ty e = 1 then
      (if (s_itv fa e).2 < lo ∨ hi < (s_itv fa e).1 then (a_tgt pc d).map (fun t => (t, r)) else
        if (s_itv fa e).1 = (s_itv fa e).2 then match offs[((s_itv fa e).1 - lo).toNat]? with
        | some o => (a_tgt pc o).map (fun t => (t, r))
        | none => none
        else none) else none
    | _ => none
  | _ => none
def s_one (fa : sFa) (i : Instr) (len : Nat) (k : aK) (pc : Nat) (ls : sL) (st : List sV) (h : sH) : Option (Nat × sL × List sV × sH) :=
  match s_stk i k st with
  | some st' => some (pc + len, ls, st', h)
  | none => match s_loc i ls st with
    | some (ls', st') => some (pc + len, ls', st', h)
    | none => match s_jmp fa i k pc st with
      | some (pc', st') => some (pc', ls, st', h)
      | none => match s_hp fa i k st h with
        | some (st', h') => some (pc + len, ls, st', h')
        | none => none
section SST
variable {E : Nat → Int32} {F : sF}
theorem s_jmp_ok (hF : s_Fok F) {fa : sFa} (hs : s_sat E F fa) {i : Instr} {k : aK} {pc pc' : Nat} {ls : aL} {st st' : List sV} (q : s_jmp fa i k pc st = some (pc', st')) : a_stk i k (s_est E F st) = none ∧ a_loc i ls (s_est E F st) = none ∧ a_br i k pc (s_est E F st) = some (pc', s_est E F st') := by
  unfold s_jmp at q
  split at q
  · cases q
    exact ⟨rfl, rfl, rfl⟩
  · rename_i d lo hi offs
    refine ⟨rfl, rfl, ?_⟩
    split at q
    · rename_i e r
      split at q
      · rename_i hc
        obtain ⟨z, hz⟩ := s_ty1 (E := E) hF hc
        have hi' := s_itv_ok hs hz
        show (match s_est E F (e :: r) with
          | .int x :: r => if x.toInt < lo ∨ hi < x.toInt then (a_tgt pc d).map (fun t => (t, r)) else
            match offs[(x.toInt - lo).toNat]? with
            | some o => (a_tgt pc o).map (fun t => (t, r))
            | none => none
          | _ => none) = _
        simp only [s_est, List.map_cons, hz]
        split at q
        · rename_i hb
          rw [if_pos (by omega)]
          cases ht : a_tgt pc d with
          | none => rw [ht] at q; cases q
          | some t => rw [ht] at q; cases q; rfl
        · rename_i hb
          split at q
          · rename_i hone
            have hzz : z.toInt = (s_itv fa e).1 := by omega
            rw [hzz, if_neg (by omega)]
            split at q
            · rename_i o ho
              cases ht : a_tgt pc o with
              | none => rw [ht] at q; cases q
              | some t => rw [ht] at q; cases q; rfl
            · cases q
          · cases q
      · cases q
    · cases q
  · cases q
theorem s_hp_ok (hF : s_Fok F) {fa : sFa} (hs : s_sat E F fa) {i : Instr} {k : aK} {pc len : Nat} {ls : aL} {st st' : List sV} {h h' : sH} (q : s_hp fa i k st h = some (st', h')) : a_op (some (6, E)) i len k pc ls (s_est E F st) (s_eH E F h) = some (pc + len, ls, s_est E F st', s_eH E F h', 0, 0) := by
  have key : ∀ {x : Option aR}, x = some (s_est E F st', s_eH E F h', 0, 0) → (match x with
        | some (st', h', c, s) => some (pc + len, ls, st', h', c, s)
        | none => match a_scr (some (6, E)) i (s_est E F st) with
          | some st' => some (pc + len, ls, st', s_eH E F h, 0, 0)
          | none => none) = some (pc + len, ls, s_est E F st', s_eH E F h', 0, 0) := fun e => by rw [e]
  unfold s_hp at q
  split at q
  · exact key (s_get_ok q)
  · exact key (s_putf_ok hF hs q)
  · split at q
    · rename_i j r
      split at q
      · cases q
      · rename_i hj
        cases q
        show (match a_scr (some (6, E)) .iaload (.int j :: .ref 0 :: s_est E F r) with
          | some st' => some (pc + len, ls, st', s_eH E F h, 0, 0)
          | none => none) = _
        simp only [a_scr, hj, if_false]
        rfl
    · exact key (s_ald_ok hF hs (Or.inl rfl) q)
  · exact key (s_ald_ok hF hs (Or.inr (Or.inl rfl)) q)
  · exact key (s_ald_ok hF hs (Or.inr (Or.inr rfl)) q)
  · exact key (s_lald_ok hF hs q)
  · split at q
    · rename_i q1
      cases q
      exact key (s_aald_ok hF hs (by decide) q1)
    · split at q
      · rename_i q1
        cases q
        exact key (s_aald_ok hF hs (by decide) q1)
      · exact key (s_aald_ok hF hs (by decide) q)
  · exact key (s_ast_ok hF hs (Or.inl rfl) q)
  · exact key (s_ast_ok hF hs (Or.inr (Or.inl rfl)) q)
  · exact key (s_ast_ok hF hs (Or.inr (Or.inr rfl)) q)
  · exact key (s_last_ok hF q)
  · split at q
    · rename_i hk
      have key2 := key (s_cp0_ok (E := E) (F := F) q)
      unfold a_op
      simp only [a_stk, a_loc, a_br, a_hp, hk, if_true]
      exact key2
    · cases q
  · split at q
    · rename_i r
      cases q
      rfl
    · cases q
  · cases q
theorem s_one_ok (hF : s_Fok F) {fa : sFa} (hs : s_sat E F fa) {i : Instr} {len : Nat} {k : aK} {pc pc' : Nat} {ls ls' : sL} {st st' : List sV} {h h' : sH} (q : s_one fa i len k pc ls st h = some (pc', ls', st', h')) :
    a_op (some (6, E)) i len k pc (s_els E F ls) (s_est E F st) (s_eH E F h) = some (pc', s_els E F ls', s_est E F st', s_eH E F h', 0, 0) := by
  unfold s_one at q
  split at q
  · rename_i st2 h1
    cases q
    unfold a_op
    rw [s_stk_ok hF h1]
  · split at q
    · rename_i ls2 st2 h1
      cases q
      obtain ⟨e1, e2⟩ := s_loc_ok (k := k) hF h1 (E := E)
      unfold a_op
      rw [e1]; dsimp only; rw [e2]
    · split at q
      · rename_i pc2 st2 h1
        cases q
        obtain ⟨e1, e2, e3⟩ := s_jmp_ok (ls := s_els E F ls) hF hs h1
        unfold a_op
        rw [e1]; dsimp only; rw [e2]; dsimp only; rw [e3]
      · split at q
        · rename_i st2 h2 h1
          cases q
          exact s_hp_ok hF hs h1
        · cases q
/-- a long that is an int -/
def s_lng (p : sV) : Option sV := match p with
  | [.inl (.long n)] => if n.toInt32.toInt64 = n then some [.inl (.int n.toInt32)] else none
  | _ => if p.getLast? = some (.inr (.inr (.inl .i2l))) then (if s_ty p.dropLast = 1 then some p.dropLast else none) else none
theorem s_lng_ok (hF : s_Fok F) {p a : sV} (h : s_lng p = some a) : s_ty p ≠ 0 ∧ ∃ z, s_ev E F a = .int z ∧ s_ev E F p = .long z.toInt64 := by
  unfold s_lng at h
  split at h
  · rename_i n
    split at h
    · rename_i hn
      cases h
      exact ⟨by show (2 : Nat) ≠ 0; decide, n.toInt32, rfl, by rw [hn]; rfl⟩
    · cases h
  · split at h
    · rename_i hl
      split at h
      · rename_i ht
        cases h
        obtain ⟨q, hq⟩ := List.getLast?_eq_some_iff.mp hl
        have e1 : p.dropLast = q := by rw [hq]; exact List.dropLast_concat
        rw [e1] at ht ⊢
        obtain ⟨z, hz⟩ := s_ty1 (E := E) hF ht
        refine ⟨?_, z, hz, ?_⟩
        · rw [hq]
          have h0 : s_tr [] q = some [s_tn q] := by
            unfold s_ty s_tn at ht
            unfold s_tn
            split at ht
            · rename_i w hw; exact hw
            · exact absurd ht (by decide)
          have h1 : ∀ (l : sV) (ts ts' : List (Nat × Bool)) (t : sT), s_tr ts l = some ts' → s_tr ts (l ++ [t]) = s_tr ts' [t] := by
            intro l
            induction l with
            | nil => intro ts ts' t h; cases h; rfl
            | cons u l ih =>
              intro ts ts' t h
              rw [List.cons_append]
              have e2 : s_tr ts (u :: (l ++ [t])) = (match s_tt ts u with
                | some ts' => s_tr ts' (l ++ [t])
                | none => none) := rfl
              rw [e2]
              unfold s_tr at h
              split at h
              · rename_i ts1 hu
                rw [hu]
                exact ih _ _ _ h
              · cases h
          have h2 : s_tr [] (q ++ [.inr (.inr (.inl .i2l))]) = some [(2, false)] := by
            rw [h1 q [] _ _ h0]
            unfold s_ty at ht
            show (match s_tt [s_tn q] (.inr (.inr (.inl .i2l))) with
              | some ts' => s_tr ts' []
              | none => none) = _
            show some [(s_u .i2l (s_tn q).1, false)] = _
            rw [ht]; rfl
          unfold s_ty s_tn
          rw [h2]
          decide
        · rw [hq]
          have := s_uu_ev (E := E) (i := .i2l) hF (a := q) (by rw [ht]; decide) rfl
          unfold s_uu at this
          rw [this, hz]; rfl
      · cases h
    · cases h
/-- a long comparison of ints -/
def s_lcs (a : sV) : Nat → Option (sV × sV)
  | 0 => none
  | k + 1 => match s_lng (a.take k), s_lng ((a.drop k).dropLast) with
    | some p, some q => if a = s_bb .lcmp (a.take k) ((a.drop k).dropLast) then some (p, q) else s_lcs a k
    | _, _ => s_lcs a k
def s_lc (a : sV) : Option (sV × sV) := if a.getLast? = some (.inr (.inr (.inl .lcmp))) then s_lcs a a.length else none
theorem s_lcs_ok (hF : s_Fok F) {a p q : sV} : ∀ {n : Nat}, s_lcs a n = some (p, q) → ∃ x y, s_ev E F p = .int x ∧ s_ev E F q = .int y ∧ s_ev E F a = .int (lg_cmp x.toInt64 y.toInt64)
  | 0, h => by cases h
  | k + 1, h => by
    unfold s_lcs at h
    split at h
    · rename_i p' q' h1 h2
      split at h
      · rename_i ha
        cases h
        obtain ⟨t1, x, hx, hx'⟩ := s_lng_ok (E := E) hF h1
        obtain ⟨t2, y, hy, hy'⟩ := s_lng_ok (E := E) hF h2
        refine ⟨x, y, hx, hy, ?_⟩
        rw [ha, s_bb_ev hF t1 t2 rfl, hx', hy']; rfl
      · exact s_lcs_ok hF h
    · exact s_lcs_ok hF h
theorem s_lc_ok (hF : s_Fok F) {a p q : sV} (h : s_lc a = some (p, q)) : ∃ x y, s_ev E F p = .int x ∧ s_ev E F q = .int y ∧ s_ev E F a = .int (lg_cmp x.toInt64 y.toInt64) := by
  unfold s_lc at h
  split at h
  · exact s_lcs_ok hF h
  · cases h
theorem s_lgc (c : ClassFile.Cond) (x y : Int32) : a_cnd c (lg_cmp x.toInt64 y.toInt64) 0 = a_cnd c x y := by
  have hl : ∀ u v : Int32, u.toInt64 < v.toInt64 ↔ u < v := fun u v => by rw [Int64.lt_iff_toInt_lt, Int32.lt_iff_toInt_lt, Int32.toInt_toInt64, Int32.toInt_toInt64]
  have hle : ∀ u v : Int32, u.toInt64 ≤ v.toInt64 ↔ u ≤ v := fun u v => by rw [Int64.le_iff_toInt_le, Int32.le_iff_toInt_le, Int32.toInt_toInt64, Int32.toInt_toInt64]
  have he : ∀ u v : Int32, u.toInt64 = v.toInt64 ↔ u = v := fun u v => by rw [← Int64.toInt_inj, ← Int32.toInt_inj, Int32.toInt_toInt64, Int32.toInt_toInt64]
  cases c <;> simp only [a_cnd, lg_cmp_ge, lg_cmp_le, lg_cmp_gt, lg_cmp_lt, lg_cmp_eq, hl, hle, he]
/-- a test with two ways -/
def s_tst (i : Instr) (st : List sV) : Option (ClassFile.Cond × sV × sV × List sV) := match i with
  | .ifCond c _ => match st with
    | a :: r => if s_ty a = 1 then (match s_lc a with
      | some (p, q) => some (c, p, q, r)
      | none => some (c, a, [.inl (.int 0)], r)) else none
    | _ => none
  | .if_icmp c _ => match st with
    | b :: a :: r => if s_ty a = 1 ∧ s_ty b = 1 then some (c, a, b, r) else none
    | _ => none
  | _ => none
theorem s_tst_ok (hF : s_Fok F) {i : Instr} {len : Nat} {k : aK} {pc : Nat} {ls : aL} {st r : List sV} {h : aH} {c : ClassFile.Cond} {a b : sV} {X : aX} (q : s_tst i st = some (c, a, b, r)) :
    ∃ x y, s_ev E F a = .int x ∧ s_ev E F b = .int y ∧ a_op X i len k pc ls (s_est E F st) h = some (if a_cnd c x y then k.2.1 else pc + 3, ls, s_est E F r, h, 0, 0) := by
  unfold s_tst at q
  split at q
  · split at q
    · rename_i a r
      split at q
      · rename_i ht
        split at q
        · rename_i p' q' hl
          cases q
          obtain ⟨x, y, hx, hy, ha⟩ := s_lc_ok (E := E) hF hl
          refine ⟨x, y, hx, hy, ?_⟩
          rw [← s_lgc]
          simp only [s_est, List.map_cons, ha]
          rfl
        · cases q
          obtain ⟨x, hx⟩ := s_ty1 (E := E) hF ht
          refine ⟨x, 0, hx, rfl, ?_⟩
          simp only [s_est, List.map_cons, hx]
          rfl
      · cases q
    · cases q
  · split at q
    · rename_i b a r
      split at q
      · rename_i ht
        cases q
        obtain ⟨x, hx⟩ := s_ty1 (E := E) hF ht.1
        obtain ⟨y, hy⟩ := s_ty1 (E := E) hF ht.2
        refine ⟨x, y, hx, hy, ?_⟩
        simp only [s_est, List.map_cons, hx, hy]
        rfl
      · cases q
    · cases q
  · cases q
/-- a way that is open: neither of both has lost its last value -/
def s_live (a b : sV) (q : Nat × sFa) : Bool := decide ((s_itv q.2 a).1 ≤ (s_itv q.2 a).2) && decide ((s_itv q.2 b).1 ≤ (s_itv q.2 b).2)
theorem s_live_ok {a b : sV} {x y : Int32} (ha : s_ev E F a = .int x) (hb : s_ev E F b = .int y) {q : Nat × sFa} (hs : s_sat E F q.2) : s_live a b q = true := by
  have h1 := s_itv_ok hs ha
  have h2 := s_itv_ok hs hb
  unfold s_live
  simp only [Bool.and_eq_true, decide_eq_true_eq]
  omega
/-- the ways of a test, with what each tells -/
def s_ways (fa : sFa) (c : ClassFile.Cond) (a b : sV) (yes no : Nat) : List (Nat × sFa) := match s_nrm c a b with
  | (lt, a', b', neg) => match s_dec fa lt a' b' with
    | some z => [(if z != neg then yes else no, fa)]
    | none => [(if neg then no else yes, s_add fa lt true a' b'), (if neg then yes else no, s_add fa lt false a' b')].filter (s_live a' b')
theorem s_nrm_ok {c : ClassFile.Cond} {a b a' b' : sV} {lt neg : Bool} {x y : Int32} (ha : s_ev E F a = .int x) (hb : s_ev E F b = .int y) (h : s_nrm c a b = (lt, a', b', neg)) : ∃ x' y', s_ev E F a' = .int x' ∧ s_ev E F b' = .int y' ∧ a_cnd c x y = (s_cmp lt x' y' != neg) := by
  cases c <;> cases h <;> first
    | (refine ⟨_, _, ha, hb, ?_⟩; simp [a_cnd, s_cmp]; done)
    | (refine ⟨_, _, hb, ha, ?_⟩; simp [a_cnd, s_cmp]; done)
    | (refine ⟨_, _, ha, hb, ?_⟩; simp only [a_cnd, s_cmp, if_true, Bool.bne_true]; rw [← decide_not]; exact decide_eq_decide.mpr (Int32.not_lt).symm)
    | (refine ⟨_, _, hb, ha, ?_⟩; simp only [a_cnd, s_cmp, if_true, Bool.bne_true]; rw [← decide_not]; exact decide_eq_decide.mpr (Int32.not_lt).symm)
theorem s_ways_ok {fa : sFa} (hs : s_sat E F fa) {c : ClassFile.Cond} {a b : sV} {yes no : Nat} {x y : Int32} (ha : s_ev E F a = .int x) (hb : s_ev E F b = .int y) : ∃ q ∈ s_ways fa c a b yes no, q.1 = (if a_cnd c x y then yes else no) ∧ s_sat E F q.2 := by
  unfold s_ways
  obtain ⟨⟨lt, a', b', neg⟩, hn⟩ : ∃ z, s_nrm c a b = z := ⟨_, rfl⟩
  rw [hn]
  obtain ⟨x', y', ha', hb', hc⟩ := s_nrm_ok ha hb hn
  rw [hc]
  dsimp only
  split
  · rename_i z hz
    refine ⟨_, List.mem_singleton.mpr rfl, ?_, hs⟩
    rw [s_dec_ok hs ha' hb' hz]
  · cases hz : s_cmp lt x' y' with
    | true =>
      refine ⟨_, List.mem_filter.mpr ⟨List.mem_cons_self, s_live_ok ha' hb' (s_add_ok hs ha' hb' hz)⟩, ?_, s_add_ok hs ha' hb' hz⟩
      cases neg <;> rfl
    | false =>
      refine ⟨_, List.mem_filter.mpr ⟨List.mem_cons_of_mem _ List.mem_cons_self, s_live_ok ha' hb' (s_add_ok hs ha' hb' hz)⟩, ?_, s_add_ok hs ha' hb' hz⟩
      cases neg <;> rfl
end SST
end PT07h
section PT07i
/-! ===== calls, and runs ===== -/
def s_wd (st : List sV) : Nat := (st.map (fun e => if s_ty e = 2 then 2 else 1)).sum
def s_allty (l : List sV) : Bool := l.all (fun e => !decide (s_ty e = 0))
def s_entry : List sV → sL
  | [] => []
  | v :: vs => if s_ty v = 2 then some v :: none :: s_entry vs else some v :: s_entry vs
def s_ent (as : List sV) (n : Nat) : sL := s_entry as ++ List.replicate (n - (s_entry as).length) none
def s_inv (P : List aM) (i : Instr) (k : aK) (st : List sV) (h : sH) : Option (aM × List sV × List sV) := match P[k.2.1]? with
  | none => none
  | some M => match i with
    | .invokevirtual _ => if k.1 = 4 ∨ k.1 = 18 then match st.drop M.2.2.2.2.1 with
      | [.inl (.ref (o + 2))] :: r => match s_hget h o with
        | some (.inr (c, _)) => if c = k.2.2.1 ∧ s_allty st = true ∧ s_wd r ≤ 8 ∧ (s_entry ([.inl (.ref (o + 2))] :: (st.take M.2.2.2.2.1).reverse)).length ≤ M.2.2.1 then some (M, [.inl (.ref (o + 2))] :: (st.take M.2.2.2.2.1).reverse, r) else none
        | _ => none
      | _ => none
      else none
    | .invokestatic _ => if k.1 = 8 ∨ k.1 = 20 then
        (if M.2.2.2.2.1 ≤ st.length ∧ s_allty st = true ∧ s_wd (st.drop M.2.2.2.2.1) ≤ 8 ∧ (s_entry (st.take M.2.2.2.2.1).reverse).length ≤ M.2.2.1 then some (M, (st.take M.2.2.2.2.1).reverse, st.drop M.2.2.2.2.1) else none)
      else none
    | _ => none
def s_ret (fa : sFa) (i : Instr) (ret : Option FieldType) (st : List sV) : Option (Option sV) := match i with
  | .ireturn => match ret, st with
    | some .int, [a] => if s_ty a = 1 then some (some a) else none
    | some .boolean, [a] => if s_bit fa a then some (some a) else none
    | some .char, [[.inl (.int n)]] => if narrow .char (.int n) = .int n then some (some ([.inl (.int n)])) else none
    | _, _ => none
  | .lreturn => match ret, st with
    | some .long, [a] => if s_ty a = 2 then some (some a) else none
    | _, _ => none
  | .return_ => match ret, st with
    | none, [] => some none
    | _, _ => none
  | _ => none
section SRUN
variable {E : Nat → Int32} {F : sF}
theorem s_cat (hF : s_Fok F) {e : sV} (h : s_ty e ≠ 0) : (s_ev E F e).category = if s_ty e = 2 then 2 else 1 := by
  have hle := s_ty_le e
  by_cases h2 : s_ty e = 2
  · obtain ⟨n, q⟩ := s_ty2 (E := E) hF h2
    rw [q, if_pos h2]; rfl
  · rw [if_neg h2]
    by_cases h1 : s_ty e = 1
    · obtain ⟨n, q⟩ := s_ty1 (E := E) hF h1
      rw [q]; rfl
    · obtain ⟨n, q⟩ := s_ty3 (E := E) hF (e := e) (by omega)
      rw [q]; rfl
theorem s_allty_in {l : List sV} (h : s_allty l = true) : ∀ e ∈ l, s_ty e ≠ 0 := by
  intro e he
  have := List.all_eq_true.mp h e he
  simpa using this
theorem s_wd_ok (hF : s_Fok F) {l : List sV} (h : ∀ e ∈ l, s_ty e ≠ 0) : a_wd (s_est E F l) = s_wd l := by
  induction l with
  | nil => rfl
  | cons e t ih =>
    have h1 := ih (fun x hx => h x (List.mem_cons_of_mem _ hx))
    have h2 := s_cat (E := E) hF (h e List.mem_cons_self)
    unfold a_wd s_wd s_est at *
    simp only [List.map_cons, List.sum_cons]
    rw [h1, h2]
theorem s_entry_ok (hF : s_Fok F) {l : List sV} (h : ∀ e ∈ l, s_ty e ≠ 0) : a_entry (s_est E F l) = s_els E F (s_entry l) := by
  induction l with
  | nil => rfl
  | cons e t ih =>
    have h1 := ih (fun x hx => h x (List.mem_cons_of_mem _ hx))
    have h2 := s_cat (E := E) hF (h e List.mem_cons_self)
    show a_entry (s_ev E F e :: s_est E F t) = _
    unfold a_entry s_entry
    by_cases h3 : s_ty e = 2
    · rw [if_pos h3] at h2
      rw [if_pos h2, if_pos h3, h1]
      rfl
    · rw [if_neg h3] at h2
      rw [if_neg (by rw [h2]; decide), if_neg h3, h1]
      rfl
theorem s_ent_ok (hF : s_Fok F) {l : List sV} (h : ∀ e ∈ l, s_ty e ≠ 0) (n : Nat) : a_ent (s_est E F l) n = s_els E F (s_ent l n) := by
  unfold a_ent s_ent
  rw [s_entry_ok hF h, s_els_len]
  unfold s_els
  rw [List.map_append, List.map_replicate]
  rfl
theorem s_inv_ok (hF : s_Fok F) {P : List aM} {X : aX} {i : Instr} {len : Nat} {k : aK} {pc : Nat} {ls : aL} {st as rest : List sV} {h : sH} {M : aM} {ret : Option FieldType} (q : s_inv P i k st h = some (M, as, rest)) :
    a_op X i len k pc ls (s_est E F st) (s_eH E F h) = none ∧ a_ret i k ret (s_est E F st) = none ∧ a_inv P i k (s_est E F st) (s_eH E F h) = some (M, s_est E F as, s_est E F rest) ∧ (∀ e ∈ as, s_ty e ≠ 0) ∧ P[k.2.1]? = some M := by
  unfold s_inv at q
  split at q
  · cases q
  · rename_i M0 hM
    split at q
    · split at q
      · rename_i hk
        split at q
        · rename_i o r hdr
          split at q
          · rename_i ci fs hh
            split at q
            · rename_i hc
              obtain ⟨h1, h2, h3, h4⟩ := hc
              cases q
              have hall := s_allty_in h2
              have hin : ∀ e ∈ ([.inl (.ref (o + 2))] : sV) :: (st.take M.2.2.2.2.1).reverse, s_ty e ≠ 0 := by
                intro e he
                rcases List.mem_cons.mp he with rfl | he
                · show (3 : Nat) ≠ 0; decide
                · exact hall e (List.mem_of_mem_take (List.mem_reverse.mp he))
              have hinr : ∀ e ∈ rest, s_ty e ≠ 0 := fun e he => hall e (List.mem_of_mem_drop (by rw [hdr]; exact List.mem_cons_of_mem _ he))
              refine ⟨by cases X <;> rfl, rfl, ?_, hin, hM⟩
              have e1 : (s_est E F st).drop M.2.2.2.2.1 = .ref (o + 2) :: s_est E F rest := by
                unfold s_est
                rw [← List.map_drop, hdr]; rfl
              have e2 : (.ref (o + 2) :: ((s_est E F st).take M.2.2.2.2.1).reverse : List Value) = s_est E F ([.inl (.ref (o + 2))] :: (st.take M.2.2.2.2.1).reverse) := by
                unfold s_est
                rw [List.map_cons, List.map_reverse, List.map_take]; rfl
              have e3 : a_recv (s_eH E F h) (.ref (o + 2)) k.2.2.1 = true := by
                show (match (s_eH E F h)[o]? with
                  | some (.inr (c, _)) => decide (c = k.2.2.1)
                  | _ => false) = true
                rw [s_eH_get, hh]
                exact decide_eq_true h1
              unfold a_inv
              rw [hM]
              dsimp only
              rw [if_pos hk, e1]
              dsimp only
              rw [e2, if_pos ⟨e3, by rw [s_wd_ok hF hinr]; exact h3, by rw [s_entry_ok hF hin, s_els_len]; exact h4⟩]
            · cases q
          · cases q
        · cases q
      · cases q
    · split at q
      · rename_i hk
        split at q
        · rename_i hc
          obtain ⟨h1, h2, h3, h4⟩ := hc
          cases q
          have hall := s_allty_in h2
          have hin : ∀ e ∈ (st.take M.2.2.2.2.1).reverse, s_ty e ≠ 0 := fun e he => hall e (List.mem_of_mem_take (List.mem_reverse.mp he))
          have hinr : ∀ e ∈ st.drop M.2.2.2.2.1, s_ty e ≠ 0 := fun e he => hall e (List.mem_of_mem_drop he)
          have hk10 : ¬ k.1 = 10 := by omega
          refine ⟨?_, rfl, ?_, hin, hM⟩
          · cases X <;> simp [a_op, a_stk, a_loc, a_br, a_hp, a_scr, hk10]
          · unfold a_inv
            rw [hM]
            dsimp only
            have e1 : ((s_est E F st).take M.2.2.2.2.1).reverse = s_est E F (st.take M.2.2.2.2.1).reverse := by
              unfold s_est
              rw [List.map_reverse, List.map_take]
            have e2 : (s_est E F st).drop M.2.2.2.2.1 = s_est E F (st.drop M.2.2.2.2.1) := by
              unfold s_est
              rw [List.map_drop]
            rw [if_pos hk, e1, e2, if_pos ⟨by unfold s_est; rw [List.length_map]; exact h1, by rw [s_wd_ok hF hinr]; exact h3, by rw [s_entry_ok hF hin, s_els_len]; exact h4⟩]
        · cases q
      · cases q
    · cases q
theorem s_ret_ok (hF : s_Fok F) {fa : sFa} (hs : s_sat E F fa) {X : aX} {i : Instr} {len : Nat} {k : aK} {pc : Nat} {ls : aL} {st : List sV} {h : aH} {v : Option sV} {ret : Option FieldType} (q : s_ret fa i ret st = some v) :
    a_op X i len k pc ls (s_est E F st) h = none ∧ a_ret i k ret (s_est E F st) = some (v.map (s_ev E F)) ∧ ∀ n, v.map (s_ev E F) ≠ some (.retAddr n) := by
  unfold s_ret at q
  split at q
  · refine ⟨by cases X <;> rfl, ?_⟩
    split at q
    · rename_i a
      split at q
      · rename_i ht
        cases q
        obtain ⟨n, e⟩ := s_ty1 (E := E) hF ht
        simp only [s_est, List.map_cons, List.map_nil, Option.map_some, e]
        exact ⟨rfl, fun n q => by cases q⟩
      · cases q
    · rename_i a
      split at q
      · rename_i ht
        cases q
        simp only [s_est, List.map_cons, List.map_nil, Option.map_some]
        rcases s_bit_ok hF hs ht with e | e <;> rw [e] <;> exact ⟨by unfold a_ret; dsimp only; rw [if_pos (by decide)], fun n q => by cases q⟩
      · cases q
    · rename_i n
      split at q
      · rename_i ht
        cases q
        refine ⟨?_, fun n q => by cases q⟩
        show (if narrow .char (.int n) = .int n then some (some (Value.int n)) else none) = _
        rw [if_pos ht]; rfl
      · cases q
    · cases q
  · refine ⟨by cases X <;> rfl, ?_⟩
    split at q
    · rename_i a
      split at q
      · rename_i ht
        cases q
        obtain ⟨n, e⟩ := s_ty2 (E := E) hF ht
        simp only [s_est, List.map_cons, List.map_nil, Option.map_some, e]
        exact ⟨rfl, fun n q => by cases q⟩
      · cases q
    · cases q
  · refine ⟨by cases X <;> rfl, ?_⟩
    split at q
    · cases q
      exact ⟨rfl, fun n q => by cases q⟩
    · cases q
  · cases q
end SRUN
end PT07i
section PT07j
/-! ===== a run over all ways, and what it is worth ===== -/
/-- back to the frame that waits; the last answer must be 1, within the law's room -/
def s_back (d : Nat) (fs : List sFr) (v : Option sV) (h : sH) (fa : sFa) (C S : Nat) : Option (List sC) := match fs with
  | [] => if v = some [.inl (.int 1)] ∧ C ≤ 600002 ∧ S ≤ 7302232 then some [] else none
  | (M, pc, ls, rest, _) :: fs' => some [(d + 1, M, pc, ls, v.toList ++ rest, fs', h, fa, C, S)]
def s_thrown (d : Nat) (i : Instr) (k : aK) (st : List sV) (fs : List sFr) (h : sH) (fa : sFa) (C S : Nat) : Option (List sC) := match i, st, fs with
  | .new _, [], (_, _, _, _, kd) :: fs' => if k.1 = 17 ∧ kd = 18 then s_back (d + 1) fs' (some [.inl (.int 1)]) (s_happ h (.inr (a_exc, []))) fa (C + 1) (S + 6) else none
  | _, _, _ => none
def s_step (P : List aM) (sm : sFa → Nat → List sV → Option sV) (c : sC) : Option (List sC) := match c with
  | (d, M, pc, ls, st, fs, h, fa, C, S) => match M.2.2.2.2.2.lookup pc with
    | none => none
    | some (i, len, k) => match s_one fa i len k pc ls st h with
      | some (pc', ls', st', h') => some [(d, M, pc', ls', st', fs, h', fa, C, S)]
      | none => match s_tst i st with
        | some (cd, a, b, r) => some ((s_ways fa cd a b k.2.1 (pc + 3)).map (fun q => (d, M, q.1, ls, r, fs, h, q.2, C, S)))
        | none => match s_ret fa i M.2.2.2.1 st with
          | some v => s_back d fs v h fa C S
          | none => match s_inv P i k st h with
            | some (M', as, rest) => match d with
              | 0 => none
              | d' + 1 => match sm fa k.2.1 as with
                | some e => some [(d' + 1, M, pc + len, ls, e :: rest, fs, h, fa, C, S)]
                | none => some [(d', M', 0, s_ent as M'.2.2.1, [], (M, pc + len, ls, rest, k.1) :: fs, h, fa, C, S)]
            | none => s_thrown d i k st fs h fa C S
def s_run (P : List aM) (sm : sFa → Nat → List sV → Option sV) : Nat → sC → Bool
  | 0, _ => false
  | n + 1, c => match s_step P sm c with
    | none => false
    | some [] => true
    | some [c'] => s_run P sm n c'
    | some [c1, c2] => s_run P sm n c1 && s_run P sm n c2
    | some _ => false
section SSN
variable {E : Nat → Int32} {F : sF} {P : List aM} {sm : sFa → Nat → List sV → Option sV}
def s_fin (v : Option Value) (_ : aH) (C S : Nat) : Prop := v = some (.int 1) ∧ C ≤ 600002 ∧ S ≤ 7302232
def s_K (P : List aM) (E : Nat → Int32) (F : sF) : Nat → List sFr → Option Value → aH → Nat → Nat → Prop
  | _, [] => s_fin
  | d, (M, pc, ls, rest, kd) :: fs => fun v h C S => ((∃ n, v = some (.retAddr n)) ∧ kd = 18 ∧ s_K P E F (d + 1) fs (some (.int 1)) h C S) ∨
      ((∀ n, v ≠ some (.retAddr n)) ∧ aOK P (some (6, E)) (d + 1) M pc (s_els E F ls) (v.toList ++ s_est E F rest) h C S (s_K P E F (d + 1) fs))
def s_mean (P : List aM) (E : Nat → Int32) (F : sF) (c : sC) : Prop := match c with
  | (d, M, pc, ls, st, fs, h, fa, C, S) => s_sat E F fa → aOK P (some (6, E)) d M pc (s_els E F ls) (s_est E F st) (s_eH E F h) C S (s_K P E F d fs)
/-- what a summary of a method is worth -/
def s_smok (P : List aM) (E : Nat → Int32) (F : sF) (sm : sFa → Nat → List sV → Option sV) : Prop := ∀ fa j as e M, sm fa j as = some e → P[j]? = some M → s_sat E F fa → ∀ (d : Nat) (h : sH) (C S : Nat) (K : Option Value → aH → Nat → Nat → Prop),
  K (some (s_ev E F e)) (s_eH E F h) C S → aOK P (some (6, E)) d M 0 (a_ent (s_est E F as) M.2.2.1) [] (s_eH E F h) C S K
def s_smty (sm : sFa → Nat → List sV → Option sV) (F : sF) (E : Nat → Int32) : Prop := ∀ fa j as e, sm fa j as = some e → ∀ n, s_ev E F e ≠ .retAddr n
theorem s_back_ok {d : Nat} {fs : List sFr} {v : Option sV} {h : sH} {fa : sFa} {C S : Nat} {l : List sC} (hs : s_sat E F fa) (hv : ∀ n, v.map (s_ev E F) ≠ some (.retAddr n)) (q : s_back d fs v h fa C S = some l) (hl : ∀ c ∈ l, s_mean P E F c) : s_K P E F d fs (v.map (s_ev E F)) (s_eH E F h) C S := by
  unfold s_back at q
  split at q
  · split at q
    · rename_i hc
      obtain ⟨rfl, h2, h3⟩ := hc
      exact ⟨rfl, h2, h3⟩
    · cases q
  · rename_i M pc ls rest kd fs'
    cases q
    refine Or.inr ⟨hv, ?_⟩
    have := hl _ List.mem_cons_self hs
    have e : (v.map (s_ev E F)).toList ++ s_est E F rest = s_est E F (v.toList ++ rest) := by
      cases v <;> simp [s_est]
    rw [e]
    exact this
theorem s_step_ok (hF : s_Fok F) (hsm : s_smok P E F sm) (hst : s_smty sm F E) {c : sC} {l : List sC} (q : s_step P sm c = some l) (hl : ∀ c ∈ l, s_mean P E F c) : s_mean P E F c := by
  obtain ⟨d, M, pc, ls, st, fs, h, fa, C, S⟩ := c
  intro hs
  unfold s_step at q
  dsimp only at q
  split at q
  · cases q
  · rename_i i len k hlk
    split at q
    · rename_i pc' ls' st' h' h1
      cases q
      exact aOK_op hlk (s_one_ok hF hs h1) (hl _ List.mem_cons_self hs)
    · split at q
      · rename_i cd a b r h1
        cases q
        obtain ⟨x, y, hx, hy, hop⟩ := s_tst_ok (E := E) (X := some (6, E)) (len := len) (k := k) (pc := pc) (ls := s_els E F ls) (h := s_eH E F h) hF h1
        obtain ⟨w, hw, e1, e2⟩ := s_ways_ok (c := cd) (yes := k.2.1) (no := pc + 3) hs hx hy
        refine aOK_op hlk hop ?_
        rw [← e1]
        exact hl _ (List.mem_map.mpr ⟨w, hw, rfl⟩) e2
      · split at q
        · rename_i v h1
          obtain ⟨e1, e2, e3⟩ := s_ret_ok (X := some (6, E)) (len := len) (k := k) (pc := pc) (ls := s_els E F ls) (h := s_eH E F h) hF hs h1
          exact aOK_ret hlk e1 e2 e3 (s_back_ok hs e3 q hl)
        · split at q
          · rename_i M' as rest h1
            obtain ⟨e1, e2, e3, e4, e5⟩ := s_inv_ok (E := E) (X := some (6, E)) (len := len) (pc := pc) (ls := s_els E F ls) (ret := M.2.2.2.1) hF h1
            split at q
            · cases q
            · rename_i d'
              split at q
              · rename_i e he
                cases q
                refine aOK_call hlk e1 e2 e3 (hsm _ _ _ _ _ he e5 hs _ _ _ _ _ (Or.inr ⟨fun n w => hst _ _ _ _ he n (Option.some.inj w), ?_⟩))
                exact hl _ List.mem_cons_self hs
              · cases q
                refine aOK_call hlk e1 e2 e3 ?_
                have := hl _ List.mem_cons_self hs
                rw [s_ent_ok hF e4]
                exact this
          · unfold s_thrown at q
            split at q
            · rename_i idx M2 pc2 ls2 rest2 kd fs'
              split at q
              · rename_i hc
                refine aOK_thr (n := 0) hlk (by simp [a_op, a_stk, a_loc, a_br, a_hp, a_scr, hc.1]) (by show (if k.1 = 17 then _ else _) = _; rw [if_pos hc.1]) ?_
                refine Or.inl ⟨⟨0, rfl⟩, hc.2, ?_⟩
                have := s_back_ok (v := some [.inl (.int 1)]) hs (fun n w => by cases w) q hl
                have e : s_eH E F (s_happ h (.inr (a_exc, []))) = s_eH E F h ++ [.inr (a_exc, [])] := by
                  unfold s_eH s_happ
                  dsimp only
                  rw [List.range_succ, List.map_append, List.map_singleton, s_hg_set, if_pos rfl]
                  congr 1
                  refine List.map_congr_left (fun i hi => ?_)
                  rw [s_hg_set, if_neg (Nat.ne_of_lt (List.mem_range.mp hi))]
                rw [e] at this
                exact this
              · cases q
            · cases q
theorem s_run_ok (hF : s_Fok F) (hsm : s_smok P E F sm) (hst : s_smty sm F E) : ∀ (n : Nat) (c : sC), s_run P sm n c = true → s_mean P E F c
  | 0, _, h => by cases h
  | n + 1, c, h => by
    unfold s_run at h
    split at h
    · cases h
    · rename_i e
      exact s_step_ok hF hsm hst e (fun c hc => absurd hc List.not_mem_nil)
    · rename_i c' e
      refine s_step_ok hF hsm hst e (fun c hc => ?_)
      rw [List.mem_singleton.mp hc]
      exact s_run_ok hF hsm hst n c' h
    · rename_i c1 c2 e
      simp only [Bool.and_eq_true] at h
      refine s_step_ok hF hsm hst e (fun c hc => ?_)
      rcases List.mem_cons.mp hc with rfl | hc
      · exact s_run_ok hF hsm hst n _ h.1
      · rw [List.mem_singleton.mp hc]
        exact s_run_ok hF hsm hst n _ h.2
    · cases h
end SSN
end PT07j
section PT07k
/-! ===== runs with constants put in, with forks over small ranges, and with cuts ===== -/
def s_smp (fa : sFa) (e : sV) : sV := if s_cst e then e else if s_ty e = 1 ∧ (s_itv fa e).1 = (s_itv fa e).2 then [.inl (.int (Int32.ofInt (s_itv fa e).1))] else e
def s_smps (fa : sFa) (st : List sV) : List sV := match st with
  | a :: b :: r => s_smp fa a :: s_smp fa b :: r
  | [a] => [s_smp fa a]
  | [] => []
def s_two (c : sC) (e : sV) (m : Int) : List sC := match c with
  | (d, M, pc, ls, st, fs, h, fa, C, S) => [(d, M, pc, ls, st, fs, h, s_add fa true true e [.inl (.int (Int32.ofInt m))], C, S), (d, M, pc, ls, st, fs, h, s_add fa true false e [.inl (.int (Int32.ofInt m))], C, S)]
/-- the place where a range is cut -/
def s_cut (fa : sFa) (i : Instr) (e : sV) : Option Int := if s_ty e = 1 ∧ (s_itv fa e).1 < (s_itv fa e).2 then (match i with
  | .tableswitch _ lo hi _ => some (if (s_itv fa e).1 < lo then lo else if hi < (s_itv fa e).2 then hi + 1 else ((s_itv fa e).1 + (s_itv fa e).2 + 1) / 2)
  | .aaload => some (((s_itv fa e).1 + (s_itv fa e).2 + 1) / 2)
  | .iaload => some (((s_itv fa e).1 + (s_itv fa e).2 + 1) / 2)
  | _ => none) else none
def s_fork (c : sC) : Option (List sC) := match c with
  | (_, M, pc, _, st, _, _, fa, _, _) => match M.2.2.2.2.2.lookup pc, st with
    | some (i, _, _), e :: _ => match s_cut fa i e with
      | some m => some (s_two c e m)
      | none => none
    | _, _ => none
def s_smpc (c : sC) : sC := match c with
  | (d, M, pc, ls, st, fs, h, fa, C, S) => (d, M, pc, ls, s_smps fa st, fs, h, fa, C, S)
def s_stepX (P : List aM) (sm : sFa → Nat → List sV → Option sV) (ct : sC → Option (List sC)) (c : sC) : Option (List sC) := match ct c with
  | some l => some l
  | none => match s_step P sm (s_smpc c) with
    | some l => some l
    | none => s_fork (s_smpc c)
/-- the same, with parts worked out before it goes on -/
def s_fN (n : Nat) (k : Nat → Bool) : Bool := match n with
  | 0 => k 0
  | m + 1 => k (m + 1)
theorem s_fN_ok (n : Nat) (k : Nat → Bool) : s_fN n k = k n := by cases n <;> rfl
def s_fE (c : sE) (k : sE → Bool) : Bool := match c with
  | .inl (t, n, d, ov) => k (.inl (t, n, d, ov))
  | .inr (ci, fs) => k (.inr (ci, fs))
theorem s_fE_ok (c : sE) (k : sE → Bool) : s_fE c k = k c := by
  unfold s_fE
  split <;> rfl
def s_fH (ov : List (Nat × sE)) (k : List (Nat × sE) → Bool) : Bool := match ov with
  | [] => k []
  | (o, c) :: r => s_fE c (fun c' => s_fH r (fun r' => k ((o, c') :: r')))
theorem s_fH_ok : ∀ (ov : List (Nat × sE)) (k : List (Nat × sE) → Bool), s_fH ov k = k ov
  | [], _ => rfl
  | (o, c) :: r, k => by
    unfold s_fH
    rw [s_fE_ok, s_fH_ok r]
def s_fC (c : sC) (k : sC → Bool) : Bool := match c with
  | (d, M, pc, ls, st, fs, (n, ov), fa, C, S) => s_fN pc (fun pc => s_fH ov (fun ov => k (d, M, pc, ls, st, fs, (n, ov), fa, C, S)))
theorem s_fC_ok (c : sC) (k : sC → Bool) : s_fC c k = k c := by
  obtain ⟨d, M, pc, ls, st, fs, ⟨n, ov⟩, fa, C, S⟩ := c
  unfold s_fC
  dsimp only
  rw [s_fN_ok, s_fH_ok]
def s_runX (P : List aM) (sm : sFa → Nat → List sV → Option sV) (ct : sC → Option (List sC)) : Nat → sC → Bool
  | 0, _ => false
  | n + 1, c => match s_stepX P sm ct c with
    | none => false
    | some [] => true
    | some [c'] => s_fC c' (s_runX P sm ct n)
    | some [c1, c2] => s_fC c1 (s_runX P sm ct n) && s_fC c2 (s_runX P sm ct n)
    | some _ => false
section SRX
variable {E : Nat → Int32} {F : sF} {P : List aM} {sm : sFa → Nat → List sV → Option sV} {ct : sC → Option (List sC)}
theorem s_smp_ok (hF : s_Fok F) {fa : sFa} (hs : s_sat E F fa) (e : sV) : s_ev E F (s_smp fa e) = s_ev E F e := by
  unfold s_smp
  split
  · rfl
  · split
    · rename_i h
      obtain ⟨n, hn⟩ := s_ty1 (E := E) hF h.1
      have hi := s_itv_ok hs hn
      have e1 : (s_itv fa e).1 = n.toInt := by omega
      rw [e1, hn]
      show Value.int (Int32.ofInt n.toInt) = _
      rw [Int32.ofInt_toInt]
    · rfl
theorem s_smps_ok (hF : s_Fok F) {fa : sFa} (hs : s_sat E F fa) (st : List sV) : s_est E F (s_smps fa st) = s_est E F st := by
  unfold s_smps
  split
  · simp only [s_est, List.map_cons, s_smp_ok hF hs]
  · simp only [s_est, List.map_cons, s_smp_ok hF hs]
  · rfl
theorem s_smpc_ok (hF : s_Fok F) {c : sC} (h : s_mean P E F (s_smpc c)) : s_mean P E F c := by
  obtain ⟨d, M, pc, ls, st, fs, h0, fa, C, S⟩ := c
  intro hs
  have := h hs
  rw [s_smps_ok hF hs] at this
  exact this
theorem s_fork_ok (hF : s_Fok F) {c : sC} {l : List sC} (q : s_fork c = some l) (hl : ∀ c ∈ l, s_mean P E F c) : s_mean P E F c := by
  obtain ⟨d, M, pc, ls, st, fs, h, fa, C, S⟩ := c
  intro hs
  unfold s_fork at q
  dsimp only at q
  split at q
  · rename_i i len k e r hlk
    split at q
    · rename_i m hm
      cases q
      have ht : s_ty e = 1 := by
        unfold s_cut at hm
        split at hm
        · rename_i hc; exact hc.1
        · cases hm
      obtain ⟨n, hn⟩ := s_ty1 (E := E) hF ht
      cases hz : s_cmp true n (Int32.ofInt m) with
      | true => exact hl _ List.mem_cons_self (s_add_ok hs hn rfl hz)
      | false => exact hl _ (List.mem_cons_of_mem _ List.mem_cons_self) (s_add_ok hs hn rfl hz)
    · cases q
  · cases q
/-- what a cut is worth -/
def s_ctok (P : List aM) (E : Nat → Int32) (F : sF) (ct : sC → Option (List sC)) : Prop := ∀ c l, ct c = some l → (∀ c ∈ l, s_mean P E F c) → s_mean P E F c
theorem s_stepX_ok (hF : s_Fok F) (hsm : s_smok P E F sm) (hst : s_smty sm F E) (hct : s_ctok P E F ct) {c : sC} {l : List sC} (q : s_stepX P sm ct c = some l) (hl : ∀ c ∈ l, s_mean P E F c) : s_mean P E F c := by
  unfold s_stepX at q
  split at q
  · rename_i l' h
    cases q
    exact hct _ _ h hl
  · split at q
    · rename_i l' h
      cases q
      exact s_smpc_ok hF (s_step_ok hF hsm hst h hl)
    · exact s_smpc_ok hF (s_fork_ok hF q hl)
theorem s_runX_ok (hF : s_Fok F) (hsm : s_smok P E F sm) (hst : s_smty sm F E) (hct : s_ctok P E F ct) : ∀ (n : Nat) (c : sC), s_runX P sm ct n c = true → s_mean P E F c
  | 0, _, h => by cases h
  | n + 1, c, h => by
    unfold s_runX at h
    split at h
    · cases h
    · rename_i e
      exact s_stepX_ok hF hsm hst hct e (fun c hc => absurd hc List.not_mem_nil)
    · rename_i c' e
      refine s_stepX_ok hF hsm hst hct e (fun c hc => ?_)
      rw [List.mem_singleton.mp hc]
      rw [s_fC_ok] at h
      exact s_runX_ok hF hsm hst hct n c' h
    · rename_i c1 c2 e
      simp only [Bool.and_eq_true, s_fC_ok] at h
      refine s_stepX_ok hF hsm hst hct e (fun c hc => ?_)
      rcases List.mem_cons.mp hc with rfl | hc
      · exact s_runX_ok hF hsm hst hct n _ h.1
      · rw [List.mem_singleton.mp hc]
        exact s_runX_ok hF hsm hst hct n _ h.2
    · cases h
end SRX
end PT07k
section PT07l
/-! ===== loops that are told, not run (laid by wip/tools/loops.py) ===== -/
def s_gcd : Nat → Int64 → Int64 → Int64
  | 0, x, _ => x
  | n + 1, x, y => if y = 0 then x else s_gcd n y (x - x / y * y)
theorem s_gcd_ne : ∀ (n : Nat) (x y : Int64), x ≠ 0 → s_gcd n x y ≠ 0
  | 0, _, _, h => h
  | n + 1, x, y, h => by
    unfold s_gcd
    split
    · exact h
    · rename_i hy; exact s_gcd_ne n y _ hy
def s_mny (a b : Int32) : Nat → Int64 → Int32 → Int32
  | 0, _, _ => (Int8.ofInt (-2)).toInt32
  | n + 1, l, k => if l ≤ Int64.ofInt 500000000 then k else s_mny a b n (l * (b - a).toInt64 / b.toInt64) (k + Int32.ofInt 1)
section SLOOP
variable {P : List aM} {X : aX} {d : Nat} {M : aM} {h : aH} {C S : Nat} {K : Option Value → aH → Nat → Nat → Prop}
theorem aOK_op0 {pc pc' len : Nat} {i : Instr} {k : aK} {ls ls' : aL} {st st' : List Value} (hl : M.2.2.2.2.2.lookup pc = some (i, len, k)) (ho : a_op X i len k pc ls st h = some (pc', ls', st', h, 0, 0)) (hk : aOK P X d M pc' ls' st' h C S K) : aOK P X d M pc ls st h C S K := aOK_op hl ho hk
theorem s_lrem {ls : aL} {pc len : Nat} {k : aK} {x y : Int64} {r : List Value} (hy : y ≠ 0) : a_op X .lrem len k pc ls (.long y :: .long x :: r) h = some (pc + len, ls, .long (x - x / y * y) :: r, h, 0, 0) := by
  simp only [a_op, a_stk, a_lln, if_neg hy]
theorem s_ldiv {ls : aL} {pc len : Nat} {k : aK} {x y : Int64} {r : List Value} (hy : y ≠ 0) : a_op X .ldiv len k pc ls (.long y :: .long x :: r) h = some (pc + len, ls, .long (x / y) :: r, h, 0, 0) := by
  simp only [a_op, a_stk, a_lln, if_neg hy]
theorem s_lreturn {ls : aL} {pc len : Nat} {k : aK} {st : List Value} : a_op X .lreturn len k pc ls st h = none := by cases X <;> rfl
theorem s_ireturn {ls : aL} {pc len : Nat} {k : aK} {st : List Value} : a_op X .ireturn len k pc ls st h = none := by cases X <;> rfl
theorem s_i64rem (x y : Int64) : (x - (x / y) * y).toInt = x.toInt.tmod y.toInt := by
  have a := (x % y).toInt_lt
  have b := (x % y).le_toInt
  rw [Int64.toInt_mod] at a b
  rw [Int64.toInt_sub, Int64.toInt_mul, Int64.toInt_div, Int.bmod_mul_bmod, Int.sub_bmod_bmod, Int.mul_comm, ← Int.tmod_def]
  exact Int.bmod_eq_of_le (Int.le_trans (by decide) b) (Int.lt_of_lt_of_le a (by decide))
theorem cd_0 : a_m41.2.2.2.2.2.lookup 0 = some (.lload_n 0, 1, (0, 0, 0, 0)) := rfl
theorem cd_1 : a_m41.2.2.2.2.2.lookup 1 = some (.lstore 4, 2, (0, 0, 0, 0)) := rfl
theorem cd_3 : a_m41.2.2.2.2.2.lookup 3 = some (.lload_n 2, 1, (0, 0, 0, 0)) := rfl
theorem cd_4 : a_m41.2.2.2.2.2.lookup 4 = some (.lstore 6, 2, (0, 0, 0, 0)) := rfl
theorem cd_6 : a_m41.2.2.2.2.2.lookup 6 = some (.iconst 0, 1, (0, 0, 0, 0)) := rfl
theorem cd_7 : a_m41.2.2.2.2.2.lookup 7 = some (.istore 8, 2, (0, 0, 0, 0)) := rfl
theorem cd_9 : a_m41.2.2.2.2.2.lookup 9 = some (.iload 8, 2, (0, 0, 0, 0)) := rfl
theorem cd_11 : a_m41.2.2.2.2.2.lookup 11 = some (.sipush 200, 3, (0, 0, 0, 0)) := rfl
theorem cd_14 : a_m41.2.2.2.2.2.lookup 14 = some (.if_icmp .ge 31, 3, (0, 45, 0, 0)) := rfl
theorem cd_17 : a_m41.2.2.2.2.2.lookup 17 = some (.lload 6, 2, (0, 0, 0, 0)) := rfl
theorem cd_19 : a_m41.2.2.2.2.2.lookup 19 = some (.lconst 0, 1, (0, 0, 0, 0)) := rfl
theorem cd_20 : a_m41.2.2.2.2.2.lookup 20 = some (.lcmp, 1, (0, 0, 0, 0)) := rfl
theorem cd_21 : a_m41.2.2.2.2.2.lookup 21 = some (.ifCond .eq 24, 3, (0, 45, 0, 0)) := rfl
theorem cd_24 : a_m41.2.2.2.2.2.lookup 24 = some (.lload 4, 2, (0, 0, 0, 0)) := rfl
theorem cd_26 : a_m41.2.2.2.2.2.lookup 26 = some (.lload 6, 2, (0, 0, 0, 0)) := rfl
theorem cd_28 : a_m41.2.2.2.2.2.lookup 28 = some (.lrem, 1, (0, 0, 0, 0)) := rfl
theorem cd_29 : a_m41.2.2.2.2.2.lookup 29 = some (.lstore 9, 2, (0, 0, 0, 0)) := rfl
theorem cd_31 : a_m41.2.2.2.2.2.lookup 31 = some (.lload 6, 2, (0, 0, 0, 0)) := rfl
theorem cd_33 : a_m41.2.2.2.2.2.lookup 33 = some (.lstore 4, 2, (0, 0, 0, 0)) := rfl
theorem cd_35 : a_m41.2.2.2.2.2.lookup 35 = some (.lload 9, 2, (0, 0, 0, 0)) := rfl
theorem cd_37 : a_m41.2.2.2.2.2.lookup 37 = some (.lstore 6, 2, (0, 0, 0, 0)) := rfl
theorem cd_39 : a_m41.2.2.2.2.2.lookup 39 = some (.iinc 8 1, 3, (0, 0, 0, 0)) := rfl
theorem cd_42 : a_m41.2.2.2.2.2.lookup 42 = some (.goto (-33), 3, (0, 9, 0, 0)) := rfl
theorem cd_45 : a_m41.2.2.2.2.2.lookup 45 = some (.lload 4, 2, (0, 0, 0, 0)) := rfl
theorem cd_47 : a_m41.2.2.2.2.2.lookup 47 = some (.lreturn, 1, (0, 0, 0, 0)) := rfl
theorem s_cd_loop (a b : Int64) : ∀ (n : Nat) (x y : Int64) (i : Int32) (o : Option Value), i.toInt = 200 - (n : Int) → n ≤ 200 → K (some (.long (s_gcd n x y))) h C S → aOK P X d a_m41 9 [some (.long (a)), none, some (.long (b)), none, some (.long (x)), none, some (.long (y)), none, some (.int (i)), o, none] [] h C S K
  | 0, x, y, i, o, hi, hn, hk => by
    have hge : a_cnd .ge i ((Int16.ofInt 200).toInt32) = true := decide_eq_true (Int32.le_iff_toInt_le.mpr (by rw [hi]; decide))
    refine aOK_op0 (pc' := 11) (ls' := [some (.long (a)), none, some (.long (b)), none, some (.long (x)), none, some (.long (y)), none, some (.int (i)), o, none]) (st' := [.int (i)]) cd_9 rfl ?_
    refine aOK_op0 (pc' := 14) (ls' := [some (.long (a)), none, some (.long (b)), none, some (.long (x)), none, some (.long (y)), none, some (.int (i)), o, none]) (st' := [.int ((Int16.ofInt 200).toInt32), .int (i)]) cd_11 rfl ?_
    refine aOK_op0 (pc' := if a_cnd .ge (i) ((Int16.ofInt 200).toInt32) then 45 else 17) (ls' := [some (.long (a)), none, some (.long (b)), none, some (.long (x)), none, some (.long (y)), none, some (.int (i)), o, none]) (st' := []) cd_14 rfl ?_
    rw [if_pos hge]
    refine aOK_op0 (pc' := 47) (ls' := [some (.long (a)), none, some (.long (b)), none, some (.long (x)), none, some (.long (y)), none, some (.int (i)), o, none]) (st' := [.long (x)]) cd_45 rfl ?_
    exact aOK_ret cd_47 s_lreturn rfl (fun n e => by cases e) (hk)
  | n + 1, x, y, i, o, hi, hn, hk => by
    have hge : ¬ a_cnd .ge i ((Int16.ofInt 200).toInt32) = true := fun q => by
      have q2 := Int32.le_iff_toInt_le.mp (of_decide_eq_true q)
      have q3 : ((Int16.ofInt 200).toInt32).toInt = 200 := by decide
      rw [q3, hi] at q2
      omega
    by_cases hy : y = 0
    · have hy0 : a_cnd .eq (lg_cmp y (Int64.ofNat 0)) 0 = true := decide_eq_true ((lg_cmp_eq _ _).mpr hy)
      rw [s_gcd, if_pos hy] at hk
      refine aOK_op0 (pc' := 11) (ls' := [some (.long (a)), none, some (.long (b)), none, some (.long (x)), none, some (.long (y)), none, some (.int (i)), o, none]) (st' := [.int (i)]) cd_9 rfl ?_
      refine aOK_op0 (pc' := 14) (ls' := [some (.long (a)), none, some (.long (b)), none, some (.long (x)), none, some (.long (y)), none, some (.int (i)), o, none]) (st' := [.int ((Int16.ofInt 200).toInt32), .int (i)]) cd_11 rfl ?_
      refine aOK_op0 (pc' := if a_cnd .ge (i) ((Int16.ofInt 200).toInt32) then 45 else 17) (ls' := [some (.long (a)), none, some (.long (b)), none, some (.long (x)), none, some (.long (y)), none, some (.int (i)), o, none]) (st' := []) cd_14 rfl ?_
      rw [if_neg hge]
      refine aOK_op0 (pc' := 19) (ls' := [some (.long (a)), none, some (.long (b)), none, some (.long (x)), none, some (.long (y)), none, some (.int (i)), o, none]) (st' := [.long (y)]) cd_17 rfl ?_
      refine aOK_op0 (pc' := 20) (ls' := [some (.long (a)), none, some (.long (b)), none, some (.long (x)), none, some (.long (y)), none, some (.int (i)), o, none]) (st' := [.long (Int64.ofNat 0), .long (y)]) cd_19 rfl ?_
      refine aOK_op0 (pc' := 21) (ls' := [some (.long (a)), none, some (.long (b)), none, some (.long (x)), none, some (.long (y)), none, some (.int (i)), o, none]) (st' := [.int (lg_cmp (y) (Int64.ofNat 0))]) cd_20 rfl ?_
      refine aOK_op0 (pc' := if a_cnd .eq (lg_cmp (y) (Int64.ofNat 0)) (0) then 45 else 24) (ls' := [some (.long (a)), none, some (.long (b)), none, some (.long (x)), none, some (.long (y)), none, some (.int (i)), o, none]) (st' := []) cd_21 rfl ?_
      rw [if_pos hy0]
      refine aOK_op0 (pc' := 47) (ls' := [some (.long (a)), none, some (.long (b)), none, some (.long (x)), none, some (.long (y)), none, some (.int (i)), o, none]) (st' := [.long (x)]) cd_45 rfl ?_
      exact aOK_ret cd_47 s_lreturn rfl (fun n e => by cases e) (hk)
    · have hy0 : ¬ a_cnd .eq (lg_cmp y (Int64.ofNat 0)) 0 = true := fun q => hy ((lg_cmp_eq _ _).mp (of_decide_eq_true q))
      rw [s_gcd, if_neg hy] at hk
      refine aOK_op0 (pc' := 11) (ls' := [some (.long (a)), none, some (.long (b)), none, some (.long (x)), none, some (.long (y)), none, some (.int (i)), o, none]) (st' := [.int (i)]) cd_9 rfl ?_
      refine aOK_op0 (pc' := 14) (ls' := [some (.long (a)), none, some (.long (b)), none, some (.long (x)), none, some (.long (y)), none, some (.int (i)), o, none]) (st' := [.int ((Int16.ofInt 200).toInt32), .int (i)]) cd_11 rfl ?_
      refine aOK_op0 (pc' := if a_cnd .ge (i) ((Int16.ofInt 200).toInt32) then 45 else 17) (ls' := [some (.long (a)), none, some (.long (b)), none, some (.long (x)), none, some (.long (y)), none, some (.int (i)), o, none]) (st' := []) cd_14 rfl ?_
      rw [if_neg hge]
      refine aOK_op0 (pc' := 19) (ls' := [some (.long (a)), none, some (.long (b)), none, some (.long (x)), none, some (.long (y)), none, some (.int (i)), o, none]) (st' := [.long (y)]) cd_17 rfl ?_
      refine aOK_op0 (pc' := 20) (ls' := [some (.long (a)), none, some (.long (b)), none, some (.long (x)), none, some (.long (y)), none, some (.int (i)), o, none]) (st' := [.long (Int64.ofNat 0), .long (y)]) cd_19 rfl ?_
      refine aOK_op0 (pc' := 21) (ls' := [some (.long (a)), none, some (.long (b)), none, some (.long (x)), none, some (.long (y)), none, some (.int (i)), o, none]) (st' := [.int (lg_cmp (y) (Int64.ofNat 0))]) cd_20 rfl ?_
      refine aOK_op0 (pc' := if a_cnd .eq (lg_cmp (y) (Int64.ofNat 0)) (0) then 45 else 24) (ls' := [some (.long (a)), none, some (.long (b)), none, some (.long (x)), none, some (.long (y)), none, some (.int (i)), o, none]) (st' := []) cd_21 rfl ?_
      rw [if_neg hy0]
      refine aOK_op0 (pc' := 26) (ls' := [some (.long (a)), none, some (.long (b)), none, some (.long (x)), none, some (.long (y)), none, some (.int (i)), o, none]) (st' := [.long (x)]) cd_24 rfl ?_
      refine aOK_op0 (pc' := 28) (ls' := [some (.long (a)), none, some (.long (b)), none, some (.long (x)), none, some (.long (y)), none, some (.int (i)), o, none]) (st' := [.long (y), .long (x)]) cd_26 rfl ?_
      refine aOK_op0 (pc' := 29) (ls' := [some (.long (a)), none, some (.long (b)), none, some (.long (x)), none, some (.long (y)), none, some (.int (i)), o, none]) (st' := [.long ((x) - (x) / (y) * (y))]) cd_28 (s_lrem hy) ?_
      refine aOK_op0 (pc' := 31) (ls' := [some (.long (a)), none, some (.long (b)), none, some (.long (x)), none, some (.long (y)), none, some (.int (i)), some (.long ((x) - (x) / (y) * (y))), none]) (st' := []) cd_29 rfl ?_
      refine aOK_op0 (pc' := 33) (ls' := [some (.long (a)), none, some (.long (b)), none, some (.long (x)), none, some (.long (y)), none, some (.int (i)), some (.long ((x) - (x) / (y) * (y))), none]) (st' := [.long (y)]) cd_31 rfl ?_
      refine aOK_op0 (pc' := 35) (ls' := [some (.long (a)), none, some (.long (b)), none, some (.long (y)), none, some (.long (y)), none, some (.int (i)), some (.long ((x) - (x) / (y) * (y))), none]) (st' := []) cd_33 rfl ?_
      refine aOK_op0 (pc' := 37) (ls' := [some (.long (a)), none, some (.long (b)), none, some (.long (y)), none, some (.long (y)), none, some (.int (i)), some (.long ((x) - (x) / (y) * (y))), none]) (st' := [.long ((x) - (x) / (y) * (y))]) cd_35 rfl ?_
      refine aOK_op0 (pc' := 39) (ls' := [some (.long (a)), none, some (.long (b)), none, some (.long (y)), none, some (.long ((x) - (x) / (y) * (y))), none, some (.int (i)), some (.long ((x) - (x) / (y) * (y))), none]) (st' := []) cd_37 rfl ?_
      refine aOK_op0 (pc' := 42) (ls' := [some (.long (a)), none, some (.long (b)), none, some (.long (y)), none, some (.long ((x) - (x) / (y) * (y))), none, some (.int ((i) + Int32.ofInt 1)), some (.long ((x) - (x) / (y) * (y))), none]) (st' := []) cd_39 rfl ?_
      refine aOK_op0 (pc' := 9) (ls' := [some (.long (a)), none, some (.long (b)), none, some (.long (y)), none, some (.long ((x) - (x) / (y) * (y))), none, some (.int ((i) + Int32.ofInt 1)), some (.long ((x) - (x) / (y) * (y))), none]) (st' := []) cd_42 rfl ?_
      exact s_cd_loop a b n y _ _ _ (by
        rw [Int32.toInt_add, hi]
        have e1 : (Int32.ofInt 1).toInt = 1 := by decide
        rw [e1, Int.bmod_eq_of_le (by omega) (by omega)]
        omega) (by omega) hk
theorem s_cd_ok (a b : Int64) (hk : K (some (.long (s_gcd 200 a b))) h C S) : aOK P X d a_m41 0 [some (.long (a)), none, some (.long (b)), none, none, none, none, none, none, none, none] [] h C S K := by
  refine aOK_op0 (pc' := 1) (ls' := [some (.long (a)), none, some (.long (b)), none, none, none, none, none, none, none, none]) (st' := [.long (a)]) cd_0 rfl ?_
  refine aOK_op0 (pc' := 3) (ls' := [some (.long (a)), none, some (.long (b)), none, some (.long (a)), none, none, none, none, none, none]) (st' := []) cd_1 rfl ?_
  refine aOK_op0 (pc' := 4) (ls' := [some (.long (a)), none, some (.long (b)), none, some (.long (a)), none, none, none, none, none, none]) (st' := [.long (b)]) cd_3 rfl ?_
  refine aOK_op0 (pc' := 6) (ls' := [some (.long (a)), none, some (.long (b)), none, some (.long (a)), none, some (.long (b)), none, none, none, none]) (st' := []) cd_4 rfl ?_
  refine aOK_op0 (pc' := 7) (ls' := [some (.long (a)), none, some (.long (b)), none, some (.long (a)), none, some (.long (b)), none, none, none, none]) (st' := [.int (Int32.ofInt 0)]) cd_6 rfl ?_
  refine aOK_op0 (pc' := 9) (ls' := [some (.long (a)), none, some (.long (b)), none, some (.long (a)), none, some (.long (b)), none, some (.int (Int32.ofInt 0)), none, none]) (st' := []) cd_7 rfl ?_
  exact s_cd_loop a b 200 a b _ none (by decide) (Nat.le_refl _) hk
theorem cm_0 : a_m195.2.2.2.2.2.lookup 0 = some (.lload_n 0, 1, (0, 0, 0, 0)) := rfl
theorem cm_1 : a_m195.2.2.2.2.2.lookup 1 = some (.lconst 0, 1, (0, 0, 0, 0)) := rfl
theorem cm_2 : a_m195.2.2.2.2.2.lookup 2 = some (.lcmp, 1, (0, 0, 0, 0)) := rfl
theorem cm_3 : a_m195.2.2.2.2.2.lookup 3 = some (.ifCond .ge 8, 3, (0, 11, 0, 0)) := rfl
theorem cm_11 : a_m195.2.2.2.2.2.lookup 11 = some (.lload_n 0, 1, (0, 0, 0, 0)) := rfl
theorem cm_12 : a_m195.2.2.2.2.2.lookup 12 = some (.lstore 4, 2, (0, 0, 0, 0)) := rfl
theorem cm_14 : a_m195.2.2.2.2.2.lookup 14 = some (.lload_n 2, 1, (0, 0, 0, 0)) := rfl
theorem cm_15 : a_m195.2.2.2.2.2.lookup 15 = some (.lconst 0, 1, (0, 0, 0, 0)) := rfl
theorem cm_16 : a_m195.2.2.2.2.2.lookup 16 = some (.lcmp, 1, (0, 0, 0, 0)) := rfl
theorem cm_17 : a_m195.2.2.2.2.2.lookup 17 = some (.ifCond .ge 8, 3, (0, 25, 0, 0)) := rfl
theorem cm_20 : a_m195.2.2.2.2.2.lookup 20 = some (.lload_n 2, 1, (0, 0, 0, 0)) := rfl
theorem cm_21 : a_m195.2.2.2.2.2.lookup 21 = some (.lneg, 1, (0, 0, 0, 0)) := rfl
theorem cm_22 : a_m195.2.2.2.2.2.lookup 22 = some (.goto 4, 3, (0, 26, 0, 0)) := rfl
theorem cm_25 : a_m195.2.2.2.2.2.lookup 25 = some (.lload_n 2, 1, (0, 0, 0, 0)) := rfl
theorem cm_26 : a_m195.2.2.2.2.2.lookup 26 = some (.lstore 6, 2, (0, 0, 0, 0)) := rfl
theorem cm_28 : a_m195.2.2.2.2.2.lookup 28 = some (.lload 6, 2, (0, 0, 0, 0)) := rfl
theorem cm_30 : a_m195.2.2.2.2.2.lookup 30 = some (.lconst 0, 1, (0, 0, 0, 0)) := rfl
theorem cm_31 : a_m195.2.2.2.2.2.lookup 31 = some (.lcmp, 1, (0, 0, 0, 0)) := rfl
theorem cm_32 : a_m195.2.2.2.2.2.lookup 32 = some (.ifCond .eq 21, 3, (0, 53, 0, 0)) := rfl
theorem cm_35 : a_m195.2.2.2.2.2.lookup 35 = some (.lload 4, 2, (0, 0, 0, 0)) := rfl
theorem cm_37 : a_m195.2.2.2.2.2.lookup 37 = some (.lload 6, 2, (0, 0, 0, 0)) := rfl
theorem cm_39 : a_m195.2.2.2.2.2.lookup 39 = some (.lrem, 1, (0, 0, 0, 0)) := rfl
theorem cm_40 : a_m195.2.2.2.2.2.lookup 40 = some (.lstore 8, 2, (0, 0, 0, 0)) := rfl
theorem cm_42 : a_m195.2.2.2.2.2.lookup 42 = some (.lload 6, 2, (0, 0, 0, 0)) := rfl
theorem cm_44 : a_m195.2.2.2.2.2.lookup 44 = some (.lstore 4, 2, (0, 0, 0, 0)) := rfl
theorem cm_46 : a_m195.2.2.2.2.2.lookup 46 = some (.lload 8, 2, (0, 0, 0, 0)) := rfl
theorem cm_48 : a_m195.2.2.2.2.2.lookup 48 = some (.lstore 6, 2, (0, 0, 0, 0)) := rfl
theorem cm_50 : a_m195.2.2.2.2.2.lookup 50 = some (.goto (-22), 3, (0, 28, 0, 0)) := rfl
theorem cm_53 : a_m195.2.2.2.2.2.lookup 53 = some (.lload 4, 2, (0, 0, 0, 0)) := rfl
theorem cm_55 : a_m195.2.2.2.2.2.lookup 55 = some (.lreturn, 1, (0, 0, 0, 0)) := rfl
theorem s_rem_lt (x y : Int64) (hy : y ≠ 0) : (x - x / y * y).toInt.natAbs < y.toInt.natAbs := by
  rw [s_i64rem, Int.natAbs_tmod]
  exact Nat.mod_lt _ (Nat.pos_of_ne_zero (fun q => hy (Int64.toInt_inj.mp (Int.natAbs_eq_zero.mp q))))
theorem s_cm_loop (a b : Int64) : ∀ (n : Nat) (x y : Int64) (o : Option Value), y.toInt.natAbs < n → K (some (.long (s_gcd n x y))) h C S → aOK P X d a_m195 28 [some (.long (a)), none, some (.long (b)), none, some (.long (x)), none, some (.long (y)), none, o, none] [] h C S K
  | 0, x, y, o, hn, hk => absurd hn (Nat.not_lt_zero _)
  | n + 1, x, y, o, hn, hk => by
    by_cases hy : y = 0
    · have hy0 : a_cnd .eq (lg_cmp y (Int64.ofNat 0)) 0 = true := decide_eq_true ((lg_cmp_eq _ _).mpr hy)
      rw [s_gcd, if_pos hy] at hk
      refine aOK_op0 (pc' := 30) (ls' := [some (.long (a)), none, some (.long (b)), none, some (.long (x)), none, some (.long (y)), none, o, none]) (st' := [.long (y)]) cm_28 rfl ?_
      refine aOK_op0 (pc' := 31) (ls' := [some (.long (a)), none, some (.long (b)), none, some (.long (x)), none, some (.long (y)), none, o, none]) (st' := [.long (Int64.ofNat 0), .long (y)]) cm_30 rfl ?_
      refine aOK_op0 (pc' := 32) (ls' := [some (.long (a)), none, some (.long (b)), none, some (.long (x)), none, some (.long (y)), none, o, none]) (st' := [.int (lg_cmp (y) (Int64.ofNat 0))]) cm_31 rfl ?_
      refine aOK_op0 (pc' := if a_cnd .eq (lg_cmp (y) (Int64.ofNat 0)) (0) then 53 else 35) (ls' := [some (.long (a)), none, some (.long (b)), none, some (.long (x)), none, some (.long (y)), none, o, none]) (st' := []) cm_32 rfl ?_
      rw [if_pos hy0]
      refine aOK_op0 (pc' := 55) (ls' := [some (.long (a)), none, some (.long (b)), none, some (.long (x)), none, some (.long (y)), none, o, none]) (st' := [.long (x)]) cm_53 rfl ?_
      exact aOK_ret cm_55 s_lreturn rfl (fun n e => by cases e) (hk)
    · have hy0 : ¬ a_cnd .eq (lg_cmp y (Int64.ofNat 0)) 0 = true := fun q => hy ((lg_cmp_eq _ _).mp (of_decide_eq_true q))
      rw [s_gcd, if_neg hy] at hk
      refine aOK_op0 (pc' := 30) (ls' := [some (.long (a)), none, some (.long (b)), none, some (.long (x)), none, some (.long (y)), none, o, none]) (st' := [.long (y)]) cm_28 rfl ?_
      refine aOK_op0 (pc' := 31) (ls' := [some (.long (a)), none, some (.long (b)), none, some (.long (x)), none, some (.long (y)), none, o, none]) (st' := [.long (Int64.ofNat 0), .long (y)]) cm_30 rfl ?_
      refine aOK_op0 (pc' := 32) (ls' := [some (.long (a)), none, some (.long (b)), none, some (.long (x)), none, some (.long (y)), none, o, none]) (st' := [.int (lg_cmp (y) (Int64.ofNat 0))]) cm_31 rfl ?_
      refine aOK_op0 (pc' := if a_cnd .eq (lg_cmp (y) (Int64.ofNat 0)) (0) then 53 else 35) (ls' := [some (.long (a)), none, some (.long (b)), none, some (.long (x)), none, some (.long (y)), none, o, none]) (st' := []) cm_32 rfl ?_
      rw [if_neg hy0]
      refine aOK_op0 (pc' := 37) (ls' := [some (.long (a)), none, some (.long (b)), none, some (.long (x)), none, some (.long (y)), none, o, none]) (st' := [.long (x)]) cm_35 rfl ?_
      refine aOK_op0 (pc' := 39) (ls' := [some (.long (a)), none, some (.long (b)), none, some (.long (x)), none, some (.long (y)), none, o, none]) (st' := [.long (y), .long (x)]) cm_37 rfl ?_
      refine aOK_op0 (pc' := 40) (ls' := [some (.long (a)), none, some (.long (b)), none, some (.long (x)), none, some (.long (y)), none, o, none]) (st' := [.long ((x) - (x) / (y) * (y))]) cm_39 (s_lrem hy) ?_
      refine aOK_op0 (pc' := 42) (ls' := [some (.long (a)), none, some (.long (b)), none, some (.long (x)), none, some (.long (y)), none, some (.long ((x) - (x) / (y) * (y))), none]) (st' := []) cm_40 rfl ?_
      refine aOK_op0 (pc' := 44) (ls' := [some (.long (a)), none, some (.long (b)), none, some (.long (x)), none, some (.long (y)), none, some (.long ((x) - (x) / (y) * (y))), none]) (st' := [.long (y)]) cm_42 rfl ?_
      refine aOK_op0 (pc' := 46) (ls' := [some (.long (a)), none, some (.long (b)), none, some (.long (y)), none, some (.long (y)), none, some (.long ((x) - (x) / (y) * (y))), none]) (st' := []) cm_44 rfl ?_
      refine aOK_op0 (pc' := 48) (ls' := [some (.long (a)), none, some (.long (b)), none, some (.long (y)), none, some (.long (y)), none, some (.long ((x) - (x) / (y) * (y))), none]) (st' := [.long ((x) - (x) / (y) * (y))]) cm_46 rfl ?_
      refine aOK_op0 (pc' := 50) (ls' := [some (.long (a)), none, some (.long (b)), none, some (.long (y)), none, some (.long ((x) - (x) / (y) * (y))), none, some (.long ((x) - (x) / (y) * (y))), none]) (st' := []) cm_48 rfl ?_
      refine aOK_op0 (pc' := 28) (ls' := [some (.long (a)), none, some (.long (b)), none, some (.long (y)), none, some (.long ((x) - (x) / (y) * (y))), none, some (.long ((x) - (x) / (y) * (y))), none]) (st' := []) cm_50 rfl ?_
      exact s_cm_loop a b n y _ _ (by have := s_rem_lt x y hy; omega) hk
def s_abs (b : Int64) : Int64 := if 0 ≤ b then b else -b
def s_big : Nat := 9223372036854775810
theorem s_lt_big (x : Int64) : x.toInt.natAbs < s_big := by
  have h1 := x.le_toInt
  have h2 := x.toInt_lt
  unfold s_big
  omega
theorem s_cm_ok (a b : Int64) (ha0 : 0 ≤ a) (hk : K (some (.long (s_gcd s_big a (s_abs b)))) h C S) : aOK P X d a_m195 0 [some (.long (a)), none, some (.long (b)), none, none, none, none, none, none, none] [] h C S K := by
  have ha : a_cnd .ge (lg_cmp a (Int64.ofNat 0)) 0 = true := decide_eq_true ((lg_cmp_ge _ _).mpr ha0)
  by_cases hb0 : 0 ≤ b
  · have hb : a_cnd .ge (lg_cmp b (Int64.ofNat 0)) 0 = true := decide_eq_true ((lg_cmp_ge _ _).mpr hb0)
    rw [show s_abs b = b from if_pos hb0] at hk
    refine aOK_op0 (pc' := 1) (ls' := [some (.long (a)), none, some (.long (b)), none, none, none, none, none, none, none]) (st' := [.long (a)]) cm_0 rfl ?_
    refine aOK_op0 (pc' := 2) (ls' := [some (.long (a)), none, some (.long (b)), none, none, none, none, none, none, none]) (st' := [.long (Int64.ofNat 0), .long (a)]) cm_1 rfl ?_
    refine aOK_op0 (pc' := 3) (ls' := [some (.long (a)), none, some (.long (b)), none, none, none, none, none, none, none]) (st' := [.int (lg_cmp (a) (Int64.ofNat 0))]) cm_2 rfl ?_
    refine aOK_op0 (pc' := if a_cnd .ge (lg_cmp (a) (Int64.ofNat 0)) (0) then 11 else 6) (ls' := [some (.long (a)), none, some (.long (b)), none, none, none, none, none, none, none]) (st' := []) cm_3 rfl ?_
    rw [if_pos ha]
    refine aOK_op0 (pc' := 12) (ls' := [some (.long (a)), none, some (.long (b)), none, none, none, none, none, none, none]) (st' := [.long (a)]) cm_11 rfl ?_
    refine aOK_op0 (pc' := 14) (ls' := [some (.long (a)), none, some (.long (b)), none, some (.long (a)), none, none, none, none, none]) (st' := []) cm_12 rfl ?_
    refine aOK_op0 (pc' := 15) (ls' := [some (.long (a)), none, some (.long (b)), none, some (.long (a)), none, none, none, none, none]) (st' := [.long (b)]) cm_14 rfl ?_
    refine aOK_op0 (pc' := 16) (ls' := [some (.long (a)), none, some (.long (b)), none, some (.long (a)), none, none, none, none, none]) (st' := [.long (Int64.ofNat 0), .long (b)]) cm_15 rfl ?_
    refine aOK_op0 (pc' := 17) (ls' := [some (.long (a)), none, some (.long (b)), none, some (.long (a)), none, none, none, none, none]) (st' := [.int (lg_cmp (b) (Int64.ofNat 0))]) cm_16 rfl ?_
    refine aOK_op0 (pc' := if a_cnd .ge (lg_cmp (b) (Int64.ofNat 0)) (0) then 25 else 20) (ls' := [some (.long (a)), none, some (.long (b)), none, some (.long (a)), none, none, none, none, none]) (st' := []) cm_17 rfl ?_
    rw [if_pos hb]
    refine aOK_op0 (pc' := 26) (ls' := [some (.long (a)), none, some (.long (b)), none, some (.long (a)), none, none, none, none, none]) (st' := [.long (b)]) cm_25 rfl ?_
    refine aOK_op0 (pc' := 28) (ls' := [some (.long (a)), none, some (.long (b)), none, some (.long (a)), none, some (.long (b)), none, none, none]) (st' := []) cm_26 rfl ?_
    exact s_cm_loop a b s_big a b none (s_lt_big _) hk
  · have hb : ¬ a_cnd .ge (lg_cmp b (Int64.ofNat 0)) 0 = true := fun q => hb0 ((lg_cmp_ge _ _).mp (of_decide_eq_true q))
    rw [show s_abs b = -b from if_neg hb0] at hk
    refine aOK_op0 (pc' := 1) (ls' := [some (.long (a)), none, some (.long (b)), none, none, none, none, none, none, none]) (st' := [.long (a)]) cm_0 rfl ?_
    refine aOK_op0 (pc' := 2) (ls' := [some (.long (a)), none, some (.long (b)), none, none, none, none, none, none, none]) (st' := [.long (Int64.ofNat 0), .long (a)]) cm_1 rfl ?_
    refine aOK_op0 (pc' := 3) (ls' := [some (.long (a)), none, some (.long (b)), none, none, none, none, none, none, none]) (st' := [.int (lg_cmp (a) (Int64.ofNat 0))]) cm_2 rfl ?_
    refine aOK_op0 (pc' := if a_cnd .ge (lg_cmp (a) (Int64.ofNat 0)) (0) then 11 else 6) (ls' := [some (.long (a)), none, some (.long (b)), none, none, none, none, none, none, none]) (st' := []) cm_3 rfl ?_
    rw [if_pos ha]
    refine aOK_op0 (pc' := 12) (ls' := [some (.long (a)), none, some (.long (b)), none, none, none, none, none, none, none]) (st' := [.long (a)]) cm_11 rfl ?_
    refine aOK_op0 (pc' := 14) (ls' := [some (.long (a)), none, some (.long (b)), none, some (.long (a)), none, none, none, none, none]) (st' := []) cm_12 rfl ?_
    refine aOK_op0 (pc' := 15) (ls' := [some (.long (a)), none, some (.long (b)), none, some (.long (a)), none, none, none, none, none]) (st' := [.long (b)]) cm_14 rfl ?_
    refine aOK_op0 (pc' := 16) (ls' := [some (.long (a)), none, some (.long (b)), none, some (.long (a)), none, none, none, none, none]) (st' := [.long (Int64.ofNat 0), .long (b)]) cm_15 rfl ?_
    refine aOK_op0 (pc' := 17) (ls' := [some (.long (a)), none, some (.long (b)), none, some (.long (a)), none, none, none, none, none]) (st' := [.int (lg_cmp (b) (Int64.ofNat 0))]) cm_16 rfl ?_
    refine aOK_op0 (pc' := if a_cnd .ge (lg_cmp (b) (Int64.ofNat 0)) (0) then 25 else 20) (ls' := [some (.long (a)), none, some (.long (b)), none, some (.long (a)), none, none, none, none, none]) (st' := []) cm_17 rfl ?_
    rw [if_neg hb]
    refine aOK_op0 (pc' := 21) (ls' := [some (.long (a)), none, some (.long (b)), none, some (.long (a)), none, none, none, none, none]) (st' := [.long (b)]) cm_20 rfl ?_
    refine aOK_op0 (pc' := 22) (ls' := [some (.long (a)), none, some (.long (b)), none, some (.long (a)), none, none, none, none, none]) (st' := [.long (-(b))]) cm_21 rfl ?_
    refine aOK_op0 (pc' := 26) (ls' := [some (.long (a)), none, some (.long (b)), none, some (.long (a)), none, none, none, none, none]) (st' := [.long (-(b))]) cm_22 rfl ?_
    refine aOK_op0 (pc' := 28) (ls' := [some (.long (a)), none, some (.long (b)), none, some (.long (a)), none, some (.long (-(b))), none, none, none]) (st' := []) cm_26 rfl ?_
    exact s_cm_loop a b s_big a (-b) none (s_lt_big _) hk
theorem mcl_17 : a_c145.lookup 17 = some (.iload 5, 2, (0, 0, 0, 0)) := rfl
theorem mcl_19 : a_c145.lookup 19 = some (.ldc_w 348, 3, (15, 5057, 0, 100000)) := rfl
theorem mcl_22 : a_c145.lookup 22 = some (.if_icmp .gt 30, 3, (0, 52, 0, 0)) := rfl
theorem mcl_25 : a_c145.lookup 25 = some (.lload_n 3, 1, (0, 0, 0, 0)) := rfl
theorem mcl_26 : a_c145.lookup 26 = some (.ldc2_w 349, 3, (16, 5058, 0, 500000000)) := rfl
theorem mcl_29 : a_c145.lookup 29 = some (.lcmp, 1, (0, 0, 0, 0)) := rfl
theorem mcl_30 : a_c145.lookup 30 = some (.ifCond .gt 6, 3, (0, 36, 0, 0)) := rfl
theorem mcl_33 : a_c145.lookup 33 = some (.iload 5, 2, (0, 0, 0, 0)) := rfl
theorem mcl_35 : a_c145.lookup 35 = some (.ireturn, 1, (0, 0, 0, 0)) := rfl
theorem mcl_36 : a_c145.lookup 36 = some (.lload_n 3, 1, (0, 0, 0, 0)) := rfl
theorem mcl_37 : a_c145.lookup 37 = some (.iload_n 2, 1, (0, 0, 0, 0)) := rfl
theorem mcl_38 : a_c145.lookup 38 = some (.iload_n 1, 1, (0, 0, 0, 0)) := rfl
theorem mcl_39 : a_c145.lookup 39 = some (.isub, 1, (0, 0, 0, 0)) := rfl
theorem mcl_40 : a_c145.lookup 40 = some (.i2l, 1, (0, 0, 0, 0)) := rfl
theorem mcl_41 : a_c145.lookup 41 = some (.lmul, 1, (0, 0, 0, 0)) := rfl
theorem mcl_42 : a_c145.lookup 42 = some (.iload_n 2, 1, (0, 0, 0, 0)) := rfl
theorem mcl_43 : a_c145.lookup 43 = some (.i2l, 1, (0, 0, 0, 0)) := rfl
theorem mcl_44 : a_c145.lookup 44 = some (.ldiv, 1, (0, 0, 0, 0)) := rfl
theorem mcl_45 : a_c145.lookup 45 = some (.lstore_n 3, 1, (0, 0, 0, 0)) := rfl
theorem mcl_46 : a_c145.lookup 46 = some (.iinc 5 1, 3, (0, 0, 0, 0)) := rfl
theorem mcl_49 : a_c145.lookup 49 = some (.goto (-32), 3, (0, 17, 0, 0)) := rfl
theorem mcl_52 : a_c145.lookup 52 = some (.bipush (-2), 2, (0, 0, 0, 0)) := rfl
theorem mcl_54 : a_c145.lookup 54 = some (.ireturn, 1, (0, 0, 0, 0)) := rfl
theorem s_mc_loop (hM : M.2.2.2.2.2 = a_c145) (hR : M.2.2.2.1 = some .int) (t : Value) (a b : Int32) (hb : b.toInt64 ≠ 0) : ∀ (n : Nat) (l : Int64) (k : Int32), k.toInt = 100001 - (n : Int) → n ≤ 100001 → K (some (.int (s_mny a b n l k))) h C S → aOK P X d M 17 [some ((t)), some (.int (a)), some (.int (b)), some (.long (l)), none, some (.int (k))] [] h C S K
  | 0, l, k, hi, hn, hk => by
    have hgt : a_cnd .gt k (Int32.ofInt 100000) = true := decide_eq_true (Int32.lt_iff_toInt_lt.mpr (by rw [hi]; decide))
    refine aOK_op0 (pc' := 19) (ls' := [some ((t)), some (.int (a)), some (.int (b)), some (.long (l)), none, some (.int (k))]) (st' := [.int (k)]) (by rw [hM]; exact mcl_17) rfl ?_
    refine aOK_op0 (pc' := 22) (ls' := [some ((t)), some (.int (a)), some (.int (b)), some (.long (l)), none, some (.int (k))]) (st' := [.int (Int32.ofInt 100000), .int (k)]) (by rw [hM]; exact mcl_19) rfl ?_
    refine aOK_op0 (pc' := if a_cnd .gt (k) (Int32.ofInt 100000) then 52 else 25) (ls' := [some ((t)), some (.int (a)), some (.int (b)), some (.long (l)), none, some (.int (k))]) (st' := []) (by rw [hM]; exact mcl_22) rfl ?_
    rw [if_pos hgt]
    refine aOK_op0 (pc' := 54) (ls' := [some ((t)), some (.int (a)), some (.int (b)), some (.long (l)), none, some (.int (k))]) (st' := [.int ((Int8.ofInt (-2)).toInt32)]) (by rw [hM]; exact mcl_52) rfl ?_
    exact aOK_ret (by rw [hM]; exact mcl_54) s_ireturn (by rw [hR]; rfl) (fun n e => by cases e) (hk)
  | n + 1, l, k, hi, hn, hk => by
    have hgt : ¬ a_cnd .gt k (Int32.ofInt 100000) = true := fun q => by
      have q2 := Int32.lt_iff_toInt_lt.mp (of_decide_eq_true q)
      have q3 : (Int32.ofInt 100000).toInt = 100000 := by decide
      rw [q3, hi] at q2
      omega
    by_cases hl : l ≤ Int64.ofInt 500000000
    · have hl0 : ¬ a_cnd .gt (lg_cmp l (Int64.ofInt 500000000)) 0 = true := fun q => absurd ((lg_cmp_gt _ _).mp (of_decide_eq_true q)) (Int64.not_lt.mpr hl)
      rw [s_mny, if_pos hl] at hk
      refine aOK_op0 (pc' := 19) (ls' := [some ((t)), some (.int (a)), some (.int (b)), some (.long (l)), none, some (.int (k))]) (st' := [.int (k)]) (by rw [hM]; exact mcl_17) rfl ?_
      refine aOK_op0 (pc' := 22) (ls' := [some ((t)), some (.int (a)), some (.int (b)), some (.long (l)), none, some (.int (k))]) (st' := [.int (Int32.ofInt 100000), .int (k)]) (by rw [hM]; exact mcl_19) rfl ?_
      refine aOK_op0 (pc' := if a_cnd .gt (k) (Int32.ofInt 100000) then 52 else 25) (ls' := [some ((t)), some (.int (a)), some (.int (b)), some (.long (l)), none, some (.int (k))]) (st' := []) (by rw [hM]; exact mcl_22) rfl ?_
      rw [if_neg hgt]
      refine aOK_op0 (pc' := 26) (ls' := [some ((t)), some (.int (a)), some (.int (b)), some (.long (l)), none, some (.int (k))]) (st' := [.long (l)]) (by rw [hM]; exact mcl_25) rfl ?_
      refine aOK_op0 (pc' := 29) (ls' := [some ((t)), some (.int (a)), some (.int (b)), some (.long (l)), none, some (.int (k))]) (st' := [.long (Int64.ofInt 500000000), .long (l)]) (by rw [hM]; exact mcl_26) rfl ?_
      refine aOK_op0 (pc' := 30) (ls' := [some ((t)), some (.int (a)), some (.int (b)), some (.long (l)), none, some (.int (k))]) (st' := [.int (lg_cmp (l) (Int64.ofInt 500000000))]) (by rw [hM]; exact mcl_29) rfl ?_
      refine aOK_op0 (pc' := if a_cnd .gt (lg_cmp (l) (Int64.ofInt 500000000)) (0) then 36 else 33) (ls' := [some ((t)), some (.int (a)), some (.int (b)), some (.long (l)), none, some (.int (k))]) (st' := []) (by rw [hM]; exact mcl_30) rfl ?_
      rw [if_neg hl0]
      refine aOK_op0 (pc' := 35) (ls' := [some ((t)), some (.int (a)), some (.int (b)), some (.long (l)), none, some (.int (k))]) (st' := [.int (k)]) (by rw [hM]; exact mcl_33) rfl ?_
      exact aOK_ret (by rw [hM]; exact mcl_35) s_ireturn (by rw [hR]; rfl) (fun n e => by cases e) (hk)
    · have hl0 : a_cnd .gt (lg_cmp l (Int64.ofInt 500000000)) 0 = true := decide_eq_true ((lg_cmp_gt _ _).mpr (Int64.not_le.mp hl))
      rw [s_mny, if_neg hl] at hk
      refine aOK_op0 (pc' := 19) (ls' := [some ((t)), some (.int (a)), some (.int (b)), some (.long (l)), none, some (.int (k))]) (st' := [.int (k)]) (by rw [hM]; exact mcl_17) rfl ?_
      refine aOK_op0 (pc' := 22) (ls' := [some ((t)), some (.int (a)), some (.int (b)), some (.long (l)), none, some (.int (k))]) (st' := [.int (Int32.ofInt 100000), .int (k)]) (by rw [hM]; exact mcl_19) rfl ?_
      refine aOK_op0 (pc' := if a_cnd .gt (k) (Int32.ofInt 100000) then 52 else 25) (ls' := [some ((t)), some (.int (a)), some (.int (b)), some (.long (l)), none, some (.int (k))]) (st' := []) (by rw [hM]; exact mcl_22) rfl ?_
      rw [if_neg hgt]
      refine aOK_op0 (pc' := 26) (ls' := [some ((t)), some (.int (a)), some (.int (b)), some (.long (l)), none, some (.int (k))]) (st' := [.long (l)]) (by rw [hM]; exact mcl_25) rfl ?_
      refine aOK_op0 (pc' := 29) (ls' := [some ((t)), some (.int (a)), some (.int (b)), some (.long (l)), none, some (.int (k))]) (st' := [.long (Int64.ofInt 500000000), .long (l)]) (by rw [hM]; exact mcl_26) rfl ?_
      refine aOK_op0 (pc' := 30) (ls' := [some ((t)), some (.int (a)), some (.int (b)), some (.long (l)), none, some (.int (k))]) (st' := [.int (lg_cmp (l) (Int64.ofInt 500000000))]) (by rw [hM]; exact mcl_29) rfl ?_
      refine aOK_op0 (pc' := if a_cnd .gt (lg_cmp (l) (Int64.ofInt 500000000)) (0) then 36 else 33) (ls' := [some ((t)), some (.int (a)), some (.int (b)), some (.long (l)), none, some (.int (k))]) (st' := []) (by rw [hM]; exact mcl_30) rfl ?_
      rw [if_pos hl0]
      refine aOK_op0 (pc' := 37) (ls' := [some ((t)), some (.int (a)), some (.int (b)), some (.long (l)), none, some (.int (k))]) (st' := [.long (l)]) (by rw [hM]; exact mcl_36) rfl ?_
      refine aOK_op0 (pc' := 38) (ls' := [some ((t)), some (.int (a)), some (.int (b)), some (.long (l)), none, some (.int (k))]) (st' := [.int (b), .long (l)]) (by rw [hM]; exact mcl_37) rfl ?_
      refine aOK_op0 (pc' := 39) (ls' := [some ((t)), some (.int (a)), some (.int (b)), some (.long (l)), none, some (.int (k))]) (st' := [.int (a), .int (b), .long (l)]) (by rw [hM]; exact mcl_38) rfl ?_
      refine aOK_op0 (pc' := 40) (ls' := [some ((t)), some (.int (a)), some (.int (b)), some (.long (l)), none, some (.int (k))]) (st' := [.int ((b) - (a)), .long (l)]) (by rw [hM]; exact mcl_39) rfl ?_
      refine aOK_op0 (pc' := 41) (ls' := [some ((t)), some (.int (a)), some (.int (b)), some (.long (l)), none, some (.int (k))]) (st' := [.long (((b) - (a)).toInt64), .long (l)]) (by rw [hM]; exact mcl_40) rfl ?_
      refine aOK_op0 (pc' := 42) (ls' := [some ((t)), some (.int (a)), some (.int (b)), some (.long (l)), none, some (.int (k))]) (st' := [.long ((l) * (((b) - (a)).toInt64))]) (by rw [hM]; exact mcl_41) rfl ?_
      refine aOK_op0 (pc' := 43) (ls' := [some ((t)), some (.int (a)), some (.int (b)), some (.long (l)), none, some (.int (k))]) (st' := [.int (b), .long ((l) * (((b) - (a)).toInt64))]) (by rw [hM]; exact mcl_42) rfl ?_
      refine aOK_op0 (pc' := 44) (ls' := [some ((t)), some (.int (a)), some (.int (b)), some (.long (l)), none, some (.int (k))]) (st' := [.long ((b).toInt64), .long ((l) * (((b) - (a)).toInt64))]) (by rw [hM]; exact mcl_43) rfl ?_
      refine aOK_op0 (pc' := 45) (ls' := [some ((t)), some (.int (a)), some (.int (b)), some (.long (l)), none, some (.int (k))]) (st' := [.long (((l) * (((b) - (a)).toInt64)) / ((b).toInt64))]) (by rw [hM]; exact mcl_44) (s_ldiv hb) ?_
      refine aOK_op0 (pc' := 46) (ls' := [some ((t)), some (.int (a)), some (.int (b)), some (.long (((l) * (((b) - (a)).toInt64)) / ((b).toInt64))), none, some (.int (k))]) (st' := []) (by rw [hM]; exact mcl_45) rfl ?_
      refine aOK_op0 (pc' := 49) (ls' := [some ((t)), some (.int (a)), some (.int (b)), some (.long (((l) * (((b) - (a)).toInt64)) / ((b).toInt64))), none, some (.int ((k) + Int32.ofInt 1))]) (st' := []) (by rw [hM]; exact mcl_46) rfl ?_
      refine aOK_op0 (pc' := 17) (ls' := [some ((t)), some (.int (a)), some (.int (b)), some (.long (((l) * (((b) - (a)).toInt64)) / ((b).toInt64))), none, some (.int ((k) + Int32.ofInt 1))]) (st' := []) (by rw [hM]; exact mcl_49) rfl ?_
      exact s_mc_loop hM hR t a b hb n _ _ (by
        rw [Int32.toInt_add, hi]
        have e1 : (Int32.ofInt 1).toInt = 1 := by decide
        rw [e1, Int.bmod_eq_of_le (by omega) (by omega)]
        omega) (by omega) hk
theorem mrl_22 : a_c267.lookup 22 = some (.iload 5, 2, (0, 0, 0, 0)) := rfl
theorem mrl_24 : a_c267.lookup 24 = some (.ldc_w 442, 3, (15, 7151, 0, 100000)) := rfl
theorem mrl_27 : a_c267.lookup 27 = some (.if_icmp .gt 30, 3, (0, 57, 0, 0)) := rfl
theorem mrl_30 : a_c267.lookup 30 = some (.lload_n 3, 1, (0, 0, 0, 0)) := rfl
theorem mrl_31 : a_c267.lookup 31 = some (.ldc2_w 443, 3, (16, 7152, 0, 500000000)) := rfl
theorem mrl_34 : a_c267.lookup 34 = some (.lcmp, 1, (0, 0, 0, 0)) := rfl
theorem mrl_35 : a_c267.lookup 35 = some (.ifCond .gt 6, 3, (0, 41, 0, 0)) := rfl
theorem mrl_38 : a_c267.lookup 38 = some (.iload 5, 2, (0, 0, 0, 0)) := rfl
theorem mrl_40 : a_c267.lookup 40 = some (.ireturn, 1, (0, 0, 0, 0)) := rfl
theorem mrl_41 : a_c267.lookup 41 = some (.lload_n 3, 1, (0, 0, 0, 0)) := rfl
theorem mrl_42 : a_c267.lookup 42 = some (.iload_n 2, 1, (0, 0, 0, 0)) := rfl
theorem mrl_43 : a_c267.lookup 43 = some (.iload_n 1, 1, (0, 0, 0, 0)) := rfl
theorem mrl_44 : a_c267.lookup 44 = some (.isub, 1, (0, 0, 0, 0)) := rfl
theorem mrl_45 : a_c267.lookup 45 = some (.i2l, 1, (0, 0, 0, 0)) := rfl
theorem mrl_46 : a_c267.lookup 46 = some (.lmul, 1, (0, 0, 0, 0)) := rfl
theorem mrl_47 : a_c267.lookup 47 = some (.iload_n 2, 1, (0, 0, 0, 0)) := rfl
theorem mrl_48 : a_c267.lookup 48 = some (.i2l, 1, (0, 0, 0, 0)) := rfl
theorem mrl_49 : a_c267.lookup 49 = some (.ldiv, 1, (0, 0, 0, 0)) := rfl
theorem mrl_50 : a_c267.lookup 50 = some (.lstore_n 3, 1, (0, 0, 0, 0)) := rfl
theorem mrl_51 : a_c267.lookup 51 = some (.iinc 5 1, 3, (0, 0, 0, 0)) := rfl
theorem mrl_54 : a_c267.lookup 54 = some (.goto (-32), 3, (0, 22, 0, 0)) := rfl
theorem mrl_57 : a_c267.lookup 57 = some (.bipush (-2), 2, (0, 0, 0, 0)) := rfl
theorem mrl_59 : a_c267.lookup 59 = some (.ireturn, 1, (0, 0, 0, 0)) := rfl
theorem s_mr_loop (hM : M.2.2.2.2.2 = a_c267) (hR : M.2.2.2.1 = some .int) (t : Value) (a b : Int32) (hb : b.toInt64 ≠ 0) : ∀ (n : Nat) (l : Int64) (k : Int32), k.toInt = 100001 - (n : Int) → n ≤ 100001 → K (some (.int (s_mny a b n l k))) h C S → aOK P X d M 22 [some ((t)), some (.int (a)), some (.int (b)), some (.long (l)), none, some (.int (k))] [] h C S K
  | 0, l, k, hi, hn, hk => by
    have hgt : a_cnd .gt k (Int32.ofInt 100000) = true := decide_eq_true (Int32.lt_iff_toInt_lt.mpr (by rw [hi]; decide))
    refine aOK_op0 (pc' := 24) (ls' := [some ((t)), some (.int (a)), some (.int (b)), some (.long (l)), none, some (.int (k))]) (st' := [.int (k)]) (by rw [hM]; exact mrl_22) rfl ?_
    refine aOK_op0 (pc' := 27) (ls' := [some ((t)), some (.int (a)), some (.int (b)), some (.long (l)), none, some (.int (k))]) (st' := [.int (Int32.ofInt 100000), .int (k)]) (by rw [hM]; exact mrl_24) rfl ?_
    refine aOK_op0 (pc' := if a_cnd .gt (k) (Int32.ofInt 100000) then 57 else 30) (ls' := [some ((t)), some (.int (a)), some (.int (b)), some (.long (l)), none, some (.int (k))]) (st' := []) (by rw [hM]; exact mrl_27) rfl ?_
    rw [if_pos hgt]
    refine aOK_op0 (pc' := 59) (ls' := [some ((t)), some (.int (a)), some (.int (b)), some (.long (l)), none, some (.int (k))]) (st' := [.int ((Int8.ofInt (-2)).toInt32)]) (by rw [hM]; exact mrl_57) rfl ?_
    exact aOK_ret (by rw [hM]; exact mrl_59) s_ireturn (by rw [hR]; rfl) (fun n e => by cases e) (hk)
  | n + 1, l, k, hi, hn, hk => by
    have hgt : ¬ a_cnd .gt k (Int32.ofInt 100000) = true := fun q => by
      have q2 := Int32.lt_iff_toInt_lt.mp (of_decide_eq_true q)
      have q3 : (Int32.ofInt 100000).toInt = 100000 := by decide
      rw [q3, hi] at q2
      omega
    by_cases hl : l ≤ Int64.ofInt 500000000
    · have hl0 : ¬ a_cnd .gt (lg_cmp l (Int64.ofInt 500000000)) 0 = true := fun q => absurd ((lg_cmp_gt _ _).mp (of_decide_eq_true q)) (Int64.not_lt.mpr hl)
      rw [s_mny, if_pos hl] at hk
      refine aOK_op0 (pc' := 24) (ls' := [some ((t)), some (.int (a)), some (.int (b)), some (.long (l)), none, some (.int (k))]) (st' := [.int (k)]) (by rw [hM]; exact mrl_22) rfl ?_
      refine aOK_op0 (pc' := 27) (ls' := [some ((t)), some (.int (a)), some (.int (b)), some (.long (l)), none, some (.int (k))]) (st' := [.int (Int32.ofInt 100000), .int (k)]) (by rw [hM]; exact mrl_24) rfl ?_
      refine aOK_op0 (pc' := if a_cnd .gt (k) (Int32.ofInt 100000) then 57 else 30) (ls' := [some ((t)), some (.int (a)), some (.int (b)), some (.long (l)), none, some (.int (k))]) (st' := []) (by rw [hM]; exact mrl_27) rfl ?_
      rw [if_neg hgt]
      refine aOK_op0 (pc' := 31) (ls' := [some ((t)), some (.int (a)), some (.int (b)), some (.long (l)), none, some (.int (k))]) (st' := [.long (l)]) (by rw [hM]; exact mrl_30) rfl ?_
      refine aOK_op0 (pc' := 34) (ls' := [some ((t)), some (.int (a)), some (.int (b)), some (.long (l)), none, some (.int (k))]) (st' := [.long (Int64.ofInt 500000000), .long (l)]) (by rw [hM]; exact mrl_31) rfl ?_
      refine aOK_op0 (pc' := 35) (ls' := [some ((t)), some (.int (a)), some (.int (b)), some (.long (l)), none, some (.int (k))]) (st' := [.int (lg_cmp (l) (Int64.ofInt 500000000))]) (by rw [hM]; exact mrl_34) rfl ?_
      refine aOK_op0 (pc' := if a_cnd .gt (lg_cmp (l) (Int64.ofInt 500000000)) (0) then 41 else 38) (ls' := [some ((t)), some (.int (a)), some (.int (b)), some (.long (l)), none, some (.int (k))]) (st' := []) (by rw [hM]; exact mrl_35) rfl ?_
      rw [if_neg hl0]
      refine aOK_op0 (pc' := 40) (ls' := [some ((t)), some (.int (a)), some (.int (b)), some (.long (l)), none, some (.int (k))]) (st' := [.int (k)]) (by rw [hM]; exact mrl_38) rfl ?_
      exact aOK_ret (by rw [hM]; exact mrl_40) s_ireturn (by rw [hR]; rfl) (fun n e => by cases e) (hk)
    · have hl0 : a_cnd .gt (lg_cmp l (Int64.ofInt 500000000)) 0 = true := decide_eq_true ((lg_cmp_gt _ _).mpr (Int64.not_le.mp hl))
      rw [s_mny, if_neg hl] at hk
      refine aOK_op0 (pc' := 24) (ls' := [some ((t)), some (.int (a)), some (.int (b)), some (.long (l)), none, some (.int (k))]) (st' := [.int (k)]) (by rw [hM]; exact mrl_22) rfl ?_
      refine aOK_op0 (pc' := 27) (ls' := [some ((t)), some (.int (a)), some (.int (b)), some (.long (l)), none, some (.int (k))]) (st' := [.int (Int32.ofInt 100000), .int (k)]) (by rw [hM]; exact mrl_24) rfl ?_
      refine aOK_op0 (pc' := if a_cnd .gt (k) (Int32.ofInt 100000) then 57 else 30) (ls' := [some ((t)), some (.int (a)), some (.int (b)), some (.long (l)), none, some (.int (k))]) (st' := []) (by rw [hM]; exact mrl_27) rfl ?_
      rw [if_neg hgt]
      refine aOK_op0 (pc' := 31) (ls' := [some ((t)), some (.int (a)), some (.int (b)), some (.long (l)), none, some (.int (k))]) (st' := [.long (l)]) (by rw [hM]; exact mrl_30) rfl ?_
      refine aOK_op0 (pc' := 34) (ls' := [some ((t)), some (.int (a)), some (.int (b)), some (.long (l)), none, some (.int (k))]) (st' := [.long (Int64.ofInt 500000000), .long (l)]) (by rw [hM]; exact mrl_31) rfl ?_
      refine aOK_op0 (pc' := 35) (ls' := [some ((t)), some (.int (a)), some (.int (b)), some (.long (l)), none, some (.int (k))]) (st' := [.int (lg_cmp (l) (Int64.ofInt 500000000))]) (by rw [hM]; exact mrl_34) rfl ?_
      refine aOK_op0 (pc' := if a_cnd .gt (lg_cmp (l) (Int64.ofInt 500000000)) (0) then 41 else 38) (ls' := [some ((t)), some (.int (a)), some (.int (b)), some (.long (l)), none, some (.int (k))]) (st' := []) (by rw [hM]; exact mrl_35) rfl ?_
      rw [if_pos hl0]
      refine aOK_op0 (pc' := 42) (ls' := [some ((t)), some (.int (a)), some (.int (b)), some (.long (l)), none, some (.int (k))]) (st' := [.long (l)]) (by rw [hM]; exact mrl_41) rfl ?_
      refine aOK_op0 (pc' := 43) (ls' := [some ((t)), some (.int (a)), some (.int (b)), some (.long (l)), none, some (.int (k))]) (st' := [.int (b), .long (l)]) (by rw [hM]; exact mrl_42) rfl ?_
      refine aOK_op0 (pc' := 44) (ls' := [some ((t)), some (.int (a)), some (.int (b)), some (.long (l)), none, some (.int (k))]) (st' := [.int (a), .int (b), .long (l)]) (by rw [hM]; exact mrl_43) rfl ?_
      refine aOK_op0 (pc' := 45) (ls' := [some ((t)), some (.int (a)), some (.int (b)), some (.long (l)), none, some (.int (k))]) (st' := [.int ((b) - (a)), .long (l)]) (by rw [hM]; exact mrl_44) rfl ?_
      refine aOK_op0 (pc' := 46) (ls' := [some ((t)), some (.int (a)), some (.int (b)), some (.long (l)), none, some (.int (k))]) (st' := [.long (((b) - (a)).toInt64), .long (l)]) (by rw [hM]; exact mrl_45) rfl ?_
      refine aOK_op0 (pc' := 47) (ls' := [some ((t)), some (.int (a)), some (.int (b)), some (.long (l)), none, some (.int (k))]) (st' := [.long ((l) * (((b) - (a)).toInt64))]) (by rw [hM]; exact mrl_46) rfl ?_
      refine aOK_op0 (pc' := 48) (ls' := [some ((t)), some (.int (a)), some (.int (b)), some (.long (l)), none, some (.int (k))]) (st' := [.int (b), .long ((l) * (((b) - (a)).toInt64))]) (by rw [hM]; exact mrl_47) rfl ?_
      refine aOK_op0 (pc' := 49) (ls' := [some ((t)), some (.int (a)), some (.int (b)), some (.long (l)), none, some (.int (k))]) (st' := [.long ((b).toInt64), .long ((l) * (((b) - (a)).toInt64))]) (by rw [hM]; exact mrl_48) rfl ?_
      refine aOK_op0 (pc' := 50) (ls' := [some ((t)), some (.int (a)), some (.int (b)), some (.long (l)), none, some (.int (k))]) (st' := [.long (((l) * (((b) - (a)).toInt64)) / ((b).toInt64))]) (by rw [hM]; exact mrl_49) (s_ldiv hb) ?_
      refine aOK_op0 (pc' := 51) (ls' := [some ((t)), some (.int (a)), some (.int (b)), some (.long (((l) * (((b) - (a)).toInt64)) / ((b).toInt64))), none, some (.int (k))]) (st' := []) (by rw [hM]; exact mrl_50) rfl ?_
      refine aOK_op0 (pc' := 54) (ls' := [some ((t)), some (.int (a)), some (.int (b)), some (.long (((l) * (((b) - (a)).toInt64)) / ((b).toInt64))), none, some (.int ((k) + Int32.ofInt 1))]) (st' := []) (by rw [hM]; exact mrl_51) rfl ?_
      refine aOK_op0 (pc' := 22) (ls' := [some ((t)), some (.int (a)), some (.int (b)), some (.long (((l) * (((b) - (a)).toInt64)) / ((b).toInt64))), none, some (.int ((k) + Int32.ofInt 1))]) (st' := []) (by rw [hM]; exact mrl_54) rfl ?_
      exact s_mr_loop hM hR t a b hb n _ _ (by
        rw [Int32.toInt_add, hi]
        have e1 : (Int32.ofInt 1).toInt = 1 := by decide
        rw [e1, Int.bmod_eq_of_le (by omega) (by omega)]
        omega) (by omega) hk
end SLOOP
end PT07l
section PT08b
/-! ===== the law's configuration at its loop's head ===== -/
def s_c0 (fa : sFa) : sC := (20, a_mL, 23, [some [.inl (.ref 0)], some [.inl (.ref 2)], some [.inl (.ref 155)], some [.inl (.ref 197)], some [.inl (.int 0)], none, none, none], [], [], (196, []), fa, 196, 6613)
def s_opf (n : Int) : sFa := ([([.inr (.inl 0), .inl (.int 63), .inr (.inr (.inl .iand))], n, n)], [])
def s_P : List aM := a_Z.map (fun q => q.1)
/-- the same with bounds of other ints of the script -/
def s_opl (n : Int) (l : List (Nat × Int × Int)) : sFa := (([.inr (.inl 0), .inl (.int 63), .inr (.inr (.inl .iand))], n, n) :: l.map (fun q => ([.inr (.inl q.1)], q.2.1, q.2.2)), [])
end PT08b
