/-! ===== one step on such values ===== -/
/-- a copy of nothing -/
def s_cp0 (st : List sV) (h : sH) : Option (List sV × sH) := match st with
  | [.inl (.int n)] :: [.inl (.int dp)] :: [.inl (.ref (d + 2))] :: [.inl (.int sp)] :: [.inl (.ref (o + 2))] :: [] => match s_hget h o, s_hget h d with
    | some (.inl a), some (.inl b) => if n = 0 ∧ dp = 0 ∧ sp = 0 ∧ a.1 = 0 ∧ b.1 = 0 then some ([], h) else none
    | _, _ => none
  | _ => none
theorem s_cp0_cpy (f g : List Int32) : a_cpy f g 0 0 0 = g := by
  unfold a_cpy
  apply List.ext_getElem?
  intro i
  rw [List.getElem?_map]
  by_cases h : i < g.length
  · rw [List.getElem?_range h, Option.map_some, if_neg (by omega), List.getD_eq_getElem?_getD, List.getElem?_eq_getElem h]; rfl
  · rw [List.getElem?_eq_none (by rw [List.length_range]; omega), List.getElem?_eq_none (by omega)]; rfl
theorem s_set_same {α : Type} {l : List α} {d : Nat} {x : α} (h : l[d]? = some x) : l.set d x = l := by
  apply List.ext_getElem?
  intro i
  rw [List.getElem?_set]
  by_cases e : d = i
  · subst e
    rw [if_pos rfl, h, if_pos (List.getElem?_eq_some_iff.mp h).1]
  · rw [if_neg e]
theorem s_cp0_ok {E : Nat → Int32} {F : sF} {st st' : List sV} {h h' : sH} (q : s_cp0 st h = some (st', h')) : (if a_wd ((s_est E F st).drop 5) ≤ 8 then a_copy (s_est E F st) (s_eH E F h) else none) = some (s_est E F st', s_eH E F h', 0, 0) := by
  unfold s_cp0 at q
  split at q
  · rename_i n dp d sp o
    split at q
    · rename_i a b ha hb
      split at q
      · rename_i hc
        obtain ⟨rfl, rfl, rfl, h1, h2⟩ := hc
        cases q
        have ea : (s_eH E F h)[o]? = some (.inl (0, .inl ((List.range a.2.1).map (fun j => s_toI (s_ev E F (s_at a j)))))) := by
          rw [s_eH_get, ha]
          show some (s_eE E F (.inl a)) = _
          unfold s_eE
          dsimp only
          rw [s_eA_int (by omega) (by omega), h1]
        have eb : (s_eH E F h)[d]? = some (.inl (0, .inl ((List.range b.2.1).map (fun j => s_toI (s_ev E F (s_at b j)))))) := by
          rw [s_eH_get, hb]
          show some (s_eE E F (.inl b)) = _
          unfold s_eE
          dsimp only
          rw [s_eA_int (by omega) (by omega), h2]
        show (if a_wd [] ≤ 8 then a_copy (.int 0 :: .int 0 :: .ref (d + 2) :: .int 0 :: .ref (o + 2) :: []) (s_eH E F h) else none) = _
        rw [if_pos (by decide)]
        unfold a_copy
        dsimp only
        rw [ea, eb]
        dsimp only
        rw [if_pos ⟨rfl, Or.inl rfl⟩, if_neg (by
          have e0 : Int32.toNatClampNeg 0 = 0 := rfl
          rw [e0]
          rintro (w | w | w | w | w)
          · exact absurd w (by decide)
          · exact absurd w (by decide)
          · exact absurd w (by decide)
          · exact absurd w (Nat.not_lt_zero _)
          · exact absurd w (Nat.not_lt_zero _)), if_pos (Or.inl rfl)]
        have e0 : Int32.toNatClampNeg 0 = 0 := rfl
        rw [e0, s_cp0_cpy, s_set_same eb]; rfl
      · cases q
    · cases q
  · cases q
def s_hp (fa : sFa) (i : Instr) (k : aK) (st : List sV) (h : sH) : Option (List sV × sH) := match i with
  | .getfield _ => s_get k st h
  | .putfield _ => s_putf fa k st h
  | .iaload => match st with
    | [.inl (.int j)] :: [.inl (.ref 0)] :: r => if j < 0 ∨ 6 ≤ j.toNatClampNeg then none else some ([.inr (.inl j.toNatClampNeg)] :: r, h)
    | _ => s_ald fa 0 1 st h
  | .baload => s_ald fa 2 1 st h
  | .caload => s_ald fa 3 1 st h
  | .laload => s_ald fa 1 2 st h
  | .aaload => match s_ald fa 4 3 st h with
    | some q => some q
    | none => match s_ald fa 5 3 st h with
      | some q => some q
      | none => s_ald fa 6 3 st h
  | .iastore => s_ast fa 0 st h
  | .bastore => s_ast fa 2 st h
  | .castore => s_ast fa 3 st h
  | .lastore => s_ast fa 1 st h
  | .invokestatic _ => if k.1 = 10 then s_cp0 st h else none
  | .arraylength => match st with
    | [.inl (.ref 0)] :: r => some ([.inl (.int (Int32.ofNat 6))] :: r, h)
    | _ => none
  | _ => none
def s_jmp (fa : sFa) (i : Instr) (k : aK) (pc : Nat) (st : List sV) : Option (Nat × List sV) := match i with
  | .goto _ => some (k.2.1, st)
  | .tableswitch d lo hi offs => match st with
    | e :: r => if s_ty e = 1 then
      (if (s_itv fa e).2 < lo ∨ hi < (s_itv fa e).1 then (a_tgt pc d).map (fun t => (t, r)) else
        if (s_itv fa e).1 = (s_itv fa e).2 then match offs[((s_itv fa e).1 - lo).toNat]? with
        | some o => (a_tgt pc o).map (fun t => (t, r))
        | none => none
        else none) else none
    | _ => none
  | _ => none
def s_one (fa : sFa) (i : Instr) (len : Nat) (k : aK) (pc : Nat) (ls : sL) (st : List sV) (h : sH) : Option (Nat × sL × List sV × sH) :=
  match s_stk i k st with
  | some st' => some (pc + len, ls, st', h)
  | none => match s_loc i ls st with
    | some (ls', st') => some (pc + len, ls', st', h)
    | none => match s_jmp fa i k pc st with
      | some (pc', st') => some (pc', ls, st', h)
      | none => match s_hp fa i k st h with
        | some (st', h') => some (pc + len, ls, st', h')
        | none => none
section SST
variable {E : Nat → Int32} {F : sF}
theorem s_jmp_ok (hF : s_Fok F) {fa : sFa} (hs : s_sat E F fa) {i : Instr} {k : aK} {pc pc' : Nat} {ls : aL} {st st' : List sV} (q : s_jmp fa i k pc st = some (pc', st')) : a_stk i k (s_est E F st) = none ∧ a_loc i ls (s_est E F st) = none ∧ a_br i k pc (s_est E F st) = some (pc', s_est E F st') := by
  unfold s_jmp at q
  split at q
  · cases q
    exact ⟨rfl, rfl, rfl⟩
  · rename_i d lo hi offs
    refine ⟨rfl, rfl, ?_⟩
    split at q
    · rename_i e r
      split at q
      · rename_i hc
        obtain ⟨z, hz⟩ := s_ty1 (E := E) hF hc
        have hi' := s_itv_ok hs hz
        show (match s_est E F (e :: r) with
          | .int x :: r => if x.toInt < lo ∨ hi < x.toInt then (a_tgt pc d).map (fun t => (t, r)) else
            match offs[(x.toInt - lo).toNat]? with
            | some o => (a_tgt pc o).map (fun t => (t, r))
            | none => none
          | _ => none) = _
        simp only [s_est, List.map_cons, hz]
        split at q
        · rename_i hb
          rw [if_pos (by omega)]
          cases ht : a_tgt pc d with
          | none => rw [ht] at q; cases q
          | some t => rw [ht] at q; cases q; rfl
        · rename_i hb
          split at q
          · rename_i hone
            have hzz : z.toInt = (s_itv fa e).1 := by omega
            rw [hzz, if_neg (by omega)]
            split at q
            · rename_i o ho
              cases ht : a_tgt pc o with
              | none => rw [ht] at q; cases q
              | some t => rw [ht] at q; cases q; rfl
            · cases q
          · cases q
      · cases q
    · cases q
  · cases q
theorem s_hp_ok (hF : s_Fok F) {fa : sFa} (hs : s_sat E F fa) {i : Instr} {k : aK} {pc len : Nat} {ls : aL} {st st' : List sV} {h h' : sH} (q : s_hp fa i k st h = some (st', h')) : a_op (some (6, E)) i len k pc ls (s_est E F st) (s_eH E F h) = some (pc + len, ls, s_est E F st', s_eH E F h', 0, 0) := by
  have key : ∀ {x : Option aR}, x = some (s_est E F st', s_eH E F h', 0, 0) → (match x with
        | some (st', h', c, s) => some (pc + len, ls, st', h', c, s)
        | none => match a_scr (some (6, E)) i (s_est E F st) with
          | some st' => some (pc + len, ls, st', s_eH E F h, 0, 0)
          | none => none) = some (pc + len, ls, s_est E F st', s_eH E F h', 0, 0) := fun e => by rw [e]
  unfold s_hp at q
  split at q
  · exact key (s_get_ok q)
  · exact key (s_putf_ok hF hs q)
  · split at q
    · rename_i j r
      split at q
      · cases q
      · rename_i hj
        cases q
        show (match a_scr (some (6, E)) .iaload (.int j :: .ref 0 :: s_est E F r) with
          | some st' => some (pc + len, ls, st', s_eH E F h, 0, 0)
          | none => none) = _
        simp only [a_scr, hj, if_false]
        rfl
    · exact key (s_ald_ok hF hs (Or.inl rfl) q)
  · exact key (s_ald_ok hF hs (Or.inr (Or.inl rfl)) q)
  · exact key (s_ald_ok hF hs (Or.inr (Or.inr rfl)) q)
  · exact key (s_lald_ok hF hs q)
  · split at q
    · rename_i q1
      cases q
      exact key (s_aald_ok hF hs (by decide) q1)
    · split at q
      · rename_i q1
        cases q
        exact key (s_aald_ok hF hs (by decide) q1)
      · exact key (s_aald_ok hF hs (by decide) q)
  · exact key (s_ast_ok hF hs (Or.inl rfl) q)
  · exact key (s_ast_ok hF hs (Or.inr (Or.inl rfl)) q)
  · exact key (s_ast_ok hF hs (Or.inr (Or.inr rfl)) q)
  · exact key (s_last_ok hF q)
  · split at q
    · rename_i hk
      have key2 := key (s_cp0_ok (E := E) (F := F) q)
      unfold a_op
      simp only [a_stk, a_loc, a_br, a_hp, hk, if_true]
      exact key2
    · cases q
  · split at q
    · rename_i r
      cases q
      rfl
    · cases q
  · cases q
theorem s_one_ok (hF : s_Fok F) {fa : sFa} (hs : s_sat E F fa) {i : Instr} {len : Nat} {k : aK} {pc pc' : Nat} {ls ls' : sL} {st st' : List sV} {h h' : sH} (q : s_one fa i len k pc ls st h = some (pc', ls', st', h')) :
    a_op (some (6, E)) i len k pc (s_els E F ls) (s_est E F st) (s_eH E F h) = some (pc', s_els E F ls', s_est E F st', s_eH E F h', 0, 0) := by
  unfold s_one at q
  split at q
  · rename_i st2 h1
    cases q
    unfold a_op
    rw [s_stk_ok hF h1]
  · split at q
    · rename_i ls2 st2 h1
      cases q
      obtain ⟨e1, e2⟩ := s_loc_ok (k := k) hF h1 (E := E)
      unfold a_op
      rw [e1]; dsimp only; rw [e2]
    · split at q
      · rename_i pc2 st2 h1
        cases q
        obtain ⟨e1, e2, e3⟩ := s_jmp_ok (ls := s_els E F ls) hF hs h1
        unfold a_op
        rw [e1]; dsimp only; rw [e2]; dsimp only; rw [e3]
      · split at q
        · rename_i st2 h2 h1
          cases q
          exact s_hp_ok hF hs h1
        · cases q
/-- a long that is an int -/
def s_lng (p : sV) : Option sV := match p with
  | [.inl (.long n)] => if n.toInt32.toInt64 = n then some [.inl (.int n.toInt32)] else none
  | _ => if p.getLast? = some (.inr (.inr (.inl .i2l))) then (if s_ty p.dropLast = 1 then some p.dropLast else none) else none
theorem s_lng_ok (hF : s_Fok F) {p a : sV} (h : s_lng p = some a) : s_ty p ≠ 0 ∧ ∃ z, s_ev E F a = .int z ∧ s_ev E F p = .long z.toInt64 := by
  unfold s_lng at h
  split at h
  · rename_i n
    split at h
    · rename_i hn
      cases h
      exact ⟨by show (2 : Nat) ≠ 0; decide, n.toInt32, rfl, by rw [hn]; rfl⟩
    · cases h
  · split at h
    · rename_i hl
      split at h
      · rename_i ht
        cases h
        obtain ⟨q, hq⟩ := List.getLast?_eq_some_iff.mp hl
        have e1 : p.dropLast = q := by rw [hq]; exact List.dropLast_concat
        rw [e1] at ht ⊢
        obtain ⟨z, hz⟩ := s_ty1 (E := E) hF ht
        refine ⟨?_, z, hz, ?_⟩
        · rw [hq]
          have h0 : s_tr [] q = some [s_tn q] := by
            unfold s_ty s_tn at ht
            unfold s_tn
            split at ht
            · rename_i w hw; exact hw
            · exact absurd ht (by decide)
          have h1 : ∀ (l : sV) (ts ts' : List (Nat × Bool)) (t : sT), s_tr ts l = some ts' → s_tr ts (l ++ [t]) = s_tr ts' [t] := by
            intro l
            induction l with
            | nil => intro ts ts' t h; cases h; rfl
            | cons u l ih =>
              intro ts ts' t h
              rw [List.cons_append]
              have e2 : s_tr ts (u :: (l ++ [t])) = (match s_tt ts u with
                | some ts' => s_tr ts' (l ++ [t])
                | none => none) := rfl
              rw [e2]
              unfold s_tr at h
              split at h
              · rename_i ts1 hu
                rw [hu]
                exact ih _ _ _ h
              · cases h
          have h2 : s_tr [] (q ++ [.inr (.inr (.inl .i2l))]) = some [(2, false)] := by
            rw [h1 q [] _ _ h0]
            unfold s_ty at ht
            show (match s_tt [s_tn q] (.inr (.inr (.inl .i2l))) with
              | some ts' => s_tr ts' []
              | none => none) = _
            show some [(s_u .i2l (s_tn q).1, false)] = _
            rw [ht]; rfl
          unfold s_ty s_tn
          rw [h2]
          decide
        · rw [hq]
          have := s_uu_ev (E := E) (i := .i2l) hF (a := q) (by rw [ht]; decide) rfl
          unfold s_uu at this
          rw [this, hz]; rfl
      · cases h
    · cases h
/-- a long comparison of ints -/
def s_lcs (a : sV) : Nat → Option (sV × sV)
  | 0 => none
  | k + 1 => match s_lng (a.take k), s_lng ((a.drop k).dropLast) with
    | some p, some q => if a = s_bb .lcmp (a.take k) ((a.drop k).dropLast) then some (p, q) else s_lcs a k
    | _, _ => s_lcs a k
def s_lc (a : sV) : Option (sV × sV) := if a.getLast? = some (.inr (.inr (.inl .lcmp))) then s_lcs a a.length else none
theorem s_lcs_ok (hF : s_Fok F) {a p q : sV} : ∀ {n : Nat}, s_lcs a n = some (p, q) → ∃ x y, s_ev E F p = .int x ∧ s_ev E F q = .int y ∧ s_ev E F a = .int (lg_cmp x.toInt64 y.toInt64)
  | 0, h => by cases h
  | k + 1, h => by
    unfold s_lcs at h
    split at h
    · rename_i p' q' h1 h2
      split at h
      · rename_i ha
        cases h
        obtain ⟨t1, x, hx, hx'⟩ := s_lng_ok (E := E) hF h1
        obtain ⟨t2, y, hy, hy'⟩ := s_lng_ok (E := E) hF h2
        refine ⟨x, y, hx, hy, ?_⟩
        rw [ha, s_bb_ev hF t1 t2 rfl, hx', hy']; rfl
      · exact s_lcs_ok hF h
    · exact s_lcs_ok hF h
theorem s_lc_ok (hF : s_Fok F) {a p q : sV} (h : s_lc a = some (p, q)) : ∃ x y, s_ev E F p = .int x ∧ s_ev E F q = .int y ∧ s_ev E F a = .int (lg_cmp x.toInt64 y.toInt64) := by
  unfold s_lc at h
  split at h
  · exact s_lcs_ok hF h
  · cases h
theorem s_lgc (c : ClassFile.Cond) (x y : Int32) : a_cnd c (lg_cmp x.toInt64 y.toInt64) 0 = a_cnd c x y := by
  have hl : ∀ u v : Int32, u.toInt64 < v.toInt64 ↔ u < v := fun u v => by rw [Int64.lt_iff_toInt_lt, Int32.lt_iff_toInt_lt, Int32.toInt_toInt64, Int32.toInt_toInt64]
  have hle : ∀ u v : Int32, u.toInt64 ≤ v.toInt64 ↔ u ≤ v := fun u v => by rw [Int64.le_iff_toInt_le, Int32.le_iff_toInt_le, Int32.toInt_toInt64, Int32.toInt_toInt64]
  have he : ∀ u v : Int32, u.toInt64 = v.toInt64 ↔ u = v := fun u v => by rw [← Int64.toInt_inj, ← Int32.toInt_inj, Int32.toInt_toInt64, Int32.toInt_toInt64]
  cases c <;> simp only [a_cnd, lg_cmp_ge, lg_cmp_le, lg_cmp_gt, lg_cmp_lt, lg_cmp_eq, hl, hle, he]
/-- a test with two ways -/
def s_tst (i : Instr) (st : List sV) : Option (ClassFile.Cond × sV × sV × List sV) := match i with
  | .ifCond c _ => match st with
    | a :: r => if s_ty a = 1 then (match s_lc a with
      | some (p, q) => some (c, p, q, r)
      | none => some (c, a, [.inl (.int 0)], r)) else none
    | _ => none
  | .if_icmp c _ => match st with
    | b :: a :: r => if s_ty a = 1 ∧ s_ty b = 1 then some (c, a, b, r) else none
    | _ => none
  | _ => none
theorem s_tst_ok (hF : s_Fok F) {i : Instr} {len : Nat} {k : aK} {pc : Nat} {ls : aL} {st r : List sV} {h : aH} {c : ClassFile.Cond} {a b : sV} {X : aX} (q : s_tst i st = some (c, a, b, r)) :
    ∃ x y, s_ev E F a = .int x ∧ s_ev E F b = .int y ∧ a_op X i len k pc ls (s_est E F st) h = some (if a_cnd c x y then k.2.1 else pc + 3, ls, s_est E F r, h, 0, 0) := by
  unfold s_tst at q
  split at q
  · split at q
    · rename_i a r
      split at q
      · rename_i ht
        split at q
        · rename_i p' q' hl
          cases q
          obtain ⟨x, y, hx, hy, ha⟩ := s_lc_ok (E := E) hF hl
          refine ⟨x, y, hx, hy, ?_⟩
          rw [← s_lgc]
          simp only [s_est, List.map_cons, ha]
          rfl
        · cases q
          obtain ⟨x, hx⟩ := s_ty1 (E := E) hF ht
          refine ⟨x, 0, hx, rfl, ?_⟩
          simp only [s_est, List.map_cons, hx]
          rfl
      · cases q
    · cases q
  · split at q
    · rename_i b a r
      split at q
      · rename_i ht
        cases q
        obtain ⟨x, hx⟩ := s_ty1 (E := E) hF ht.1
        obtain ⟨y, hy⟩ := s_ty1 (E := E) hF ht.2
        refine ⟨x, y, hx, hy, ?_⟩
        simp only [s_est, List.map_cons, hx, hy]
        rfl
      · cases q
    · cases q
  · cases q
/-- a way that is open: neither of both has lost its last value -/
def s_live (a b : sV) (q : Nat × sFa) : Bool := decide ((s_itv q.2 a).1 ≤ (s_itv q.2 a).2) && decide ((s_itv q.2 b).1 ≤ (s_itv q.2 b).2)
theorem s_live_ok {a b : sV} {x y : Int32} (ha : s_ev E F a = .int x) (hb : s_ev E F b = .int y) {q : Nat × sFa} (hs : s_sat E F q.2) : s_live a b q = true := by
  have h1 := s_itv_ok hs ha
  have h2 := s_itv_ok hs hb
  unfold s_live
  simp only [Bool.and_eq_true, decide_eq_true_eq]
  omega
/-- the ways of a test, with what each tells -/
def s_ways (fa : sFa) (c : ClassFile.Cond) (a b : sV) (yes no : Nat) : List (Nat × sFa) := match s_nrm c a b with
  | (lt, a', b', neg) => match s_dec fa lt a' b' with
    | some z => [(if z != neg then yes else no, fa)]
    | none => [(if neg then no else yes, s_add fa lt true a' b'), (if neg then yes else no, s_add fa lt false a' b')].filter (s_live a' b')
theorem s_nrm_ok {c : ClassFile.Cond} {a b a' b' : sV} {lt neg : Bool} {x y : Int32} (ha : s_ev E F a = .int x) (hb : s_ev E F b = .int y) (h : s_nrm c a b = (lt, a', b', neg)) : ∃ x' y', s_ev E F a' = .int x' ∧ s_ev E F b' = .int y' ∧ a_cnd c x y = (s_cmp lt x' y' != neg) := by
  cases c <;> cases h <;> first
    | (refine ⟨_, _, ha, hb, ?_⟩; simp [a_cnd, s_cmp]; done)
    | (refine ⟨_, _, hb, ha, ?_⟩; simp [a_cnd, s_cmp]; done)
    | (refine ⟨_, _, ha, hb, ?_⟩; simp only [a_cnd, s_cmp, if_true, Bool.bne_true]; rw [← decide_not]; exact decide_eq_decide.mpr (Int32.not_lt).symm)
    | (refine ⟨_, _, hb, ha, ?_⟩; simp only [a_cnd, s_cmp, if_true, Bool.bne_true]; rw [← decide_not]; exact decide_eq_decide.mpr (Int32.not_lt).symm)
theorem s_ways_ok {fa : sFa} (hs : s_sat E F fa) {c : ClassFile.Cond} {a b : sV} {yes no : Nat} {x y : Int32} (ha : s_ev E F a = .int x) (hb : s_ev E F b = .int y) : ∃ q ∈ s_ways fa c a b yes no, q.1 = (if a_cnd c x y then yes else no) ∧ s_sat E F q.2 := by
  unfold s_ways
  obtain ⟨⟨lt, a', b', neg⟩, hn⟩ : ∃ z, s_nrm c a b = z := ⟨_, rfl⟩
  rw [hn]
  obtain ⟨x', y', ha', hb', hc⟩ := s_nrm_ok ha hb hn
  rw [hc]
  dsimp only
  split
  · rename_i z hz
    refine ⟨_, List.mem_singleton.mpr rfl, ?_, hs⟩
    rw [s_dec_ok hs ha' hb' hz]
  · cases hz : s_cmp lt x' y' with
    | true =>
      refine ⟨_, List.mem_filter.mpr ⟨List.mem_cons_self, s_live_ok ha' hb' (s_add_ok hs ha' hb' hz)⟩, ?_, s_add_ok hs ha' hb' hz⟩
      cases neg <;> rfl
    | false =>
      refine ⟨_, List.mem_filter.mpr ⟨List.mem_cons_of_mem _ List.mem_cons_self, s_live_ok ha' hb' (s_add_ok hs ha' hb' hz)⟩, ?_, s_add_ok hs ha' hb' hz⟩
      cases neg <;> rfl
end SST
