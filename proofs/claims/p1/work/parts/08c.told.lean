/-! ===== what is told of methods ===== -/
def s_nz1 (x : Int64) : Int64 := if x = 0 then 1 else x
theorem s_nz1_ne (x : Int64) : s_nz1 x ≠ 0 := by
  unfold s_nz1
  split
  · decide
  · assumption
theorem s_nz1_of {x : Int64} (h : x ≠ 0) : s_nz1 x = x := if_neg h
def s_F : sF := fun j a b => if j = 0 then .int (s_mny (s_toI a) (s_toI b) 100001 (Int64.ofInt 1000000000) (Int32.ofInt 0)) else
  if j = 1 then .long (s_nz1 (s_gcd 200 (s_toL a) (s_toL b))) else .long (s_nz1 (s_gcd s_big (s_toL a) (s_abs (s_toL b))))
theorem s_F0 (a b : Value) : s_F 0 a b = .int (s_mny (s_toI a) (s_toI b) 100001 (Int64.ofInt 1000000000) (Int32.ofInt 0)) := if_pos rfl
theorem s_F1 (a b : Value) : s_F 1 a b = .long (s_nz1 (s_gcd 200 (s_toL a) (s_toL b))) := by
  unfold s_F; rw [if_neg (by decide), if_pos rfl]
theorem s_F2 (j : Nat) (a b : Value) : s_F (j + 2) a b = .long (s_nz1 (s_gcd s_big (s_toL a) (s_abs (s_toL b)))) := by
  unfold s_F; rw [if_neg (by omega), if_neg (by omega)]
theorem s_F_ok : s_Fok s_F := fun a b => ⟨⟨_, s_F0 a b⟩, fun j => by
  cases j with
  | zero => exact ⟨_, s_F1 a b, s_nz1_ne _⟩
  | succ j => exact ⟨_, s_F2 j a b, s_nz1_ne _⟩⟩
theorem s_ff_ev {E : Nat → Int32} {F : sF} (hF : s_Fok F) {j : Nat} {a b : sV} (ha : s_ty a ≠ 0) (hb : s_ty b ≠ 0) : s_ev E F (a ++ (b ++ [.inr (.inr (.inr j))])) = F j (s_ev E F a) (s_ev E F b) := by
  have e : s_rn E F (a ++ (b ++ [.inr (.inr (.inr j))])) [] = [F j (s_ev E F a) (s_ev E F b)] := by
    unfold s_rn
    rw [List.foldl_append, List.foldl_append]
    rw [show List.foldl (s_tk E F) [] a = _ from (s_tn_ok hF ha).2 []]
    rw [show List.foldl (s_tk E F) [s_ev E F a] b = _ from (s_tn_ok hF hb).2 _]
    simp only [List.foldl_cons, List.foldl_nil, s_tk]
  show (s_rn E F (a ++ (b ++ [.inr (.inr (.inr j))])) []).headD .null = _
  rw [e]; rfl
def s_fe (j : Nat) (a b : sV) : sV := a ++ (b ++ [.inr (.inr (.inr j))])
/-- the greatest common divisor, of an int of the script that is above 0 and a long -/
def s_sm (fa : sFa) (j : Nat) (as : List sV) : Option sV := if j = 41 ∨ j = 196 then (match as with
  | [[.inr (.inl i), .inr (.inr (.inl .i2l))], b] => if 0 < (s_itv fa [.inr (.inl i)]).1 ∧ s_ty b = 2 then some (s_fe (if j = 41 then 1 else 2) [.inr (.inl i), .inr (.inr (.inl .i2l))] b) else none
  | _ => none) else none
theorem s_sm_s {fa : sFa} {j : Nat} {as : List sV} {e : sV} (h : s_sm fa j as = some e) : ∃ (i : Nat) (b : sV), (j = 41 ∨ j = 196) ∧ as = [[.inr (.inl i), .inr (.inr (.inl .i2l))], b] ∧ 0 < (s_itv fa [.inr (.inl i)]).1 ∧ s_ty b = 2 ∧ e = s_fe (if j = 41 then 1 else 2) [.inr (.inl i), .inr (.inr (.inl .i2l))] b := by
  unfold s_sm at h
  split at h
  · rename_i hj
    split at h
    · rename_i i b
      split at h
      · rename_i hc
        cases h
        exact ⟨i, b, hj, rfl, hc.1, hc.2, rfl⟩
      · cases h
    · cases h
  · cases h
section STOLD
variable {E : Nat → Int32}
theorem s_sm_ev {i j : Nat} {b : sV} (hb : s_ty b = 2) : s_ev E s_F (s_fe j [.inr (.inl i), .inr (.inr (.inl .i2l))] b) = s_F j (.long (E i).toInt64) (s_ev E s_F b) := by
  unfold s_fe
  rw [s_ff_ev s_F_ok (by show (2 : Nat) ≠ 0; decide) (by rw [hb]; decide)]
  rfl
theorem s_P41 : s_P[41]? = some a_m41 := rfl
theorem s_P196 : s_P[196]? = some a_m196 := rfl
theorem s_sm_ok : s_smok s_P E s_F s_sm := by
  intro fa j as e M h hP hs d hp C S K hk
  obtain ⟨i, b, hj, rfl, h0, hb, rfl⟩ := s_sm_s h
  have hi := (s_itv_ok hs (e := [.inr (.inl i)]) (n := E i) rfl).1
  obtain ⟨y, hy⟩ := s_ty2 (E := E) s_F_ok hb
  have hx0 : (0 : Int) < ((E i).toInt64).toInt := by rw [Int32.toInt_toInt64]; omega
  have hne : (E i).toInt64 ≠ 0 := fun q => by rw [q] at hx0; exact absurd hx0 (by decide)
  have hge : (0 : Int64) ≤ (E i).toInt64 := Int64.le_iff_toInt_le.mpr (by
    have e0 : (0 : Int64).toInt = 0 := by decide
    rw [e0]; omega)
  have hst : s_est E s_F [[.inr (.inl i), .inr (.inr (.inl .i2l))], b] = [.long (E i).toInt64, .long y] := by
    show [s_ev E s_F [.inr (.inl i), .inr (.inr (.inl .i2l))], s_ev E s_F b] = _
    rw [hy]; rfl
  rw [s_sm_ev hb, hy] at hk
  rw [hst]
  rcases hj with rfl | rfl
  · rw [s_P41] at hP
    cases hP
    rw [if_pos rfl, s_F1] at hk
    rw [show s_nz1 (s_gcd 200 (s_toL (.long (E i).toInt64)) (s_toL (.long y))) = s_gcd 200 (E i).toInt64 y from s_nz1_of (s_gcd_ne _ _ _ hne)] at hk
    exact s_cd_ok (E i).toInt64 y hk
  · rw [s_P196] at hP
    cases hP
    rw [if_neg (by decide), s_F2 0] at hk
    rw [show s_nz1 (s_gcd s_big (s_toL (.long (E i).toInt64)) (s_abs (s_toL (.long y)))) = s_gcd s_big (E i).toInt64 (s_abs y) from s_nz1_of (s_gcd_ne _ _ _ hne)] at hk
    exact s_cm_ok (E i).toInt64 y hge hk
theorem s_sm_ty : s_smty s_sm s_F E := by
  intro fa j as e h n q
  obtain ⟨i, b, hj, rfl, h0, hb, rfl⟩ := s_sm_s h
  rw [s_sm_ev hb] at q
  rcases hj with rfl | rfl
  · rw [if_pos rfl, s_F1] at q; cases q
  · rw [if_neg (by decide), s_F2 0] at q; cases q
end STOLD
/-- the loops of many -/
def s_mvs (ls : sL) (st : List sV) : Option (Int64 × Int32) := match ls, st with
  | [some _, some [.inr (.inl 1)], some [.inr (.inl 2)], some [.inl (.long l)], none, some [.inl (.int k)]], [] => some (l, k)
  | _, _ => none
def s_keq (a b : aK) : Bool := decide (a = b)
def s_ieq (a b : aI) : Bool := decide (a.1 = b.1) && decide (a.2.1 = b.2.1) && s_keq a.2.2 b.2.2
def s_ceq : List (Nat × aI) → List (Nat × aI) → Bool
  | [], [] => true
  | a :: r, b :: t => decide (a.1 = b.1) && s_ieq a.2 b.2 && s_ceq r t
  | _, _ => false
theorem s_ceq_ok : ∀ {a b : List (Nat × aI)}, s_ceq a b = true → a = b
  | [], [], _ => rfl
  | a :: r, b :: t, h => by
    unfold s_ceq s_ieq s_keq at h
    simp only [Bool.and_eq_true, decide_eq_true_eq] at h
    obtain ⟨⟨h1, ⟨h2, h3⟩, h4⟩, h5⟩ := h
    rw [s_ceq_ok h5, show a = b from Prod.ext h1 (Prod.ext h2 (Prod.ext h3 h4))]
  | [], _ :: _, h => by cases h
  | _ :: _, [], h => by cases h
def s_isI (o : Option FieldType) : Bool := match o with
  | some .int => true
  | _ => false
theorem s_isI_ok {o : Option FieldType} (h : s_isI o = true) : o = some .int := by
  unfold s_isI at h
  split at h
  · rfl
  · cases h
def s_ct (c : sC) : Option (List sC) := match c with
  | (d, M, pc, ls, st, fs, h, fa, C, S) => if pc = 17 ∨ pc = 22 then (match s_mvs ls st with
    | some (l, k) => if l = Int64.ofInt 1000000000 ∧ k = Int32.ofInt 0 ∧ 0 < (s_itv fa [.inr (.inl 2)]).1 ∧ s_isI M.2.2.2.1 = true ∧ ((pc = 17 ∧ s_ceq M.2.2.2.2.2 a_c145 = true) ∨ (pc = 22 ∧ s_ceq M.2.2.2.2.2 a_c268 = true)) then s_back d fs (some (s_fe 0 [.inr (.inl 1)] [.inr (.inl 2)])) h fa C S else none
    | none => none) else none
theorem s_ct_ok {E : Nat → Int32} : s_ctok s_P E s_F s_ct := by
  intro c l q hl
  obtain ⟨d, M, pc, ls, st, fs, h, fa, C, S⟩ := c
  intro hs
  unfold s_ct at q
  dsimp only at q
  split at q
  · split at q
    · rename_i l0 k0 hmv
      split at q
      · rename_i hc
        obtain ⟨rfl, rfl, hb0, hR, hM⟩ := hc
        have hshape : ∃ t, ls = [some t, some [.inr (.inl 1)], some [.inr (.inl 2)], some [.inl (.long (Int64.ofInt 1000000000))], none, some [.inl (.int (Int32.ofInt 0))]] ∧ st = [] := by
          unfold s_mvs at hmv
          split at hmv
          · simp only [Option.some.injEq, Prod.mk.injEq] at hmv
            obtain ⟨e1, e2⟩ := hmv
            subst e1 e2
            exact ⟨_, rfl, rfl⟩
          · cases hmv
        obtain ⟨t, rfl, rfl⟩ := hshape
        have hev : s_ev E s_F (s_fe 0 [.inr (.inl 1)] [.inr (.inl 2)]) = .int (s_mny (E 1) (E 2) 100001 (Int64.ofInt 1000000000) (Int32.ofInt 0)) := by
          unfold s_fe
          rw [s_ff_ev s_F_ok (by show (1 : Nat) ≠ 0; decide) (by show (1 : Nat) ≠ 0; decide), s_F0]
          rfl
        have hb1 := (s_itv_ok hs (e := [.inr (.inl 2)]) (n := E 2) rfl).1
        have hx0 : (0 : Int) < ((E 2).toInt64).toInt := by rw [Int32.toInt_toInt64]; omega
        have hne : (E 2).toInt64 ≠ 0 := fun q => by rw [q] at hx0; exact absurd hx0 (by decide)
        have hk := s_back_ok (P := s_P) hs (fun n w => by rw [Option.map_some, hev] at w; cases w) q hl
        rw [Option.map_some, hev] at hk
        rcases hM with ⟨rfl, hM⟩ | ⟨rfl, hM⟩
        · exact s_mc_loop (s_ceq_ok hM) (s_isI_ok hR) (s_ev E s_F t) (E 1) (E 2) hne 100001 _ _ (by decide) (Nat.le_refl _) hk
        · exact s_mr_loop (s_ceq_ok hM) (s_isI_ok hR) (s_ev E s_F t) (E 1) (E 2) hne 100001 _ _ (by decide) (Nat.le_refl _) hk
      · cases q
    · cases q
  · cases q
