/-! ===== v3: the reference's lays, remembers, restores ===== -/
theorem y_cpyN {f g : List Int32} (hl : g.length = 80) {i : Nat} (hi : i < 80) : y_N (a_cpy f g 0 0 80) i = y_N f i := by
  unfold y_N a_cpy
  rw [List.getD_eq_getElem?_getD, List.getElem?_map, List.getElem?_range (by omega)]
  show (if 0 ≤ i ∧ i < 0 + 80 then f.getD (0 + (i - 0)) 0 else g.getD i 0).toInt = _
  rw [if_pos (by omega), show 0 + (i - 0) = i by omega]
theorem y_cpyM {f g : List Int32} (hf : f.length = 80) (hl : g.length = 80) {lo hi : Int} (h1 : ∀ x ∈ f, lo ≤ x.toInt ∧ x.toInt ≤ hi) : (a_cpy f g 0 0 80).length = 80 ∧ ∀ x ∈ a_cpy f g 0 0 80, lo ≤ x.toInt ∧ x.toInt ≤ hi := by
  unfold a_cpy
  refine ⟨by rw [List.length_map, List.length_range, hl], fun x hx => ?_⟩
  obtain ⟨j, hj, rfl⟩ := List.mem_map.mp hx
  have hj' := List.mem_range.mp hj
  rw [if_pos (by omega)]
  exact h1 _ (z_gd 0 (by omega))
section WG
variable {X : aX} {C S d : Nat} {K0 : Option Value → aH → Nat → Nat → Prop}
theorem y_lays {h : aH} (hr : w_hr z_D h) (hJ : y_J h) {kI bI : Int32} (k0 : 0 ≤ kI.toInt) (k6 : kI.toInt < 6) (hk : ∀ (H : aH), y_fr h H [] [158] → y_J H → K0 none H C S) : aOK s_P X d a_m252 0 [some (.ref 155), some (.int kI), some (.int bI)] [] h C S K0 := by
  have hJ' := hJ
  obtain ⟨q1, q2, q3, q4, q5, q6, q7⟩ := hJ'
  obtain ⟨nd, le, de, ta, n1, n2, n3, n4, c1, c2, c3, c4, c5⟩ := id q1
  obtain ⟨de', to, kt, sn, sl, sh, o1, o2, o3, o4, o5, o6, o7, o8, o9⟩ := id q3
  obtain rfl := y_ai n3 o1
  obtain ⟨k, hkk⟩ : ∃ k : Nat, kI.toInt = k := ⟨kI.toInt.toNat, by omega⟩
  have kc := y_cl1 hkk
  have bk : 0 ≤ kI.toInt ∧ kI.toInt < ((6 : Nat) : Int) := by omega
  have ck : kI.toNatClampNeg < 6 := by omega
  refine w_go z_hl [] [] 60 hr ?_
  refine ⟨bk, fun l1 hl1 len1 bb1 => ⟨bk, fun l2 hl2 len2 bb2 => ?_⟩⟩
  obtain rfl := y_ai o4 hl1
  have m1 := bb1 _ (z_gd (0 : Int32) (Nat.lt_of_lt_of_eq ck len1.symm))
  have m2 := bb2 _ (z_gd (0 : Int32) (Nat.lt_of_lt_of_eq ck len2.symm))
  rw [kc] at m1 m2
  obtain ⟨a, ha⟩ : ∃ a : Nat, (sn.getD k 0).toInt = a := ⟨(sn.getD k 0).toInt.toNat, by omega⟩
  obtain ⟨b, hb⟩ : ∃ b : Nat, (l2.getD k 0).toInt = b := ⟨(l2.getD k 0).toInt.toNat, by omega⟩
  have ea : y_Nn sn k = a := by unfold y_Nn; omega
  have ia : ((Int8.ofInt 8).toInt32 * sn.getD kI.toNatClampNeg 0 + l2.getD kI.toNatClampNeg 0).toInt = ((8 * a + b : Nat) : Int) := by
    rw [kc]
    exact y_i8 ha hb (by omega) (by omega)
  have ci := y_cl1 ia
  have bi : 0 ≤ ((Int8.ofInt 8).toInt32 * sn.getD kI.toNatClampNeg 0 + l2.getD kI.toNatClampNeg 0).toInt ∧ ((Int8.ofInt 8).toInt32 * sn.getD kI.toNatClampNeg 0 + l2.getD kI.toNatClampNeg 0).toInt < ((80 : Nat) : Int) := by
    rw [ia]
    have := m2.2
    omega
  have o9k := o9 k (by omega)
  rw [ea] at o9k
  have fin : ∀ {H : aH} {x : Int32}, y_fr h H [] [158] → w_a H 158 = some (0, .inl (ta.set ((Int8.ofInt 8).toInt32 * sn.getD kI.toNatClampNeg 0 + l2.getD kI.toNatClampNeg 0).toNatClampNeg x)) → x.toInt ≤ y_N de a → ta.length = 80 → K0 none H C S := by
    intro H x e A hx hlen
    refine hk H e ⟨⟨nd, le, de, _, (y_fe e rfl).trans n1, (y_ae e rfl).trans n2, (y_ae e rfl).trans n3, A, c1, fun i hi => ?_, c3, c4, c5⟩, j_dp_e (y_fe e rfl) (y_fe e rfl) (y_ae e rfl) q2, j_old_e (y_ae e rfl) (y_ae e rfl) (y_ae e rfl) (y_ae e rfl) (y_ae e rfl) (y_ae e rfl) q3, j_w_e (y_fe e rfl) (y_ae e rfl) q4, j_seen_e (y_fe e rfl) (y_fe e rfl) (y_ae e rfl) (y_ae e rfl) q5, j_kept_e (y_fe e rfl) (y_ae e rfl) (y_ae e rfl) (y_ae e rfl) (y_ae e rfl) q6, j_land_e (y_fe e rfl) (y_ae e rfl) q7⟩
    have m22 : (l2.getD k 0).toInt ≤ 7 := m2.2
    rw [ci, y_Nset (by omega)]
    split
    · rename_i ei
      subst ei
      rw [show (8 * a + b) / 8 = a by omega]
      exact hx
    · exact c2 i hi
  refine ⟨fun _ => ?_, fun _ => ?_⟩
  · refine ⟨bk, fun l3 hl3 len3 bb3 => ⟨bi, bb3 _ (z_gd (0 : Int32) (Nat.lt_of_lt_of_eq ck len3.symm)), fun l4 hl4 len4 bb4 => ?_⟩⟩
    obtain rfl := y_ai o5 hl3
    obtain rfl := y_ai n4 hl4
    intro H hH
    refine fin (y_st (y_mo (y_rf hr) rfl rfl) hH (by repeat (first | exact w_nil | refine w_cons (Or.inl (y_m rfl)) ?_ | refine w_cons (Or.inr (by assumption)) ?_)) (by repeat (first | exact w_nil | refine w_cons (Or.inl (y_m rfl)) ?_ | refine w_cons (Or.inr (by assumption)) ?_))) (hH.2.2.1 158 _ rfl) ?_ len4
    rw [kc]
    exact o9k.1
  · refine ⟨bk, fun l3 hl3 len3 bb3 => ⟨bi, bb3 _ (z_gd (0 : Int32) (Nat.lt_of_lt_of_eq ck len3.symm)), fun l4 hl4 len4 bb4 => ?_⟩⟩
    obtain rfl := y_ai o6 hl3
    obtain rfl := y_ai n4 hl4
    intro H hH
    refine fin (y_st (y_mo (y_rf hr) rfl rfl) hH (by repeat (first | exact w_nil | refine w_cons (Or.inl (y_m rfl)) ?_ | refine w_cons (Or.inr (by assumption)) ?_)) (by repeat (first | exact w_nil | refine w_cons (Or.inl (y_m rfl)) ?_ | refine w_cons (Or.inr (by assumption)) ?_))) (hH.2.2.1 158 _ rfl) ?_ len4
    rw [kc]
    exact o9k.2
theorem y_len80 {h : aH} {M : aM} {o pc len nx : Nat} {k : aK} {ls : aL} {r : List Value} {f : List Int32} (hl : M.2.2.2.2.2.lookup pc = some (.arraylength, len, k)) (hH : h[o]? = some (.inl (0, .inl f))) (hf : f.length = 80) (hp : pc + len = nx) (hk : aOK s_P X d M nx ls (.int (Int32.ofNat 80) :: r) h C S K0) : aOK s_P X d M pc ls (.ref (o + 2) :: r) h C S K0 := by
  refine aOK_op0 (pc' := nx) (ls' := ls) (st' := .int (Int32.ofNat 80) :: r) hl ?_ hk
  have e : a_hp .arraylength k (.ref (o + 2) :: r) h = some (.int (Int32.ofNat 80) :: r, h, 0, 0) := by
    show a_len (.ref (o + 2) :: r) h = _
    unfold a_len
    dsimp only
    rw [hH]
    dsimp only
    rw [hf, if_pos (by decide)]
  show (match a_hp .arraylength k (.ref (o + 2) :: r) h with
    | some (st', h', c, s) => some (pc + len, ls, st', h', c, s)
    | none => _) = _
  rw [e, hp]
theorem y_copy80 {h : aH} {M : aM} {o q pc len nx idx : Nat} {k : aK} {ls : aL} {f g : List Int32} (hl : M.2.2.2.2.2.lookup pc = some (.invokestatic idx, len, k)) (hk10 : k.1 = 10) (hH : h[o]? = some (.inl (0, .inl f))) (hf : f.length = 80) (hG : h[q]? = some (.inl (0, .inl g))) (hg : g.length = 80) (hp : pc + len = nx) (hk : aOK s_P X d M nx ls [] (h.set q (.inl (0, .inl (a_cpy f g 0 0 80)))) C S K0) : aOK s_P X d M pc ls [.int (Int32.ofNat 80), .int (Int32.ofInt 0), .ref (q + 2), .int (Int32.ofInt 0), .ref (o + 2)] h C S K0 := by
  refine aOK_op (pc' := nx) (ls' := ls) (st' := []) (h' := h.set q (.inl (0, .inl (a_cpy f g 0 0 80)))) (c := 0) (s := 0) hl ?_ hk
  have e : a_hp (.invokestatic idx) k [.int (Int32.ofNat 80), .int (Int32.ofInt 0), .ref (q + 2), .int (Int32.ofInt 0), .ref (o + 2)] h = some ([], h.set q (.inl (0, .inl (a_cpy f g 0 0 80))), 0, 0) := by
    unfold a_hp
    dsimp only
    rw [if_pos hk10, if_pos (show a_wd (List.drop 5 [.int (Int32.ofNat 80), .int (Int32.ofInt 0), .ref (q + 2), .int (Int32.ofInt 0), .ref (o + 2)]) ≤ 8 from Nat.zero_le 8)]
    unfold a_copy
    dsimp only
    rw [hH, hG]
    dsimp only
    rw [if_pos (by decide)]
    rw [show (Int32.ofInt 0).toNatClampNeg = 0 by decide, show (Int32.ofNat 80).toNatClampNeg = 80 by decide, hf, hg, if_neg (by decide), if_pos (Or.inl rfl)]
  show (match a_hp (.invokestatic idx) k [.int (Int32.ofNat 80), .int (Int32.ofInt 0), .ref (q + 2), .int (Int32.ofInt 0), .ref (o + 2)] h with
    | some (st', h', c, s) => some (pc + len, ls, st', h', c, s)
    | none => _) = _
  rw [e, hp]
theorem y_remembers {h : aH} (hr : w_hr z_D h) (hJ : y_J h) (hk : ∀ (H : aH), y_fr h H [] [176] → y_J H → K0 none H C S) : aOK s_P X d a_m251 0 [some (.ref 155)] [] h C S K0 := by
  have hJ' := hJ
  obtain ⟨q1, q2, q3, q4, q5, q6, q7⟩ := hJ'
  obtain ⟨nd, le, de, ta, n1, n2, n3, n4, c1, c2, c3, c4, c5⟩ := id q1
  obtain ⟨de', to, kt, sn, sl, sh, o1, o2, o3, o4, o5, o6, o7, o8, o9⟩ := id q3
  obtain rfl := y_ai n3 o1
  refine w_go z_hl [14] [] 60 hr ?_
  intro H hH
  have e : y_fr h H [] [] := y_st (y_rf hr) hH (by repeat (first | exact w_nil | refine w_cons (Or.inl (y_m rfl)) ?_ | refine w_cons (Or.inr (by assumption)) ?_)) (by repeat (first | exact w_nil | refine w_cons (Or.inl (y_m rfl)) ?_ | refine w_cons (Or.inr (by assumption)) ?_))
  obtain ⟨f, z1, z2, z3⟩ := w_arrI e.1 (o := 158) (t := 0) (n := 80) (lo := 0) (hi := 10000000) (by decide) rfl
  obtain ⟨g, z4, z5, z6⟩ := w_arrI e.1 (o := 176) (t := 0) (n := 80) (lo := 0) (hi := 10000000) (by decide) rfl
  obtain rfl := y_ai ((y_ae e rfl).trans n4) (w_a_at z1)
  refine y_len80 (nx := 15) rfl z1 z2 rfl ?_
  refine y_copy80 (nx := 18) rfl rfl z1 z2 z4 z5 rfl ?_
  have hm := y_cpyM z2 z5 z3
  have rel : w_rel z_D H [] [(176, (0, .inl (a_cpy ta g 0 0 80)))] (H.set 176 (.inl (0, .inl (a_cpy ta g 0 0 80)))) := w_rel_arr (w_rel0 e.1) (a := (0, 80, 0, 10000000)) rfl z4 ⟨by decide, _, rfl, hm.1, hm.2⟩
  refine w_go z_hl [] [] 60 rel.1 ?_
  intro H2 h2
  have e1 : y_fr h (H.set 176 (.inl (0, .inl (a_cpy ta g 0 0 80)))) [] [176] := y_st (y_mo e rfl rfl) rel (by repeat (first | exact w_nil | refine w_cons (Or.inl (y_m rfl)) ?_ | refine w_cons (Or.inr (by assumption)) ?_)) (by repeat (first | exact w_nil | refine w_cons (Or.inl (y_m rfl)) ?_ | refine w_cons (Or.inr (by assumption)) ?_))
  have e2 : y_fr h H2 [] [176] := y_st e1 h2 (by repeat (first | exact w_nil | refine w_cons (Or.inl (y_m rfl)) ?_ | refine w_cons (Or.inr (by assumption)) ?_)) (by repeat (first | exact w_nil | refine w_cons (Or.inl (y_m rfl)) ?_ | refine w_cons (Or.inr (by assumption)) ?_))
  have e3 : y_fr (H.set 176 (.inl (0, .inl (a_cpy ta g 0 0 80)))) H2 [] [] := y_st (y_rf rel.1) h2 (by repeat (first | exact w_nil | refine w_cons (Or.inl (y_m rfl)) ?_ | refine w_cons (Or.inr (by assumption)) ?_)) (by repeat (first | exact w_nil | refine w_cons (Or.inl (y_m rfl)) ?_ | refine w_cons (Or.inr (by assumption)) ?_))
  refine hk H2 e2 ⟨j_net_e (y_fe e2 rfl) (y_ae e2 rfl) (y_ae e2 rfl) (y_ae e2 rfl) q1, j_dp_e (y_fe e2 rfl) (y_fe e2 rfl) (y_ae e2 rfl) q2, ⟨de, _, kt, sn, sl, sh, (y_ae e2 rfl).trans n3, (y_ae e3 rfl).trans (rel.2.2.1 176 _ rfl), (y_ae e2 rfl).trans o3, (y_ae e2 rfl).trans o4, (y_ae e2 rfl).trans o5, (y_ae e2 rfl).trans o6, fun i hi => ?_, o8, o9⟩, j_w_e (y_fe e2 rfl) (y_ae e2 rfl) q4, j_seen_e (y_fe e2 rfl) (y_fe e2 rfl) (y_ae e2 rfl) (y_ae e2 rfl) q5, j_kept_e (y_fe e2 rfl) (y_ae e2 rfl) (y_ae e2 rfl) (y_ae e2 rfl) (y_ae e2 rfl) q6, j_land_e (y_fe e2 rfl) (y_ae e2 rfl) q7⟩
  rw [y_cpyN z5 hi]
  exact c2 i hi
theorem y_restores {h : aH} (hr : w_hr z_D h) (hJ : y_J h) (hk : ∀ (H : aH), y_fr h H [] [158] → y_J H → K0 none H C S) : aOK s_P X d a_m253 0 [some (.ref 155)] [] h C S K0 := by
  have hJ' := hJ
  obtain ⟨q1, q2, q3, q4, q5, q6, q7⟩ := hJ'
  obtain ⟨nd, le, de, ta, n1, n2, n3, n4, c1, c2, c3, c4, c5⟩ := id q1
  obtain ⟨de', to, kt, sn, sl, sh, o1, o2, o3, o4, o5, o6, o7, o8, o9⟩ := id q3
  obtain rfl := y_ai n3 o1
  refine w_go z_hl [14] [] 60 hr ?_
  intro H hH
  have e : y_fr h H [] [] := y_st (y_rf hr) hH (by repeat (first | exact w_nil | refine w_cons (Or.inl (y_m rfl)) ?_ | refine w_cons (Or.inr (by assumption)) ?_)) (by repeat (first | exact w_nil | refine w_cons (Or.inl (y_m rfl)) ?_ | refine w_cons (Or.inr (by assumption)) ?_))
  obtain ⟨g, z1, z2, z3⟩ := w_arrI e.1 (o := 158) (t := 0) (n := 80) (lo := 0) (hi := 10000000) (by decide) rfl
  obtain ⟨f, z4, z5, z6⟩ := w_arrI e.1 (o := 176) (t := 0) (n := 80) (lo := 0) (hi := 10000000) (by decide) rfl
  obtain rfl := y_ai ((y_ae e rfl).trans o2) (w_a_at z4)
  refine y_len80 (nx := 15) rfl z1 z2 rfl ?_
  refine y_copy80 (nx := 18) rfl rfl z4 z5 z1 z2 rfl ?_
  have hm := y_cpyM z5 z2 z6
  have rel : w_rel z_D H [] [(158, (0, .inl (a_cpy to g 0 0 80)))] (H.set 158 (.inl (0, .inl (a_cpy to g 0 0 80)))) := w_rel_arr (w_rel0 e.1) (a := (0, 80, 0, 10000000)) rfl z1 ⟨by decide, _, rfl, hm.1, hm.2⟩
  refine w_go z_hl [] [] 60 rel.1 ?_
  intro H2 h2
  have e1 : y_fr h (H.set 158 (.inl (0, .inl (a_cpy to g 0 0 80)))) [] [158] := y_st (y_mo e rfl rfl) rel (by repeat (first | exact w_nil | refine w_cons (Or.inl (y_m rfl)) ?_ | refine w_cons (Or.inr (by assumption)) ?_)) (by repeat (first | exact w_nil | refine w_cons (Or.inl (y_m rfl)) ?_ | refine w_cons (Or.inr (by assumption)) ?_))
  have e2 : y_fr h H2 [] [158] := y_st e1 h2 (by repeat (first | exact w_nil | refine w_cons (Or.inl (y_m rfl)) ?_ | refine w_cons (Or.inr (by assumption)) ?_)) (by repeat (first | exact w_nil | refine w_cons (Or.inl (y_m rfl)) ?_ | refine w_cons (Or.inr (by assumption)) ?_))
  have e3 : y_fr (H.set 158 (.inl (0, .inl (a_cpy to g 0 0 80)))) H2 [] [] := y_st (y_rf rel.1) h2 (by repeat (first | exact w_nil | refine w_cons (Or.inl (y_m rfl)) ?_ | refine w_cons (Or.inr (by assumption)) ?_)) (by repeat (first | exact w_nil | refine w_cons (Or.inl (y_m rfl)) ?_ | refine w_cons (Or.inr (by assumption)) ?_))
  refine hk H2 e2 ⟨⟨nd, le, de, _, (y_fe e2 rfl).trans n1, (y_ae e2 rfl).trans n2, (y_ae e2 rfl).trans n3, (y_ae e3 rfl).trans (rel.2.2.1 158 _ rfl), c1, fun i hi => ?_, c3, c4, c5⟩, j_dp_e (y_fe e2 rfl) (y_fe e2 rfl) (y_ae e2 rfl) q2, j_old_e (y_ae e2 rfl) (y_ae e2 rfl) (y_ae e2 rfl) (y_ae e2 rfl) (y_ae e2 rfl) (y_ae e2 rfl) q3, j_w_e (y_fe e2 rfl) (y_ae e2 rfl) q4, j_seen_e (y_fe e2 rfl) (y_fe e2 rfl) (y_ae e2 rfl) (y_ae e2 rfl) q5, j_kept_e (y_fe e2 rfl) (y_ae e2 rfl) (y_ae e2 rfl) (y_ae e2 rfl) (y_ae e2 rfl) q6, j_land_e (y_fe e2 rfl) (y_ae e2 rfl) q7⟩
  rw [y_cpyN z2 hi]
  exact o7 i hi
end WG
