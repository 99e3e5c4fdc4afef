/-! ===== the law on paper: it answers 1 ===== -/
theorem s_and63 (x : Int32) : 0 ≤ (x &&& 63).toInt ∧ (x &&& 63).toInt ≤ 63 := by
  have h : (x &&& 63).toBitVec.toNat ≤ 63 := by
    show (x.toBitVec &&& (63 : Int32).toBitVec).toNat ≤ 63
    rw [BitVec.toNat_and]
    exact Nat.and_le_right
  have e : (x &&& 63).toInt = (x &&& 63).toBitVec.toInt := rfl
  rw [e, BitVec.toInt_eq_toNat_cond, if_pos (by omega)]
  omega
section SPURE
variable {E : Nat → Int32}
theorem s_sat_of {F : sF} {n m : Int} (h : n ≤ (E 0 &&& 63).toInt ∧ (E 0 &&& 63).toInt ≤ m) : s_sat E F ([([.inr (.inl 0), .inl (.int 63), .inr (.inr (.inl .iand))], n, m)], []) := by
  refine ⟨fun q hq z hz => ?_, fun q hq => absurd hq List.not_mem_nil⟩
  rw [List.mem_singleton.mp hq] at hz ⊢
  cases hz
  exact h
theorem s_by {n : Int} (h : (E 0 &&& 63).toInt = n) (hr : s_runX s_P s_sm s_ct 3000 (s_c0 (s_opf n)) = true) : aOK s_P (some (6, E)) 20 a_mL 23 (s_els E s_F s_ls1) [] (s_eH E s_F (196, [])) 196 6613 s_fin :=
  s_runX_ok s_F_ok s_sm_ok s_sm_ty s_ct_ok 3000 _ hr (s_sat_of (by omega))
theorem s_sat1 {F : sF} {n lo hi : Int} {j : Nat} (h : (E 0 &&& 63).toInt = n) (hj : lo ≤ (E j).toInt ∧ (E j).toInt ≤ hi) : s_sat E F (s_opl n [(j, lo, hi)]) := by
  refine ⟨fun q hq z hz => ?_, fun q hq => absurd hq List.not_mem_nil⟩
  rcases List.mem_cons.mp hq with rfl | hq
  · have hz' : Value.int (E 0 &&& 63) = .int z := hz
    cases hz'
    exact ⟨by rw [h]; exact Int.le_refl _, by rw [h]; exact Int.le_refl _⟩
  · rw [List.mem_singleton.mp hq] at hz ⊢
    have hz' : Value.int (E j) = .int z := hz
    cases hz'
    exact hj
theorem s_by1 {n lo hi : Int} {j : Nat} (h : (E 0 &&& 63).toInt = n) (hj : lo ≤ (E j).toInt ∧ (E j).toInt ≤ hi) (hr : s_runX s_P s_sm s_ct 3000 (s_c0 (s_opl n [(j, lo, hi)])) = true) : aOK s_P (some (6, E)) 20 a_mL 23 (s_els E s_F s_ls1) [] (s_eH E s_F (196, [])) 196 6613 s_fin :=
  s_runX_ok s_F_ok s_sm_ok s_sm_ty s_ct_ok 3000 _ hr (s_sat1 h hj)
theorem s_is40 (h : (E 0 &&& 63).toInt = 40) : aOK s_P (some (6, E)) 20 a_mL 23 (s_els E s_F s_ls1) [] (s_eH E s_F (196, [])) 196 6613 s_fin := by
  have hb := s_i32 (E 1)
  by_cases h1 : (E 1).toInt ≤ -1
  · exact s_by1 h (j := 1) ⟨hb.1, h1⟩ s_op40_0
  by_cases h2 : (E 1).toInt ≤ 0
  · exact s_by1 h (j := 1) ⟨by omega, h2⟩ s_op40_1
  by_cases h3 : (E 1).toInt ≤ 1
  · exact s_by1 h (j := 1) ⟨by omega, h3⟩ s_op40_2
  by_cases h4 : (E 1).toInt ≤ 2
  · exact s_by1 h (j := 1) ⟨by omega, h4⟩ s_op40_3
  exact s_by1 h (j := 1) ⟨by omega, hb.2⟩ s_op40_4
theorem s_is34 (h : (E 0 &&& 63).toInt = 34) : aOK s_P (some (6, E)) 20 a_mL 23 (s_els E s_F s_ls1) [] (s_eH E s_F (196, [])) 196 6613 s_fin := by
  have hb := s_i32 (E 2)
  by_cases h1 : (E 2).toInt ≤ -1
  · exact s_by1 h (j := 2) ⟨hb.1, h1⟩ s_op34_a
  by_cases h2 : (E 2).toInt ≤ 0
  · exact s_by1 h (j := 2) ⟨by omega, h2⟩ s_op34_0
  by_cases h3 : (E 2).toInt ≤ 1
  · exact s_by1 h (j := 2) ⟨by omega, h3⟩ s_op34_1
  by_cases h4 : (E 2).toInt ≤ 2
  · exact s_by1 h (j := 2) ⟨by omega, h4⟩ s_op34_2
  exact s_by1 h (j := 2) ⟨by omega, hb.2⟩ s_op34_b
theorem s_six : aOK s_P (some (6, E)) 20 a_mL 23 (s_els E s_F s_ls1) [] (s_eH E s_F (196, [])) 196 6613 s_fin := by
  have hb := s_and63 (E 0)
  generalize hz : (E 0 &&& 63).toInt = z at hb
  by_cases h0 : z = 0
  · exact s_by (hz.trans h0) s_op0
  by_cases h1 : z = 1
  · exact s_by (hz.trans h1) s_op1
  by_cases h2 : z = 2
  · exact s_by (hz.trans h2) s_op2
  by_cases h3 : z = 3
  · exact s_by (hz.trans h3) s_op3
  by_cases h4 : z = 4
  · exact s_by (hz.trans h4) s_op4
  by_cases h5 : z = 5
  · exact s_by (hz.trans h5) s_op5
  by_cases h6 : z = 6
  · exact s_by (hz.trans h6) s_op6
  by_cases h7 : z = 7
  · exact s_by (hz.trans h7) s_op7
  by_cases h8 : z = 8
  · exact s_by (hz.trans h8) s_op8
  by_cases h9 : z = 9
  · exact s_by (hz.trans h9) s_op9
  by_cases h10 : z = 10
  · exact s_by (hz.trans h10) s_op10
  by_cases h11 : z = 11
  · exact s_by (hz.trans h11) s_op11
  by_cases h12 : z = 12
  · exact s_by (hz.trans h12) s_op12
  by_cases h13 : z = 13
  · exact s_by (hz.trans h13) s_op13
  by_cases h14 : z = 14
  · exact s_by (hz.trans h14) s_op14
  by_cases h15 : z = 15
  · exact s_by (hz.trans h15) s_op15
  by_cases h16 : z = 16
  · exact s_by (hz.trans h16) s_op16
  by_cases h17 : z = 17
  · exact s_by (hz.trans h17) s_op17
  by_cases h18 : z = 18
  · exact s_by (hz.trans h18) s_op18
  by_cases h19 : z = 19
  · exact s_by (hz.trans h19) s_op19
  by_cases h20 : z = 20
  · exact s_by (hz.trans h20) s_op20
  by_cases h21 : z = 21
  · exact s_by (hz.trans h21) s_op21
  by_cases h22 : z = 22
  · exact s_by (hz.trans h22) s_op22
  by_cases h23 : z = 23
  · exact s_by (hz.trans h23) s_op23
  by_cases h24 : z = 24
  · exact s_by (hz.trans h24) s_op24
  by_cases h25 : z = 25
  · exact s_by (hz.trans h25) s_op25
  by_cases h26 : z = 26
  · exact s_by (hz.trans h26) s_op26
  by_cases h27 : z = 27
  · exact s_by (hz.trans h27) s_op27
  by_cases h28 : z = 28
  · exact s_by (hz.trans h28) s_op28
  by_cases h29 : z = 29
  · exact s_by (hz.trans h29) s_op29
  by_cases h30 : z = 30
  · exact s_by (hz.trans h30) s_op30
  by_cases h31 : z = 31
  · exact s_by (hz.trans h31) s_op31
  by_cases h32 : z = 32
  · exact s_by (hz.trans h32) s_op32
  by_cases h33 : z = 33
  · exact s_by (hz.trans h33) s_op33
  by_cases h34 : z = 34
  · exact s_is34 (hz.trans h34)
  by_cases h35 : z = 35
  · exact s_by (hz.trans h35) s_op35
  by_cases h36 : z = 36
  · exact s_by (hz.trans h36) s_op36
  by_cases h37 : z = 37
  · exact s_by (hz.trans h37) s_op37
  by_cases h38 : z = 38
  · exact s_by (hz.trans h38) s_op38
  by_cases h39 : z = 39
  · exact s_by (hz.trans h39) s_op39
  by_cases h40 : z = 40
  · exact s_is40 (hz.trans h40)
  by_cases h41 : z = 41
  · exact s_by (hz.trans h41) s_op41
  by_cases h42 : z = 42
  · exact s_by (hz.trans h42) s_op42
  by_cases h43 : z = 43
  · exact s_by (hz.trans h43) s_op43
  by_cases h44 : z = 44
  · exact s_by (hz.trans h44) s_op44
  exact s_runX_ok s_F_ok s_sm_ok s_sm_ty s_ct_ok 3000 _ s_op_d (s_sat_of (by omega))
theorem lwl_23 : a_mL.2.2.2.2.2.lookup 23 = some (.iload 4, 2, (0, 0, 0, 0)) := rfl
theorem lwl_25 : a_mL.2.2.2.2.2.lookup 25 = some (.aload_n 0, 1, (0, 0, 0, 0)) := rfl
theorem lwl_26 : a_mL.2.2.2.2.2.lookup 26 = some (.arraylength, 1, (0, 0, 0, 0)) := rfl
theorem lwl_27 : a_mL.2.2.2.2.2.lookup 27 = some (.bipush 6, 2, (0, 0, 0, 0)) := rfl
theorem lwl_29 : a_mL.2.2.2.2.2.lookup 29 = some (.isub, 1, (0, 0, 0, 0)) := rfl
theorem lwl_30 : a_mL.2.2.2.2.2.lookup 30 = some (.if_icmp .gt 1866, 3, (0, 1896, 0, 0)) := rfl
set_option maxRecDepth 100000 in
theorem lwl_1896 : a_mL.2.2.2.2.2.lookup 1896 = some (.iconst 1, 1, (0, 0, 0, 0)) := rfl
set_option maxRecDepth 100000 in
theorem lwl_1897 : a_mL.2.2.2.2.2.lookup 1897 = some (.ireturn, 1, (0, 0, 0, 0)) := rfl
theorem s_short {L : Nat} (hL : L < 6) {h : aH} : aOK s_P (some (L, E)) 20 a_mL 23 (s_els E s_F s_ls1) [] h 196 6613 s_fin := by
  have hc : a_cnd .gt (0 : Int32) (Int32.ofNat L - (Int8.ofInt 6).toInt32) = true := by
    have : L = 0 ∨ L = 1 ∨ L = 2 ∨ L = 3 ∨ L = 4 ∨ L = 5 := by omega
    rcases this with rfl | rfl | rfl | rfl | rfl | rfl <;> decide
  show aOK s_P (some (L, E)) 20 a_mL 23 [some (.ref 0), some (.ref 2), some (.ref 155), some (.ref 197), some (.int 0), none, none, none] [] h 196 6613 s_fin
  refine aOK_op0 (pc' := 25) (ls' := [some (.ref 0), some (.ref 2), some (.ref 155), some (.ref 197), some (.int 0), none, none, none]) (st' := [.int 0]) lwl_23 rfl ?_
  refine aOK_op0 (pc' := 26) (ls' := [some (.ref 0), some (.ref 2), some (.ref 155), some (.ref 197), some (.int 0), none, none, none]) (st' := [.ref 0, .int 0]) lwl_25 rfl ?_
  refine aOK_op0 (pc' := 27) (ls' := [some (.ref 0), some (.ref 2), some (.ref 155), some (.ref 197), some (.int 0), none, none, none]) (st' := [.int (Int32.ofNat L), .int 0]) lwl_26 rfl ?_
  refine aOK_op0 (pc' := 29) (ls' := [some (.ref 0), some (.ref 2), some (.ref 155), some (.ref 197), some (.int 0), none, none, none]) (st' := [.int ((Int8.ofInt 6).toInt32), .int (Int32.ofNat L), .int 0]) lwl_27 rfl ?_
  refine aOK_op0 (pc' := 30) (ls' := [some (.ref 0), some (.ref 2), some (.ref 155), some (.ref 197), some (.int 0), none, none, none]) (st' := [.int (Int32.ofNat L - (Int8.ofInt 6).toInt32), .int 0]) lwl_29 rfl ?_
  refine aOK_op0 (pc' := if a_cnd .gt (0 : Int32) (Int32.ofNat L - (Int8.ofInt 6).toInt32) then 1896 else 33) (ls' := [some (.ref 0), some (.ref 2), some (.ref 155), some (.ref 197), some (.int 0), none, none, none]) (st' := []) lwl_30 rfl ?_
  rw [if_pos hc]
  refine aOK_op0 (pc' := 1897) (ls' := [some (.ref 0), some (.ref 2), some (.ref 155), some (.ref 197), some (.int 0), none, none, none]) (st' := [.int (Int32.ofInt 1)]) lwl_1896 rfl ?_
  exact aOK_ret lwl_1897 s_ireturn (v := some (.int 1)) (by decide +kernel) (fun n e => by cases e) ⟨rfl, by decide, by decide⟩
theorem s_law (L : Nat) (hL : L ≤ 6) : aOK s_P (some (L, E)) 20 a_mL 0 s_ls0 [] [] 0 0 s_fin := by
  refine a_go_ok (d := 19) ?_ 13 0 s_ls0 [] [] 0 0 (s_go1 E s_F)
  by_cases h : L = 6
  · subst h; exact s_six
  · exact s_short (by omega)
end SPURE
