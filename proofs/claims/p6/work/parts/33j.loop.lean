/-! ===== v5: the law of p6: its loop (laid by wip/tools/mkloop5.py) ===== -/
def n_tb : nT := [(12, 2, 2, false, 1, 1, 0), (17, 2, 3, false, 1, 1, 0), (21, 2, 2, false, 1, 1, 0), (24, 2, 2, false, 1, 0, 0), (28, 2, 1, false, 3, 1, 0), (33, 2, 1, false, 1, 0, 0), (46, 2, 1, false, 1, 0, 0), (47, 2, 0, false, 1, 0, 0), (49, 2, 2, false, 1, 0, 0), (52, 2, 1, false, 1, 0, 0), (54, 2, 2, false, 1, 0, 0), (57, 2, 2, false, 1, 0, 0), (58, 2, 1, false, 1, 0, 0), (61, 2, 3, false, 1, 0, 0), (66, 2, 3, false, 1, 0, 0), (68, 2, 1, false, 1, 0, 0), (71, 2, 1, false, 1, 0, 0), (74, 2, 1, false, 1, 1, 0), (76, 2, 1, false, 1, 1, 0), (77, 2, 0, false, 1, 1, 0), (92, 2, 1, false, 1, 0, 0), (112, 2, 2, false, 1, 0, 0), (113, 2, 2, false, 1, 0, 0), (114, 2, 1, false, 1, 0, 0), (115, 2, 4, false, 1, 0, 0), (119, 2, 2, false, 1, 0, 0), (125, 2, 1, false, 1, 0, 0), (127, 2, 2, false, 1, 1, 0), (128, 2, 2, false, 1, 0, 0), (137, 2, 2, false, 1, 0, 0), (139, 2, 2, false, 1, 0, 0), (143, 2, 4, false, 1, 0, 0), (145, 2, 2, false, 1, 0, 0), (146, 2, 3, false, 1, 0, 0), (149, 2, 5, false, 1, 0, 0), (153, 2, 2, false, 1, 0, 0), (156, 2, 2, false, 1, 0, 0), (157, 2, 3, true, 1, 1, 0), (159, 2, 1, false, 1, 0, 0), (162, 2, 1, false, 1, 0, 0), (163, 2, 1, false, 1, 1, 0), (165, 2, 1, false, 1, 1, 0), (168, 2, 1, false, 1, 0, 0), (173, 155, 2, false, 1, 2, 12), (177, 155, 3, false, 1, 2, 17), (180, 155, 2, false, 1, 2, 21), (181, 155, 2, false, 1, 0, 0), (183, 155, 1, false, 3, 2, 28), (187, 155, 1, false, 1, 0, 0), (198, 155, 1, false, 1, 0, 0), (199, 155, 0, false, 1, 0, 0), (200, 155, 2, false, 1, 0, 0), (202, 155, 1, false, 1, 0, 0), (204, 155, 2, false, 1, 0, 0), (206, 155, 2, false, 1, 0, 0), (207, 155, 1, false, 1, 0, 0), (208, 155, 3, false, 1, 0, 0), (213, 155, 3, false, 1, 0, 0), (214, 155, 1, false, 1, 0, 0), (217, 155, 1, false, 1, 0, 0), (219, 155, 1, false, 1, 2, 74), (220, 155, 1, false, 1, 2, 76), (221, 155, 0, false, 1, 2, 77), (233, 155, 1, false, 1, 0, 0), (246, 155, 2, false, 1, 0, 0), (247, 155, 2, false, 1, 0, 0), (248, 155, 1, false, 1, 0, 0), (249, 155, 4, false, 1, 0, 0), (250, 155, 2, false, 1, 0, 0), (254, 155, 1, false, 1, 0, 0), (255, 155, 2, false, 1, 2, 127), (256, 155, 2, false, 1, 0, 0), (262, 155, 2, false, 1, 0, 0), (263, 155, 2, false, 1, 0, 0), (265, 155, 4, false, 1, 0, 0), (267, 155, 2, false, 1, 0, 0), (268, 155, 3, false, 1, 0, 0), (270, 155, 5, false, 1, 0, 0), (271, 155, 2, false, 1, 0, 0), (272, 155, 2, false, 1, 0, 0), (273, 155, 3, true, 1, 2, 157), (274, 155, 1, false, 1, 0, 0), (278, 155, 1, false, 1, 0, 0), (279, 155, 1, false, 1, 2, 163), (280, 155, 1, false, 1, 2, 165), (281, 155, 1, false, 1, 0, 0), (283, 155, 2, false, 1, 0, 0), (287, 155, 1, false, 2, 0, 0)]
section NJ
variable {X : aX}
def n_tbx0 : nT := [(12, 2, 2, false, 1, 1, 0), (17, 2, 3, false, 1, 1, 0), (21, 2, 2, false, 1, 1, 0), (24, 2, 2, false, 1, 0, 0), (28, 2, 1, false, 3, 1, 0), (33, 2, 1, false, 1, 0, 0), (46, 2, 1, false, 1, 0, 0), (47, 2, 0, false, 1, 0, 0), (49, 2, 2, false, 1, 0, 0), (52, 2, 1, false, 1, 0, 0), (54, 2, 2, false, 1, 0, 0), (57, 2, 2, false, 1, 0, 0), (58, 2, 1, false, 1, 0, 0), (61, 2, 3, false, 1, 0, 0), (66, 2, 3, false, 1, 0, 0), (68, 2, 1, false, 1, 0, 0), (71, 2, 1, false, 1, 0, 0), (74, 2, 1, false, 1, 1, 0), (76, 2, 1, false, 1, 1, 0), (77, 2, 0, false, 1, 1, 0), (92, 2, 1, false, 1, 0, 0), (112, 2, 2, false, 1, 0, 0)]
theorem n_tbx0_G : ∀ e ∈ n_tbx0, n_G X n_I n_Md e := List.forall_mem_cons.mpr ⟨(n_ofc (n_c12) rfl rfl rfl), List.forall_mem_cons.mpr ⟨(n_ofc (n_c17) rfl rfl rfl), List.forall_mem_cons.mpr ⟨(n_ofc (n_c21) rfl rfl rfl), List.forall_mem_cons.mpr ⟨(n_of1 n_a24 rfl rfl rfl), List.forall_mem_cons.mpr ⟨(n_ofc (n_c28) rfl rfl rfl), List.forall_mem_cons.mpr ⟨(n_of1I n_a33 rfl rfl rfl), List.forall_mem_cons.mpr ⟨(n_of1I n_a46 rfl rfl rfl), List.forall_mem_cons.mpr ⟨(n_of1I n_a47 rfl rfl rfl), List.forall_mem_cons.mpr ⟨(n_of1I n_a49 rfl rfl rfl), List.forall_mem_cons.mpr ⟨(n_of1I n_a52 rfl rfl rfl), List.forall_mem_cons.mpr ⟨(n_of1I n_a54 rfl rfl rfl), List.forall_mem_cons.mpr ⟨(n_of1 n_a57 rfl rfl rfl), List.forall_mem_cons.mpr ⟨(n_of1I n_a58 rfl rfl rfl), List.forall_mem_cons.mpr ⟨(n_of1 n_a61 rfl rfl rfl), List.forall_mem_cons.mpr ⟨(n_of1I n_a66 rfl rfl rfl), List.forall_mem_cons.mpr ⟨(n_of1I n_a68 rfl rfl rfl), List.forall_mem_cons.mpr ⟨(n_of1I n_a71 rfl rfl rfl), List.forall_mem_cons.mpr ⟨(n_ofc (n_c74) rfl rfl rfl), List.forall_mem_cons.mpr ⟨(n_ofc (n_c76) rfl rfl rfl), List.forall_mem_cons.mpr ⟨(n_ofcS n_c77 rfl rfl rfl), List.forall_mem_cons.mpr ⟨(n_of1I n_a92 rfl rfl rfl), List.forall_mem_cons.mpr ⟨(n_of1I n_a112 rfl rfl rfl), fun _ h => absurd h List.not_mem_nil⟩⟩⟩⟩⟩⟩⟩⟩⟩⟩⟩⟩⟩⟩⟩⟩⟩⟩⟩⟩⟩⟩
def n_tbx1 : nT := [(113, 2, 2, false, 1, 0, 0), (114, 2, 1, false, 1, 0, 0), (115, 2, 4, false, 1, 0, 0), (119, 2, 2, false, 1, 0, 0), (125, 2, 1, false, 1, 0, 0), (127, 2, 2, false, 1, 1, 0), (128, 2, 2, false, 1, 0, 0), (137, 2, 2, false, 1, 0, 0), (139, 2, 2, false, 1, 0, 0), (143, 2, 4, false, 1, 0, 0), (145, 2, 2, false, 1, 0, 0), (146, 2, 3, false, 1, 0, 0), (149, 2, 5, false, 1, 0, 0), (153, 2, 2, false, 1, 0, 0), (156, 2, 2, false, 1, 0, 0), (157, 2, 3, true, 1, 1, 0), (159, 2, 1, false, 1, 0, 0), (162, 2, 1, false, 1, 0, 0), (163, 2, 1, false, 1, 1, 0), (165, 2, 1, false, 1, 1, 0), (168, 2, 1, false, 1, 0, 0), (173, 155, 2, false, 1, 2, 12)]
theorem n_tbx1_G : ∀ e ∈ n_tbx1, n_G X n_I n_Md e := List.forall_mem_cons.mpr ⟨(n_of1I n_a113 rfl rfl rfl), List.forall_mem_cons.mpr ⟨(n_of1I n_a114 rfl rfl rfl), List.forall_mem_cons.mpr ⟨(n_of1 n_a115 rfl rfl rfl), List.forall_mem_cons.mpr ⟨(n_of1I n_a119 rfl rfl rfl), List.forall_mem_cons.mpr ⟨(n_of1I n_a125 rfl rfl rfl), List.forall_mem_cons.mpr ⟨(n_ofc (n_c127) rfl rfl rfl), List.forall_mem_cons.mpr ⟨(n_of1I n_a128 rfl rfl rfl), List.forall_mem_cons.mpr ⟨(n_of1I n_a137 rfl rfl rfl), List.forall_mem_cons.mpr ⟨(n_of1I n_a139 rfl rfl rfl), List.forall_mem_cons.mpr ⟨(n_of1 n_a143 rfl rfl rfl), List.forall_mem_cons.mpr ⟨(n_of1 n_a145 rfl rfl rfl), List.forall_mem_cons.mpr ⟨(n_of1I n_a146 rfl rfl rfl), List.forall_mem_cons.mpr ⟨(n_of1 n_a149 rfl rfl rfl), List.forall_mem_cons.mpr ⟨(n_of1 n_a153 rfl rfl rfl), List.forall_mem_cons.mpr ⟨(n_of1 n_a156 rfl rfl rfl), List.forall_mem_cons.mpr ⟨(n_ofc (n_c157) rfl rfl rfl), List.forall_mem_cons.mpr ⟨(n_of1 n_a159 rfl rfl rfl), List.forall_mem_cons.mpr ⟨(n_of1 n_a162 rfl rfl rfl), List.forall_mem_cons.mpr ⟨(n_ofc (n_c163) rfl rfl rfl), List.forall_mem_cons.mpr ⟨(n_ofc (n_c165) rfl rfl rfl), List.forall_mem_cons.mpr ⟨(n_of1 n_a168 rfl rfl rfl), List.forall_mem_cons.mpr ⟨(n_ofr (by decide) (n_r173) rfl rfl rfl), fun _ h => absurd h List.not_mem_nil⟩⟩⟩⟩⟩⟩⟩⟩⟩⟩⟩⟩⟩⟩⟩⟩⟩⟩⟩⟩⟩⟩
def n_tbx2 : nT := [(177, 155, 3, false, 1, 2, 17), (180, 155, 2, false, 1, 2, 21), (181, 155, 2, false, 1, 0, 0), (183, 155, 1, false, 3, 2, 28), (187, 155, 1, false, 1, 0, 0), (198, 155, 1, false, 1, 0, 0), (199, 155, 0, false, 1, 0, 0), (200, 155, 2, false, 1, 0, 0), (202, 155, 1, false, 1, 0, 0), (204, 155, 2, false, 1, 0, 0), (206, 155, 2, false, 1, 0, 0), (207, 155, 1, false, 1, 0, 0), (208, 155, 3, false, 1, 0, 0), (213, 155, 3, false, 1, 0, 0), (214, 155, 1, false, 1, 0, 0), (217, 155, 1, false, 1, 0, 0), (219, 155, 1, false, 1, 2, 74), (220, 155, 1, false, 1, 2, 76), (221, 155, 0, false, 1, 2, 77), (233, 155, 1, false, 1, 0, 0), (246, 155, 2, false, 1, 0, 0), (247, 155, 2, false, 1, 0, 0)]
theorem n_tbx2_G : ∀ e ∈ n_tbx2, n_G X n_I n_Md e := List.forall_mem_cons.mpr ⟨(n_ofr (by decide) (n_r177) rfl rfl rfl), List.forall_mem_cons.mpr ⟨(n_ofr (by decide) (n_r180) rfl rfl rfl), List.forall_mem_cons.mpr ⟨(n_of1 n_a181 rfl rfl rfl), List.forall_mem_cons.mpr ⟨(n_ofr (by decide) (n_r183) rfl rfl rfl), List.forall_mem_cons.mpr ⟨(n_of1 n_a187 rfl rfl rfl), List.forall_mem_cons.mpr ⟨(n_of1 n_a198 rfl rfl rfl), List.forall_mem_cons.mpr ⟨(n_of1 n_a199 rfl rfl rfl), List.forall_mem_cons.mpr ⟨(n_of1 n_a200 rfl rfl rfl), List.forall_mem_cons.mpr ⟨(n_of1 n_a202 rfl rfl rfl), List.forall_mem_cons.mpr ⟨(n_of1 n_a204 rfl rfl rfl), List.forall_mem_cons.mpr ⟨(n_of1 n_a206 rfl rfl rfl), List.forall_mem_cons.mpr ⟨(n_of1 n_a207 rfl rfl rfl), List.forall_mem_cons.mpr ⟨(n_of1 n_a208 rfl rfl rfl), List.forall_mem_cons.mpr ⟨(n_of1 n_a213 rfl rfl rfl), List.forall_mem_cons.mpr ⟨(n_of1 n_a214 rfl rfl rfl), List.forall_mem_cons.mpr ⟨(n_of1 n_a217 rfl rfl rfl), List.forall_mem_cons.mpr ⟨(n_ofr (by decide) (n_r219) rfl rfl rfl), List.forall_mem_cons.mpr ⟨(n_ofr (by decide) (n_r220) rfl rfl rfl), List.forall_mem_cons.mpr ⟨(n_ofrS n_r221 rfl rfl rfl), List.forall_mem_cons.mpr ⟨(n_of1 n_a233 rfl rfl rfl), List.forall_mem_cons.mpr ⟨(n_of1 n_a246 rfl rfl rfl), List.forall_mem_cons.mpr ⟨(n_of1 n_a247 rfl rfl rfl), fun _ h => absurd h List.not_mem_nil⟩⟩⟩⟩⟩⟩⟩⟩⟩⟩⟩⟩⟩⟩⟩⟩⟩⟩⟩⟩⟩⟩
def n_tbx3 : nT := [(248, 155, 1, false, 1, 0, 0), (249, 155, 4, false, 1, 0, 0), (250, 155, 2, false, 1, 0, 0), (254, 155, 1, false, 1, 0, 0), (255, 155, 2, false, 1, 2, 127), (256, 155, 2, false, 1, 0, 0), (262, 155, 2, false, 1, 0, 0), (263, 155, 2, false, 1, 0, 0), (265, 155, 4, false, 1, 0, 0), (267, 155, 2, false, 1, 0, 0), (268, 155, 3, false, 1, 0, 0), (270, 155, 5, false, 1, 0, 0), (271, 155, 2, false, 1, 0, 0), (272, 155, 2, false, 1, 0, 0), (273, 155, 3, true, 1, 2, 157), (274, 155, 1, false, 1, 0, 0), (278, 155, 1, false, 1, 0, 0), (279, 155, 1, false, 1, 2, 163), (280, 155, 1, false, 1, 2, 165), (281, 155, 1, false, 1, 0, 0), (283, 155, 2, false, 1, 0, 0), (287, 155, 1, false, 2, 0, 0)]
theorem n_tbx3_G : ∀ e ∈ n_tbx3, n_G X n_I n_Md e := List.forall_mem_cons.mpr ⟨(n_of1 n_a248 rfl rfl rfl), List.forall_mem_cons.mpr ⟨(n_of1 n_a249 rfl rfl rfl), List.forall_mem_cons.mpr ⟨(n_of1 n_a250 rfl rfl rfl), List.forall_mem_cons.mpr ⟨(n_of1 n_a254 rfl rfl rfl), List.forall_mem_cons.mpr ⟨(n_ofr (by decide) (n_r255) rfl rfl rfl), List.forall_mem_cons.mpr ⟨(n_of1 n_a256 rfl rfl rfl), List.forall_mem_cons.mpr ⟨(n_of1 n_a262 rfl rfl rfl), List.forall_mem_cons.mpr ⟨(n_of1 n_a263 rfl rfl rfl), List.forall_mem_cons.mpr ⟨(n_of1 n_a265 rfl rfl rfl), List.forall_mem_cons.mpr ⟨(n_of1 n_a267 rfl rfl rfl), List.forall_mem_cons.mpr ⟨(n_of1 n_a268 rfl rfl rfl), List.forall_mem_cons.mpr ⟨(n_of1 n_a270 rfl rfl rfl), List.forall_mem_cons.mpr ⟨(n_of1 n_a271 rfl rfl rfl), List.forall_mem_cons.mpr ⟨(n_of1 n_a272 rfl rfl rfl), List.forall_mem_cons.mpr ⟨(n_ofr (by decide) (n_r273) rfl rfl rfl), List.forall_mem_cons.mpr ⟨(n_of1 n_a274 rfl rfl rfl), List.forall_mem_cons.mpr ⟨(n_of1 n_a278 rfl rfl rfl), List.forall_mem_cons.mpr ⟨(n_ofr (by decide) (n_r279) rfl rfl rfl), List.forall_mem_cons.mpr ⟨(n_ofr (by decide) (n_r280) rfl rfl rfl), List.forall_mem_cons.mpr ⟨(n_of1 n_a281 rfl rfl rfl), List.forall_mem_cons.mpr ⟨(n_of1 n_a283 rfl rfl rfl), List.forall_mem_cons.mpr ⟨(n_of2 n_a287 rfl rfl rfl), fun _ h => absurd h List.not_mem_nil⟩⟩⟩⟩⟩⟩⟩⟩⟩⟩⟩⟩⟩⟩⟩⟩⟩⟩⟩⟩⟩⟩
theorem n_tb_e : n_tb = n_tbx0 ++ (n_tbx1 ++ (n_tbx2 ++ (n_tbx3))) := rfl
theorem n_tb_T : ∀ e ∈ n_tb, n_G X n_I n_Md e := by
  intro e h
  rw [n_tb_e] at h
  exact (List.mem_append.mp h).elim (fun h => n_tbx0_G e h) (fun h => (List.mem_append.mp h).elim (fun h => n_tbx1_G e h) (fun h => (List.mem_append.mp h).elim (fun h => n_tbx2_G e h) (fun h => n_tbx3_G e h)))
def l_offs : List Int := [196, 233, 282, 319, 356, 381, 406, 431, 444, 481, 506, 543, 580, 605, 654, 703, 728, 753, 778, 803, 816, 841, 878, 915, 940, 1001, 1038, 1063, 1100, 1137, 1174, 1211, 1272, 1309, 1358, 1431, 1468, 1505, 1602, 1627, 1652, 1677, 1702, 1727, 1767]
set_option maxRecDepth 100000 in
theorem l_chk : l_offs.all (fun o => decide (0 ≤ o) && n_run n_tb 400 1 [] none (l_to (40 + o).toNat a_cL) []) = true := by decide +kernel
theorem l_sufL : l_suf a_cL := ⟨[], rfl⟩
theorem l_at {t : Nat} {e : Nat × aI} {r : List (Nat × aI)} (h : l_to t a_cL = e :: r) : a_mL.2.2.2.2.2.lookup e.1 = some e.2 := (l_look (h ▸ l_suf_to l_sufL)).1
set_option maxRecDepth 100000 in
theorem l_1835 : l_to 1835 a_cL = (1835, .iinc 4 6, 3, 0, 0, 0, 0) :: l_to 1838 a_cL := rfl
set_option maxRecDepth 100000 in
theorem l_1838 : l_to 1838 a_cL = (1838, .goto (-1815), 3, 0, 23, 0, 0) :: l_to 1841 a_cL := rfl
set_option maxRecDepth 100000 in
theorem l_1841 : l_to 1841 a_cL = (1841, .iconst 1, 1, 0, 0, 0, 0) :: l_to 1842 a_cL := rfl
set_option maxRecDepth 100000 in
theorem l_1842 : l_to 1842 a_cL = [(1842, .ireturn, 1, 0, 0, 0, 0)] := rfl
theorem l_k1835 : a_mL.2.2.2.2.2.lookup 1835 = some (.iinc 4 6, 3, 0, 0, 0, 0) := by
  have h := l_at (e := (1835, .iinc 4 6, 3, 0, 0, 0, 0)) l_1835
  exact h
theorem l_k1838 : a_mL.2.2.2.2.2.lookup 1838 = some (.goto (-1815), 3, 0, 23, 0, 0) := by
  have h := l_at (e := (1838, .goto (-1815), 3, 0, 23, 0, 0)) l_1838
  exact h
theorem l_k1841 : a_mL.2.2.2.2.2.lookup 1841 = some (.iconst 1, 1, 0, 0, 0, 0) := by
  have h := l_at (e := (1841, .iconst 1, 1, 0, 0, 0, 0)) l_1841
  exact h
theorem l_k1842 : a_mL.2.2.2.2.2.lookup 1842 = some (.ireturn, 1, 0, 0, 0, 0) := by
  have h := l_at (e := (1842, .ireturn, 1, 0, 0, 0, 0)) l_1842
  exact h
end NJ
section LP
variable {xs : Nat → Int32} {L : Nat} {CB SB : Nat}
def l_fin (CB SB : Nat) (v : Option Value) (_ : aH) (C S : Nat) : Prop := v = some (.int 1) ∧ C ≤ CB ∧ S ≤ SB
theorem l_and63 (x : Int32) : 0 ≤ (x &&& 63).toInt ∧ (x &&& 63).toInt ≤ 63 := by
  have h : (x &&& 63).toBitVec.toNat ≤ 63 := by
    show (x.toBitVec &&& (63 : Int32).toBitVec).toNat ≤ 63
    rw [BitVec.toNat_and]
    exact Nat.and_le_right
  have e : (x &&& 63).toInt = (x &&& 63).toBitVec.toInt := rfl
  rw [e, BitVec.toInt_eq_toNat_cond, if_pos (by omega)]
  omega
theorem l_Lsub (hL : L ≤ 3072) : (Int32.ofNat L - (Int8.ofInt 6).toInt32).toInt = (L : Int) - 6 := by
  have e1 : (Int32.ofNat L).toInt = L := Int32.toInt_ofNat_of_lt (by omega)
  rw [Int32.toInt_sub, e1, show ((Int8.ofInt 6).toInt32).toInt = 6 by decide, Int.bmod_eq_of_le (by omega) (by omega)]
theorem l_out (a b c : Option Value) {iI : Int32} {H : aH} {C S : Nat} (hC : C ≤ CB) (hS : S ≤ SB) : aOK s_P (some (L, xs)) 202 a_mL 1841 (l_ls iI a b c) [] H C S (l_fin CB SB) := by
  refine aOK_op l_k1841 (show _ = some (1842, l_ls iI a b c, [.int 1], H, 0, 0) from rfl) ?_
  exact aOK_ret l_k1842 rfl (show _ = some (some (.int 1)) from rfl) (fun n q => by cases q) ⟨rfl, hC, hS⟩
theorem l_loop (hL : L ≤ 3072) : ∀ (n i : Nat) (iI : Int32), iI.toInt = i → i ≤ L + 6 → L < i + 6 * (n + 1) → ∀ (a b c : Option Value) (H : aH) (C S : Nat), n_I H → C + n ≤ CB → S + 6 * n ≤ SB → aOK s_P (some (L, xs)) 202 a_mL 23 (l_ls iI a b c) [] H C S (l_fin CB SB) := by
  intro n
  have top : ∀ (i : Nat) (iI : Int32) (a b c : Option Value) (H : aH) (C S : Nat), iI.toInt = i → (L < i + 6 → aOK s_P (some (L, xs)) 202 a_mL 1841 (l_ls iI a b c) [] H C S (l_fin CB SB)) → (i + 6 ≤ L → aOK s_P (some (L, xs)) 202 a_mL 33 (l_ls iI a b c) [] H C S (l_fin CB SB)) → aOK s_P (some (L, xs)) 202 a_mL 23 (l_ls iI a b c) [] H C S (l_fin CB SB) := by
    intro i iI a b c H C S hi h1 h2
    refine aOK_op rfl (show _ = some (25, l_ls iI a b c, [.int iI], H, 0, 0) from rfl) ?_
    refine aOK_op rfl (show _ = some (26, l_ls iI a b c, [.ref 0, .int iI], H, 0, 0) from rfl) ?_
    refine aOK_op rfl (show _ = some (27, l_ls iI a b c, [.int (Int32.ofNat L), .int iI], H, 0, 0) from rfl) ?_
    refine aOK_op rfl (show _ = some (29, l_ls iI a b c, [.int (Int8.ofInt 6).toInt32, .int (Int32.ofNat L), .int iI], H, 0, 0) from rfl) ?_
    refine aOK_op rfl (show _ = some (30, l_ls iI a b c, [.int (Int32.ofNat L - (Int8.ofInt 6).toInt32), .int iI], H, 0, 0) from rfl) ?_
    refine aOK_op rfl (show _ = some (if a_cnd .gt iI (Int32.ofNat L - (Int8.ofInt 6).toInt32) then 1841 else 33, l_ls iI a b c, [], H, 0, 0) from rfl) ?_
    cases q : a_cnd .gt iI (Int32.ofNat L - (Int8.ofInt 6).toInt32) with
    | true =>
      have g : (Int32.ofNat L - (Int8.ofInt 6).toInt32).toInt < iI.toInt := (y_ci .gt _ _).mp q
      rw [l_Lsub hL, hi] at g
      exact h1 (by omega)
    | false =>
      have g : ¬ ((Int32.ofNat L - (Int8.ofInt 6).toInt32).toInt < iI.toInt) := y_cif q
      rw [l_Lsub hL, hi] at g
      exact h2 (by omega)
  induction n with
  | zero =>
    intro i iI hi hb hn a b c H C S hI hC hS
    exact top i iI a b c H C S hi (fun _ => l_out a b c (by omega) (by omega)) (fun q => by omega)
  | succ n ih =>
    intro i iI hi hb hn a b c H C S hI hC hS
    refine top i iI a b c H C S hi (fun _ => l_out a b c (by omega) (by omega)) (fun h6 => ?_)
    have hend : ∀ (a b c : Option Value) (H : aH) (C' S' : Nat), n_I H → C' ≤ C + 1 → S' ≤ S + 6 → aOK s_P (some (L, xs)) 202 a_mL 1835 (l_ls iI a b c) [] H C' S' (l_fin CB SB) := by
      intro a b c H C' S' hI' hC' hS'
      refine aOK_op l_k1835 (show _ = some (1838, l_ls (iI + Int32.ofInt 6) a b c, [], H, 0, 0) from rfl) ?_
      refine aOK_op l_k1838 (show _ = some (23, l_ls (iI + Int32.ofInt 6) a b c, [], H, 0, 0) from rfl) ?_
      exact ih (i + 6) _ (y_addS _ hi (show (Int32.ofInt 6).toInt = (6 : Nat) by decide) rfl (by omega)) (by omega) (by omega) a b c H C' S' hI' (by omega) (by omega)
    refine aOK_op rfl (show _ = some (34, l_ls iI a b c, [.ref 0], H, 0, 0) from rfl) ?_
    refine aOK_op rfl (show _ = some (36, l_ls iI a b c, [.int iI, .ref 0], H, 0, 0) from rfl) ?_
    refine aOK_op rfl (l_scr (n := i) hi (by omega)) ?_
    refine aOK_op rfl (show _ = some (39, l_ls iI a b c, [.int (Int8.ofInt 63).toInt32, .int (xs i)], H, 0, 0) from rfl) ?_
    refine aOK_op rfl (show _ = some (40, l_ls iI a b c, [.int (xs i &&& (Int8.ofInt 63).toInt32)], H, 0, 0) from rfl) ?_
    have h63 : 0 ≤ (xs i &&& (Int8.ofInt 63).toInt32).toInt := by
      have : (Int8.ofInt 63).toInt32 = 63 := by decide
      rw [this]
      exact (l_and63 (xs i)).1
    generalize (xs i &&& (Int8.ofInt 63).toInt32) = x at h63
    by_cases q : x.toInt < 0 ∨ 44 < x.toInt
    · exact y_tsw_d (t := 1835) rfl q (by decide) (hend a b c H C S hI (by omega) (by omega))
    · have hx : ∃ v : Nat, x.toInt = v ∧ v < 45 := ⟨x.toInt.toNat, by omega, by omega⟩
      obtain ⟨v, hv, v45⟩ := hx
      have ho : ∃ o, l_offs[v]? = some o := ⟨_, List.getElem?_eq_getElem (show v < l_offs.length from v45)⟩
      obtain ⟨o, ho⟩ := ho
      have hc := List.all_eq_true.mp l_chk o (List.mem_of_getElem? ho)
      rw [Bool.and_eq_true, decide_eq_true_eq] at hc
      refine y_tsw_i (t := (40 + o).toNat) (o := o) rfl q ?_ ?_ ?_
      · rw [hv]
        show l_offs.toArray[((v : Int) - 0).toNat]? = some o
        rw [show ((v : Int) - 0).toNat = v by omega, List.getElem?_toArray]
        exact ho
      · show (if 0 ≤ ((40 : Nat) : Int) + o then some (((40 : Nat) : Int) + o).toNat else none) = _
        rw [if_pos (by omega)]
        rfl
      · exact n_run_ok (CB := C + 1) (SB := S + 6) (Md := n_Md) (by omega) hL hi (fun H q => q.1.1) (fun _ _ _ H q => q.1.1) n_tb_T n_S169 n_S171 hend 400 1 [] none _ [] hc.2 (l_suf_to l_sufL) (fun j z q => (by cases q)) _ (fun e r hr => l_to_hd hr) 0 [] trivial a b c H C S hI (by omega) (by omega)
end LP
