/-! ===== v4: the law of p33: its loop (laid by wip/tools/mkloop.py) ===== -/
def l_tb : lT := [(12, 2, 2, false, 1), (17, 2, 3, false, 1), (21, 2, 2, false, 1), (24, 2, 2, false, 1), (28, 2, 1, false, 1), (33, 2, 1, false, 1), (46, 2, 1, false, 1), (47, 2, 0, false, 1), (49, 2, 2, false, 1), (52, 2, 1, false, 1), (54, 2, 2, false, 1), (57, 2, 2, false, 1), (58, 2, 1, false, 1), (61, 2, 3, false, 1), (66, 2, 3, false, 1), (68, 2, 1, false, 1), (71, 2, 1, false, 1), (74, 2, 1, false, 1), (76, 2, 1, false, 1), (77, 2, 0, false, 1), (92, 2, 1, false, 1), (112, 2, 2, false, 1), (113, 2, 2, false, 1), (114, 2, 1, false, 1), (115, 2, 4, false, 1), (119, 2, 2, false, 1), (125, 2, 1, false, 1), (127, 2, 2, false, 1), (128, 2, 2, false, 1), (137, 2, 2, false, 1), (139, 2, 2, false, 1), (143, 2, 4, false, 3), (145, 2, 2, false, 1), (146, 2, 3, false, 1), (149, 2, 5, false, 1), (153, 2, 2, false, 1), (156, 2, 2, false, 1), (157, 2, 3, true, 1), (159, 2, 1, false, 1), (162, 2, 1, false, 1), (163, 2, 1, false, 1), (165, 2, 1, false, 1), (168, 2, 1, false, 1), (173, 155, 2, false, 1), (177, 155, 3, false, 1), (180, 155, 2, false, 1), (181, 155, 2, false, 1), (183, 155, 1, false, 1), (187, 155, 1, false, 1), (198, 155, 1, false, 1), (199, 155, 0, false, 1), (200, 155, 2, false, 1), (202, 155, 1, false, 1), (204, 155, 2, false, 1), (206, 155, 2, false, 1), (207, 155, 1, false, 1), (208, 155, 3, false, 1), (213, 155, 3, false, 1), (214, 155, 1, false, 1), (217, 155, 1, false, 1), (219, 155, 1, false, 1), (220, 155, 1, false, 1), (221, 155, 0, false, 1), (233, 155, 1, false, 1), (246, 155, 2, false, 1), (247, 155, 2, false, 1), (248, 155, 1, false, 1), (249, 155, 4, false, 1), (250, 155, 2, false, 1), (254, 155, 1, false, 1), (255, 155, 2, false, 1), (256, 155, 2, false, 1), (262, 155, 2, false, 1), (263, 155, 2, false, 1), (265, 155, 4, false, 3), (267, 155, 2, false, 1), (268, 155, 3, false, 1), (270, 155, 5, false, 1), (271, 155, 2, false, 1), (272, 155, 2, false, 1), (273, 155, 3, true, 1), (274, 155, 1, false, 1), (278, 155, 1, false, 1), (279, 155, 1, false, 1), (280, 155, 1, false, 1), (281, 155, 1, false, 1), (283, 155, 2, false, 1), (287, 155, 1, false, 2)]
def l_G (X : aX) (xs : Nat → Int32) (i : Nat) (g : Int32) (e : Nat × Nat × Nat × Bool × Nat) : Prop := ∃ M, s_P[e.1]? = some M ∧ M.2.2.2.2.1 = e.2.2.1 ∧ Nat.ble (e.2.2.1 + 1) M.2.2.1 = true ∧
  ∀ (us : List Int32) (h : aH) (C S : Nat) (K0 : Option Value → aH → Nat → Nat → Prop), us.length = e.2.2.1 → (e.2.2.2.1 = true → ∀ u ∈ us, 0 ≤ u.toInt ∧ u.toInt ≤ 1) → (e.2.2.2.2 = 3 → us.map Value.int = (List.range e.2.2.1).map (fun a => Value.int (xs (i + (a + 1))))) → t_I h →
    (∀ (w : Value) (H : aH), t_I H → l_v xs i g (.inr (.inr e.2.2.2.2)) w → K0 (some w) H C S) → aOK s_P X 200 M 0 (a_ent (.ref e.2.1 :: us.map .int) M.2.2.1) [] h C S K0
section LL
variable {X : aX} {xs : Nat → Int32} {i : Nat} {g : Int32}
theorem l_of1 {j r0 m : Nat} {b : Bool} {M : aM} (h : t_told X 200 M r0 m b) (hM : s_P[j]? = some M) (ha : M.2.2.2.2.1 = m) (hl : Nat.ble (m + 1) M.2.2.1 = true) : l_G X xs i g (j, r0, m, b, 1) :=
  ⟨M, hM, ha, hl, fun us h0 C S K0 h1 h2 _ h4 hk => h us h0 C S K0 h1 h2 h4 (fun x H hI => hk _ H hI ⟨x, rfl⟩)⟩
theorem l_of2 {j r0 m : Nat} {b : Bool} {M : aM} (h : t_toldL X 200 M r0 m b) (hM : s_P[j]? = some M) (ha : M.2.2.2.2.1 = m) (hl : Nat.ble (m + 1) M.2.2.1 = true) : l_G X xs i g (j, r0, m, b, 2) :=
  ⟨M, hM, ha, hl, fun us h0 C S K0 h1 h2 _ h4 hk => h us h0 C S K0 h1 h2 h4 (fun x H hI => hk _ H hI ⟨x, rfl⟩)⟩
theorem l_fun1 : l_G X xs i (n_li (xs (i + 1)) (xs (i + 2)) (xs (i + 3)) (xs (i + 4))) (143, 2, 4, false, 3) := by
  refine ⟨a_m143, rfl, rfl, rfl, fun us h0 C S K0 h1 _ h3 hI hk => ?_⟩
  match us, h1 with
  | [a, b, c, d], _ =>
    have h5 : [Value.int a, Value.int b, Value.int c, Value.int d] = [Value.int (xs (i + 1)), Value.int (xs (i + 2)), Value.int (xs (i + 3)), Value.int (xs (i + 4))] := h3 rfl
    cases h5
    exact c_list hI (fun H h4 => hk _ H h4 rfl)
theorem l_fun2 : l_G X xs i (n_li (xs (i + 1)) (xs (i + 2)) (xs (i + 3)) (xs (i + 4))) (265, 155, 4, false, 3) := by
  refine ⟨a_m265, rfl, rfl, rfl, fun us h0 C S K0 h1 _ h3 hI hk => ?_⟩
  match us, h1 with
  | [a, b, c, d], _ =>
    have h5 : [Value.int a, Value.int b, Value.int c, Value.int d] = [Value.int (xs (i + 1)), Value.int (xs (i + 2)), Value.int (xs (i + 3)), Value.int (xs (i + 4))] := h3 rfl
    cases h5
    exact f_list hI.1 (fun H e => hk _ H ⟨e.1, y_jfr y_JA_x e rfl rfl hI.2.1, t_day_fr e rfl hI.2.2⟩ rfl)
def l_tb0 : lT := [(12, 2, 2, false, 1), (17, 2, 3, false, 1), (21, 2, 2, false, 1), (24, 2, 2, false, 1), (28, 2, 1, false, 1), (33, 2, 1, false, 1), (46, 2, 1, false, 1), (47, 2, 0, false, 1), (49, 2, 2, false, 1), (52, 2, 1, false, 1), (54, 2, 2, false, 1), (57, 2, 2, false, 1), (58, 2, 1, false, 1), (61, 2, 3, false, 1), (66, 2, 3, false, 1), (68, 2, 1, false, 1), (71, 2, 1, false, 1), (74, 2, 1, false, 1), (76, 2, 1, false, 1), (77, 2, 0, false, 1), (92, 2, 1, false, 1), (112, 2, 2, false, 1)]
theorem l_tb0_G : ∀ e ∈ l_tb0, l_G X xs i (n_li (xs (i + 1)) (xs (i + 2)) (xs (i + 3)) (xs (i + 4))) e := List.forall_mem_cons.mpr ⟨(l_of1 t_c12 rfl rfl rfl), List.forall_mem_cons.mpr ⟨(l_of1 t_c17 rfl rfl rfl), List.forall_mem_cons.mpr ⟨(l_of1 t_c21 rfl rfl rfl), List.forall_mem_cons.mpr ⟨(l_of1 t_c24 rfl rfl rfl), List.forall_mem_cons.mpr ⟨(l_of1 t_c28 rfl rfl rfl), List.forall_mem_cons.mpr ⟨(l_of1 t_c33 rfl rfl rfl), List.forall_mem_cons.mpr ⟨(l_of1 t_c46 rfl rfl rfl), List.forall_mem_cons.mpr ⟨(l_of1 t_c47 rfl rfl rfl), List.forall_mem_cons.mpr ⟨(l_of1 t_c49 rfl rfl rfl), List.forall_mem_cons.mpr ⟨(l_of1 t_c52 rfl rfl rfl), List.forall_mem_cons.mpr ⟨(l_of1 t_c54 rfl rfl rfl), List.forall_mem_cons.mpr ⟨(l_of1 t_c57 rfl rfl rfl), List.forall_mem_cons.mpr ⟨(l_of1 t_c58 rfl rfl rfl), List.forall_mem_cons.mpr ⟨(l_of1 t_c61 rfl rfl rfl), List.forall_mem_cons.mpr ⟨(l_of1 t_c66 rfl rfl rfl), List.forall_mem_cons.mpr ⟨(l_of1 t_c68 rfl rfl rfl), List.forall_mem_cons.mpr ⟨(l_of1 t_c71 rfl rfl rfl), List.forall_mem_cons.mpr ⟨(l_of1 t_c74 rfl rfl rfl), List.forall_mem_cons.mpr ⟨(l_of1 t_c76 rfl rfl rfl), List.forall_mem_cons.mpr ⟨(l_of1 t_c77 rfl rfl rfl), List.forall_mem_cons.mpr ⟨(l_of1 t_c92 rfl rfl rfl), List.forall_mem_cons.mpr ⟨(l_of1 t_c112 rfl rfl rfl), fun _ h => absurd h List.not_mem_nil⟩⟩⟩⟩⟩⟩⟩⟩⟩⟩⟩⟩⟩⟩⟩⟩⟩⟩⟩⟩⟩⟩
def l_tb1 : lT := [(113, 2, 2, false, 1), (114, 2, 1, false, 1), (115, 2, 4, false, 1), (119, 2, 2, false, 1), (125, 2, 1, false, 1), (127, 2, 2, false, 1), (128, 2, 2, false, 1), (137, 2, 2, false, 1), (139, 2, 2, false, 1), (143, 2, 4, false, 3), (145, 2, 2, false, 1), (146, 2, 3, false, 1), (149, 2, 5, false, 1), (153, 2, 2, false, 1), (156, 2, 2, false, 1), (157, 2, 3, true, 1), (159, 2, 1, false, 1), (162, 2, 1, false, 1), (163, 2, 1, false, 1), (165, 2, 1, false, 1), (168, 2, 1, false, 1), (173, 155, 2, false, 1)]
theorem l_tb1_G : ∀ e ∈ l_tb1, l_G X xs i (n_li (xs (i + 1)) (xs (i + 2)) (xs (i + 3)) (xs (i + 4))) e := List.forall_mem_cons.mpr ⟨(l_of1 t_c113 rfl rfl rfl), List.forall_mem_cons.mpr ⟨(l_of1 t_c114 rfl rfl rfl), List.forall_mem_cons.mpr ⟨(l_of1 t_c115 rfl rfl rfl), List.forall_mem_cons.mpr ⟨(l_of1 t_c119 rfl rfl rfl), List.forall_mem_cons.mpr ⟨(l_of1 t_c125 rfl rfl rfl), List.forall_mem_cons.mpr ⟨(l_of1 t_c127 rfl rfl rfl), List.forall_mem_cons.mpr ⟨(l_of1 t_c128 rfl rfl rfl), List.forall_mem_cons.mpr ⟨(l_of1 t_c137 rfl rfl rfl), List.forall_mem_cons.mpr ⟨(l_of1 t_c139 rfl rfl rfl), List.forall_mem_cons.mpr ⟨l_fun1, List.forall_mem_cons.mpr ⟨(l_of1 t_c145 rfl rfl rfl), List.forall_mem_cons.mpr ⟨(l_of1 t_c146 rfl rfl rfl), List.forall_mem_cons.mpr ⟨(l_of1 t_c149 rfl rfl rfl), List.forall_mem_cons.mpr ⟨(l_of1 t_c153 rfl rfl rfl), List.forall_mem_cons.mpr ⟨(l_of1 t_c156 rfl rfl rfl), List.forall_mem_cons.mpr ⟨(l_of1 t_c157 rfl rfl rfl), List.forall_mem_cons.mpr ⟨(l_of1 t_c159 rfl rfl rfl), List.forall_mem_cons.mpr ⟨(l_of1 t_c162 rfl rfl rfl), List.forall_mem_cons.mpr ⟨(l_of1 t_c163 rfl rfl rfl), List.forall_mem_cons.mpr ⟨(l_of1 t_c165 rfl rfl rfl), List.forall_mem_cons.mpr ⟨(l_of1 t_c168 rfl rfl rfl), List.forall_mem_cons.mpr ⟨(l_of1 t_r173 rfl rfl rfl), fun _ h => absurd h List.not_mem_nil⟩⟩⟩⟩⟩⟩⟩⟩⟩⟩⟩⟩⟩⟩⟩⟩⟩⟩⟩⟩⟩⟩
def l_tb2 : lT := [(177, 155, 3, false, 1), (180, 155, 2, false, 1), (181, 155, 2, false, 1), (183, 155, 1, false, 1), (187, 155, 1, false, 1), (198, 155, 1, false, 1), (199, 155, 0, false, 1), (200, 155, 2, false, 1), (202, 155, 1, false, 1), (204, 155, 2, false, 1), (206, 155, 2, false, 1), (207, 155, 1, false, 1), (208, 155, 3, false, 1), (213, 155, 3, false, 1), (214, 155, 1, false, 1), (217, 155, 1, false, 1), (219, 155, 1, false, 1), (220, 155, 1, false, 1), (221, 155, 0, false, 1), (233, 155, 1, false, 1), (246, 155, 2, false, 1), (247, 155, 2, false, 1)]
theorem l_tb2_G : ∀ e ∈ l_tb2, l_G X xs i (n_li (xs (i + 1)) (xs (i + 2)) (xs (i + 3)) (xs (i + 4))) e := List.forall_mem_cons.mpr ⟨(l_of1 t_r177 rfl rfl rfl), List.forall_mem_cons.mpr ⟨(l_of1 t_r180 rfl rfl rfl), List.forall_mem_cons.mpr ⟨(l_of1 t_r181 rfl rfl rfl), List.forall_mem_cons.mpr ⟨(l_of1 t_r183 rfl rfl rfl), List.forall_mem_cons.mpr ⟨(l_of1 t_r187 rfl rfl rfl), List.forall_mem_cons.mpr ⟨(l_of1 t_r198 rfl rfl rfl), List.forall_mem_cons.mpr ⟨(l_of1 t_r199 rfl rfl rfl), List.forall_mem_cons.mpr ⟨(l_of1 t_r200 rfl rfl rfl), List.forall_mem_cons.mpr ⟨(l_of1 t_r202 rfl rfl rfl), List.forall_mem_cons.mpr ⟨(l_of1 t_r204 rfl rfl rfl), List.forall_mem_cons.mpr ⟨(l_of1 t_r206 rfl rfl rfl), List.forall_mem_cons.mpr ⟨(l_of1 t_r207 rfl rfl rfl), List.forall_mem_cons.mpr ⟨(l_of1 t_r208 rfl rfl rfl), List.forall_mem_cons.mpr ⟨(l_of1 t_r213 rfl rfl rfl), List.forall_mem_cons.mpr ⟨(l_of1 t_r214 rfl rfl rfl), List.forall_mem_cons.mpr ⟨(l_of1 t_r217 rfl rfl rfl), List.forall_mem_cons.mpr ⟨(l_of1 t_r219 rfl rfl rfl), List.forall_mem_cons.mpr ⟨(l_of1 t_r220 rfl rfl rfl), List.forall_mem_cons.mpr ⟨(l_of1 t_r221 rfl rfl rfl), List.forall_mem_cons.mpr ⟨(l_of1 t_r233 rfl rfl rfl), List.forall_mem_cons.mpr ⟨(l_of1 t_r246 rfl rfl rfl), List.forall_mem_cons.mpr ⟨(l_of1 t_r247 rfl rfl rfl), fun _ h => absurd h List.not_mem_nil⟩⟩⟩⟩⟩⟩⟩⟩⟩⟩⟩⟩⟩⟩⟩⟩⟩⟩⟩⟩⟩⟩
def l_tb3 : lT := [(248, 155, 1, false, 1), (249, 155, 4, false, 1), (250, 155, 2, false, 1), (254, 155, 1, false, 1), (255, 155, 2, false, 1), (256, 155, 2, false, 1), (262, 155, 2, false, 1), (263, 155, 2, false, 1), (265, 155, 4, false, 3), (267, 155, 2, false, 1), (268, 155, 3, false, 1), (270, 155, 5, false, 1), (271, 155, 2, false, 1), (272, 155, 2, false, 1), (273, 155, 3, true, 1), (274, 155, 1, false, 1), (278, 155, 1, false, 1), (279, 155, 1, false, 1), (280, 155, 1, false, 1), (281, 155, 1, false, 1), (283, 155, 2, false, 1), (287, 155, 1, false, 2)]
theorem l_tb3_G : ∀ e ∈ l_tb3, l_G X xs i (n_li (xs (i + 1)) (xs (i + 2)) (xs (i + 3)) (xs (i + 4))) e := List.forall_mem_cons.mpr ⟨(l_of1 t_r248 rfl rfl rfl), List.forall_mem_cons.mpr ⟨(l_of1 t_r249 rfl rfl rfl), List.forall_mem_cons.mpr ⟨(l_of1 t_r250 rfl rfl rfl), List.forall_mem_cons.mpr ⟨(l_of1 t_r254 rfl rfl rfl), List.forall_mem_cons.mpr ⟨(l_of1 t_r255 rfl rfl rfl), List.forall_mem_cons.mpr ⟨(l_of1 t_r256 rfl rfl rfl), List.forall_mem_cons.mpr ⟨(l_of1 t_r262 rfl rfl rfl), List.forall_mem_cons.mpr ⟨(l_of1 t_r263 rfl rfl rfl), List.forall_mem_cons.mpr ⟨l_fun2, List.forall_mem_cons.mpr ⟨(l_of1 t_r267 rfl rfl rfl), List.forall_mem_cons.mpr ⟨(l_of1 t_r268 rfl rfl rfl), List.forall_mem_cons.mpr ⟨(l_of1 t_r270 rfl rfl rfl), List.forall_mem_cons.mpr ⟨(l_of1 t_r271 rfl rfl rfl), List.forall_mem_cons.mpr ⟨(l_of1 t_r272 rfl rfl rfl), List.forall_mem_cons.mpr ⟨(l_of1 t_r273 rfl rfl rfl), List.forall_mem_cons.mpr ⟨(l_of1 t_r274 rfl rfl rfl), List.forall_mem_cons.mpr ⟨(l_of1 t_r278 rfl rfl rfl), List.forall_mem_cons.mpr ⟨(l_of1 t_r279 rfl rfl rfl), List.forall_mem_cons.mpr ⟨(l_of1 t_r280 rfl rfl rfl), List.forall_mem_cons.mpr ⟨(l_of1 t_r281 rfl rfl rfl), List.forall_mem_cons.mpr ⟨(l_of1 t_r283 rfl rfl rfl), List.forall_mem_cons.mpr ⟨(l_of2 t_r287 rfl rfl rfl), fun _ h => absurd h List.not_mem_nil⟩⟩⟩⟩⟩⟩⟩⟩⟩⟩⟩⟩⟩⟩⟩⟩⟩⟩⟩⟩⟩⟩
theorem l_tb_e : l_tb = l_tb0 ++ (l_tb1 ++ (l_tb2 ++ (l_tb3))) := rfl
theorem l_tb_T : l_T X xs i (n_li (xs (i + 1)) (xs (i + 2)) (xs (i + 3)) (xs (i + 4))) l_tb := by
  intro j r0 m b ty hl
  have key : ∀ e ∈ l_tb, l_G X xs i (n_li (xs (i + 1)) (xs (i + 2)) (xs (i + 3)) (xs (i + 4))) e := by
    intro e h
    rw [l_tb_e] at h
    exact (List.mem_append.mp h).elim (fun h => l_tb0_G e h) (fun h => (List.mem_append.mp h).elim (fun h => l_tb1_G e h) (fun h => (List.mem_append.mp h).elim (fun h => l_tb2_G e h) (fun h => l_tb3_G e h)))
  exact key _ (z_lk_in hl)
def l_offs : List Int := [196, 233, 282, 319, 356, 381, 406, 431, 444, 481, 506, 543, 580, 605, 654, 703, 728, 753, 778, 803, 816, 841, 878, 915, 940, 1001, 1038, 1063, 1100, 1137, 1174, 1211, 1272, 1309, 1358, 1431, 1468, 1505, 1602, 1627, 1652, 1677, 1702, 1727, 1767]
set_option maxRecDepth 100000 in
theorem l_chk : l_offs.all (fun o => decide (0 ≤ o) && l_run l_tb 400 1 (l_to (40 + o).toNat a_cL) []) = true := by decide +kernel
theorem l_sufL : l_suf a_cL := ⟨[], rfl⟩
theorem l_at {t : Nat} {e : Nat × aI} {r : List (Nat × aI)} (h : l_to t a_cL = e :: r) : a_mL.2.2.2.2.2.lookup e.1 = some e.2 := (l_look (h ▸ l_suf_to l_sufL)).1
set_option maxRecDepth 100000 in
theorem l_1835 : l_to 1835 a_cL = (1835, .iinc 4 6, 3, 0, 0, 0, 0) :: l_to 1838 a_cL := rfl
set_option maxRecDepth 100000 in
theorem l_1838 : l_to 1838 a_cL = (1838, .goto (-1815), 3, 0, 23, 0, 0) :: l_to 1841 a_cL := rfl
set_option maxRecDepth 100000 in
theorem l_1841 : l_to 1841 a_cL = (1841, .iconst 1, 1, 0, 0, 0, 0) :: l_to 1842 a_cL := rfl
set_option maxRecDepth 100000 in
theorem l_1842 : l_to 1842 a_cL = [(1842, .ireturn, 1, 0, 0, 0, 0)] := rfl
theorem l_k1835 : a_mL.2.2.2.2.2.lookup 1835 = some (.iinc 4 6, 3, 0, 0, 0, 0) := by
  have h := l_at (e := (1835, .iinc 4 6, 3, 0, 0, 0, 0)) l_1835
  exact h
theorem l_k1838 : a_mL.2.2.2.2.2.lookup 1838 = some (.goto (-1815), 3, 0, 23, 0, 0) := by
  have h := l_at (e := (1838, .goto (-1815), 3, 0, 23, 0, 0)) l_1838
  exact h
theorem l_k1841 : a_mL.2.2.2.2.2.lookup 1841 = some (.iconst 1, 1, 0, 0, 0, 0) := by
  have h := l_at (e := (1841, .iconst 1, 1, 0, 0, 0, 0)) l_1841
  exact h
theorem l_k1842 : a_mL.2.2.2.2.2.lookup 1842 = some (.ireturn, 1, 0, 0, 0, 0) := by
  have h := l_at (e := (1842, .ireturn, 1, 0, 0, 0, 0)) l_1842
  exact h
end LL
section LP
variable {xs : Nat → Int32} {L : Nat} {CB SB : Nat}
def l_fin (CB SB : Nat) (v : Option Value) (_ : aH) (C S : Nat) : Prop := v = some (.int 1) ∧ C ≤ CB ∧ S ≤ SB
theorem l_and63 (x : Int32) : 0 ≤ (x &&& 63).toInt ∧ (x &&& 63).toInt ≤ 63 := by
  have h : (x &&& 63).toBitVec.toNat ≤ 63 := by
    show (x.toBitVec &&& (63 : Int32).toBitVec).toNat ≤ 63
    rw [BitVec.toNat_and]
    exact Nat.and_le_right
  have e : (x &&& 63).toInt = (x &&& 63).toBitVec.toInt := rfl
  rw [e, BitVec.toInt_eq_toNat_cond, if_pos (by omega)]
  omega
theorem l_Lsub (hL : L ≤ 3072) : (Int32.ofNat L - (Int8.ofInt 6).toInt32).toInt = (L : Int) - 6 := by
  have e1 : (Int32.ofNat L).toInt = L := Int32.toInt_ofNat_of_lt (by omega)
  rw [Int32.toInt_sub, e1, show ((Int8.ofInt 6).toInt32).toInt = 6 by decide, Int.bmod_eq_of_le (by omega) (by omega)]
theorem l_out (a b c : Option Value) {iI : Int32} {H : aH} {C S : Nat} (hC : C ≤ CB) (hS : S ≤ SB) : aOK s_P (some (L, xs)) 202 a_mL 1841 (l_ls iI a b c) [] H C S (l_fin CB SB) := by
  refine aOK_op l_k1841 (show _ = some (1842, l_ls iI a b c, [.int 1], H, 0, 0) from rfl) ?_
  exact aOK_ret l_k1842 rfl (show _ = some (some (.int 1)) from rfl) (fun n q => by cases q) ⟨rfl, hC, hS⟩
theorem l_loop (hL : L ≤ 3072) : ∀ (n i : Nat) (iI : Int32), iI.toInt = i → i ≤ L + 6 → L < i + 6 * (n + 1) → ∀ (a b c : Option Value) (H : aH) (C S : Nat), t_I H → C + n ≤ CB → S + 6 * n ≤ SB → aOK s_P (some (L, xs)) 202 a_mL 23 (l_ls iI a b c) [] H C S (l_fin CB SB) := by
  intro n
  have top : ∀ (i : Nat) (iI : Int32) (a b c : Option Value) (H : aH) (C S : Nat), iI.toInt = i → (L < i + 6 → aOK s_P (some (L, xs)) 202 a_mL 1841 (l_ls iI a b c) [] H C S (l_fin CB SB)) → (i + 6 ≤ L → aOK s_P (some (L, xs)) 202 a_mL 33 (l_ls iI a b c) [] H C S (l_fin CB SB)) → aOK s_P (some (L, xs)) 202 a_mL 23 (l_ls iI a b c) [] H C S (l_fin CB SB) := by
    intro i iI a b c H C S hi h1 h2
    refine aOK_op rfl (show _ = some (25, l_ls iI a b c, [.int iI], H, 0, 0) from rfl) ?_
    refine aOK_op rfl (show _ = some (26, l_ls iI a b c, [.ref 0, .int iI], H, 0, 0) from rfl) ?_
    refine aOK_op rfl (show _ = some (27, l_ls iI a b c, [.int (Int32.ofNat L), .int iI], H, 0, 0) from rfl) ?_
    refine aOK_op rfl (show _ = some (29, l_ls iI a b c, [.int (Int8.ofInt 6).toInt32, .int (Int32.ofNat L), .int iI], H, 0, 0) from rfl) ?_
    refine aOK_op rfl (show _ = some (30, l_ls iI a b c, [.int (Int32.ofNat L - (Int8.ofInt 6).toInt32), .int iI], H, 0, 0) from rfl) ?_
    refine aOK_op rfl (show _ = some (if a_cnd .gt iI (Int32.ofNat L - (Int8.ofInt 6).toInt32) then 1841 else 33, l_ls iI a b c, [], H, 0, 0) from rfl) ?_
    cases q : a_cnd .gt iI (Int32.ofNat L - (Int8.ofInt 6).toInt32) with
    | true =>
      have g : (Int32.ofNat L - (Int8.ofInt 6).toInt32).toInt < iI.toInt := (y_ci .gt _ _).mp q
      rw [l_Lsub hL, hi] at g
      exact h1 (by omega)
    | false =>
      have g : ¬ ((Int32.ofNat L - (Int8.ofInt 6).toInt32).toInt < iI.toInt) := y_cif q
      rw [l_Lsub hL, hi] at g
      exact h2 (by omega)
  induction n with
  | zero =>
    intro i iI hi hb hn a b c H C S hI hC hS
    exact top i iI a b c H C S hi (fun _ => l_out a b c (by omega) (by omega)) (fun q => by omega)
  | succ n ih =>
    intro i iI hi hb hn a b c H C S hI hC hS
    refine top i iI a b c H C S hi (fun _ => l_out a b c (by omega) (by omega)) (fun h6 => ?_)
    have hend : ∀ (a b c : Option Value) (H : aH) (C' S' : Nat), t_I H → C' ≤ C + 1 → S' ≤ S + 6 → aOK s_P (some (L, xs)) 202 a_mL 1835 (l_ls iI a b c) [] H C' S' (l_fin CB SB) := by
      intro a b c H C' S' hI' hC' hS'
      refine aOK_op l_k1835 (show _ = some (1838, l_ls (iI + Int32.ofInt 6) a b c, [], H, 0, 0) from rfl) ?_
      refine aOK_op l_k1838 (show _ = some (23, l_ls (iI + Int32.ofInt 6) a b c, [], H, 0, 0) from rfl) ?_
      exact ih (i + 6) _ (y_addS _ hi (show (Int32.ofInt 6).toInt = (6 : Nat) by decide) rfl (by omega)) (by omega) (by omega) a b c H C' S' hI' (by omega) (by omega)
    refine aOK_op rfl (show _ = some (34, l_ls iI a b c, [.ref 0], H, 0, 0) from rfl) ?_
    refine aOK_op rfl (show _ = some (36, l_ls iI a b c, [.int iI, .ref 0], H, 0, 0) from rfl) ?_
    refine aOK_op rfl (l_scr (n := i) hi (by omega)) ?_
    refine aOK_op rfl (show _ = some (39, l_ls iI a b c, [.int (Int8.ofInt 63).toInt32, .int (xs i)], H, 0, 0) from rfl) ?_
    refine aOK_op rfl (show _ = some (40, l_ls iI a b c, [.int (xs i &&& (Int8.ofInt 63).toInt32)], H, 0, 0) from rfl) ?_
    have h63 : 0 ≤ (xs i &&& (Int8.ofInt 63).toInt32).toInt := by
      have : (Int8.ofInt 63).toInt32 = 63 := by decide
      rw [this]
      exact (l_and63 (xs i)).1
    generalize (xs i &&& (Int8.ofInt 63).toInt32) = x at h63
    by_cases q : x.toInt < 0 ∨ 44 < x.toInt
    · exact y_tsw_d (t := 1835) rfl q (by decide) (hend a b c H C S hI (by omega) (by omega))
    · have hx : ∃ v : Nat, x.toInt = v ∧ v < 45 := ⟨x.toInt.toNat, by omega, by omega⟩
      obtain ⟨v, hv, v45⟩ := hx
      have ho : ∃ o, l_offs[v]? = some o := ⟨_, List.getElem?_eq_getElem (show v < l_offs.length from v45)⟩
      obtain ⟨o, ho⟩ := ho
      have hc := List.all_eq_true.mp l_chk o (List.mem_of_getElem? ho)
      rw [Bool.and_eq_true, decide_eq_true_eq] at hc
      refine y_tsw_i (t := (40 + o).toNat) (o := o) rfl q ?_ ?_ ?_
      · rw [hv]
        show l_offs.toArray[((v : Int) - 0).toNat]? = some o
        rw [show ((v : Int) - 0).toNat = v by omega, List.getElem?_toArray]
        exact ho
      · show (if 0 ≤ ((40 : Nat) : Int) + o then some (((40 : Nat) : Int) + o).toNat else none) = _
        rw [if_pos (by omega)]
        rfl
      · exact l_run_ok (CB := C + 1) (SB := S + 6) (by omega) hL hi l_tb_T l_S169 l_S171 hend 400 1 _ [] hc.2 (l_suf_to l_sufL) _ (fun e r hr => l_to_hd hr) [] trivial a b c H C S hI (by omega) (by omega)
end LP
