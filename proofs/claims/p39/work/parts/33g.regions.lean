/-! ===== v5: contexts with narrower entries (laid by wip/tools/reg.py) ===== -/
def z_hd0 : zQ := ((127, 0, 3, 2), [(0, ([(0, 1), (0, 2), (1, 16)], [(1, 0, 31), (1, 1, 99), (1, 0, 5)], [], [some (.inl (.ref 2)), some (.inr (0, 0)), some (.inr (1, 0))]), [(0, 0, 1), (0, 0, 0)])], [([(0, 0), (1, 16), (2, 2)], [(1, 0, 5), (1, 1, 6), (1, 0, 5)], [(0, 2, 0), (2, 0, 0), (1, 2, 1), (2, 1, (-1))], [some (.inr (0, 0))])], [16, 18944, 19072])
set_option maxRecDepth 100000 in
theorem z_hd0_ok : z_chk z_D s_P (z_clq z_D z_hd0.2.2.2 s_P []) 3000 z_hd0 = true := by decide +kernel
theorem z_hd0_s {J : aH → Prop} (hJ : z_jl J) {X : aX} : z_spec J z_D s_P X z_hd0 := z_ctx_ok (z_hlen hJ) (fun H0 C S => z_clq_ok (z_hlen hJ) (z_nil) _ H0 C S) z_hd0_ok
def z_hd1 : zQ := ((127, 0, 2, 2), [(0, ([(0, 1), (0, 2)], [(1, (-2147483648), (-1)), (1, (-2147483648), 2147483647)], [], [some (.inl (.ref 2)), some (.inr (0, 0)), some (.inr (1, 0))]), [(0, 0, 1), (0, 0, 0)])], [([], [], [], [some (.inl (.int (-1)))])], [])
set_option maxRecDepth 100000 in
theorem z_hd1_ok : z_chk z_D s_P (z_clq z_D z_hd1.2.2.2 s_P []) 3000 z_hd1 = true := by decide +kernel
theorem z_hd1_s {J : aH → Prop} (hJ : z_jl J) {X : aX} : z_spec J z_D s_P X z_hd1 := z_ctx_ok (z_hlen hJ) (fun H0 C S => z_clq_ok (z_hlen hJ) (z_nil) _ H0 C S) z_hd1_ok
def z_hd2 : zQ := ((127, 0, 2, 2), [(0, ([(0, 1), (0, 2)], [(1, 32, 2147483647), (1, (-2147483648), 2147483647)], [], [some (.inl (.ref 2)), some (.inr (0, 0)), some (.inr (1, 0))]), [(0, 0, 1), (0, 0, 0)])], [([], [], [], [some (.inl (.int (-1)))])], [])
set_option maxRecDepth 100000 in
theorem z_hd2_ok : z_chk z_D s_P (z_clq z_D z_hd2.2.2.2 s_P []) 3000 z_hd2 = true := by decide +kernel
theorem z_hd2_s {J : aH → Prop} (hJ : z_jl J) {X : aX} : z_spec J z_D s_P X z_hd2 := z_ctx_ok (z_hlen hJ) (fun H0 C S => z_clq_ok (z_hlen hJ) (z_nil) _ H0 C S) z_hd2_ok
def z_hd3 : zQ := ((127, 0, 2, 2), [(0, ([(0, 1), (0, 2)], [(1, (-2147483648), 2147483647), (1, (-2147483648), 0)], [], [some (.inl (.ref 2)), some (.inr (0, 0)), some (.inr (1, 0))]), [(0, 0, 1), (0, 0, 0)])], [([], [], [], [some (.inl (.int (-1)))])], [])
set_option maxRecDepth 100000 in
theorem z_hd3_ok : z_chk z_D s_P (z_clq z_D z_hd3.2.2.2 s_P []) 3000 z_hd3 = true := by decide +kernel
theorem z_hd3_s {J : aH → Prop} (hJ : z_jl J) {X : aX} : z_spec J z_D s_P X z_hd3 := z_ctx_ok (z_hlen hJ) (fun H0 C S => z_clq_ok (z_hlen hJ) (z_nil) _ H0 C S) z_hd3_ok
def z_hd4 : zQ := ((127, 0, 2, 2), [(0, ([(0, 1), (0, 2)], [(1, (-2147483648), 2147483647), (1, 100, 2147483647)], [], [some (.inl (.ref 2)), some (.inr (0, 0)), some (.inr (1, 0))]), [(0, 0, 1), (0, 0, 0)])], [([], [], [], [some (.inl (.int (-1)))])], [])
set_option maxRecDepth 100000 in
theorem z_hd4_ok : z_chk z_D s_P (z_clq z_D z_hd4.2.2.2 s_P []) 3000 z_hd4 = true := by decide +kernel
theorem z_hd4_s {J : aH → Prop} (hJ : z_jl J) {X : aX} : z_spec J z_D s_P X z_hd4 := z_ctx_ok (z_hlen hJ) (fun H0 C S => z_clq_ok (z_hlen hJ) (z_nil) _ H0 C S) z_hd4_ok
def z_hd5 : zQ := ((127, 0, 3, 2), [(0, ([(0, 1), (0, 2), (1, 16)], [(1, (-2147483648), 2147483647), (1, (-2147483648), 2147483647), (1, 6, 6)], [], [some (.inl (.ref 2)), some (.inr (0, 0)), some (.inr (1, 0))]), [(0, 0, 1), (0, 0, 0)])], [([], [], [], [some (.inl (.int (-1)))])], [])
set_option maxRecDepth 100000 in
theorem z_hd5_ok : z_chk z_D s_P (z_clq z_D z_hd5.2.2.2 s_P []) 3000 z_hd5 = true := by decide +kernel
theorem z_hd5_s {J : aH → Prop} (hJ : z_jl J) {X : aX} : z_spec J z_D s_P X z_hd5 := z_ctx_ok (z_hlen hJ) (fun H0 C S => z_clq_ok (z_hlen hJ) (z_nil) _ H0 C S) z_hd5_ok
def z_da0 : zQ := ((157, 1, 9, 2), [(0, ([(0, 1), (0, 2), (0, 3), (1, 17152), (1, 17153), (1, 17154), (1, 17155), (1, 17156), (1, 17157)], [(1, 0, 1), (1, 0, 1), (1, 0, 0), (1, 0, 29), (1, 0, 30), (1, 0, 30), (1, 0, 30), (1, 0, 30), (1, 0, 30)], [(4, 3, 0), (5, 3, 0), (6, 3, 0), (7, 3, 0), (8, 3, 0)], [some (.inl (.ref 2)), some (.inr (0, 0)), some (.inr (1, 0)), some (.inr (2, 0))]), [(0, 0, 1), (0, 0, 0)])], [([(0, 0), (1, 17152), (1, 17153), (1, 17154), (1, 17155), (1, 17156), (1, 17157), (2, 3)], [(1, 1, 30), (1, 1, 30), (1, 0, 30), (1, 0, 30), (1, 0, 30), (1, 0, 30), (1, 0, 30), (1, 0, 29)], [(0, 1, 0), (1, 0, 0), (2, 0, 0), (2, 1, 0), (3, 0, 0), (3, 1, 0), (4, 0, 0), (4, 1, 0), (5, 0, 0), (5, 1, 0), (6, 0, 0), (6, 1, 0), (0, 7, 1), (7, 0, (-1))], [some (.inr (0, 0))])], [17152, 17153, 17154, 17155, 17156, 17157])
set_option maxRecDepth 100000 in
theorem z_da0_ok : z_chk z_D s_P (z_clq z_D z_da0.2.2.2 s_P []) 3000 z_da0 = true := by decide +kernel
theorem z_da0_s {J : aH → Prop} (hJ : z_jl J) {X : aX} : z_spec J z_D s_P X z_da0 := z_ctx_ok (z_hlen hJ) (fun H0 C S => z_clq_ok (z_hlen hJ) (z_nil) _ H0 C S) z_da0_ok
def z_da1 : zQ := ((157, 1, 9, 2), [(0, ([(0, 1), (0, 2), (0, 3), (1, 17152), (1, 17153), (1, 17154), (1, 17155), (1, 17156), (1, 17157)], [(1, 0, 1), (1, 1, 1), (1, 0, 1), (1, 0, 29), (1, 0, 30), (1, 0, 30), (1, 0, 30), (1, 0, 30), (1, 0, 30)], [(4, 3, 0), (5, 3, 0), (6, 3, 0), (7, 3, 0), (8, 3, 0)], [some (.inl (.ref 2)), some (.inr (0, 0)), some (.inr (1, 0)), some (.inr (2, 0))]), [(0, 0, 1), (0, 0, 0)])], [([(0, 0), (1, 17152), (1, 17153), (1, 17154), (1, 17155), (1, 17156), (1, 17157), (2, 3)], [(1, 1, 30), (1, 1, 30), (1, 0, 30), (1, 0, 30), (1, 0, 30), (1, 0, 30), (1, 0, 30), (1, 0, 29)], [(0, 1, 0), (1, 0, 0), (2, 0, 0), (2, 1, 0), (3, 0, 0), (3, 1, 0), (4, 0, 0), (4, 1, 0), (5, 0, 0), (5, 1, 0), (6, 0, 0), (6, 1, 0), (0, 7, 1), (7, 0, (-1))], [some (.inr (0, 0))])], [17152, 17153, 17154, 17155, 17156, 17157])
set_option maxRecDepth 100000 in
theorem z_da1_ok : z_chk z_D s_P (z_clq z_D z_da1.2.2.2 s_P []) 3000 z_da1 = true := by decide +kernel
theorem z_da1_s {J : aH → Prop} (hJ : z_jl J) {X : aX} : z_spec J z_D s_P X z_da1 := z_ctx_ok (z_hlen hJ) (fun H0 C S => z_clq_ok (z_hlen hJ) (z_nil) _ H0 C S) z_da1_ok
def z_da2 : zQ := ((157, 1, 9, 2), [(0, ([(0, 1), (0, 2), (0, 3), (1, 17152), (1, 17153), (1, 17154), (1, 17155), (1, 17156), (1, 17157)], [(1, 0, 1), (1, 0, 1), (1, 0, 1), (1, 30, 30), (1, 0, 30), (1, 0, 30), (1, 0, 30), (1, 0, 30), (1, 0, 30)], [(4, 3, 0), (5, 3, 0), (6, 3, 0), (7, 3, 0), (8, 3, 0)], [some (.inl (.ref 2)), some (.inr (0, 0)), some (.inr (1, 0)), some (.inr (2, 0))]), [(0, 0, 1), (0, 0, 0)])], [([], [], [], [some (.inl (.int (-1)))])], [])
set_option maxRecDepth 100000 in
theorem z_da2_ok : z_chk z_D s_P (z_clq z_D z_da2.2.2.2 s_P []) 3000 z_da2 = true := by decide +kernel
theorem z_da2_s {J : aH → Prop} (hJ : z_jl J) {X : aX} : z_spec J z_D s_P X z_da2 := z_ctx_ok (z_hlen hJ) (fun H0 C S => z_clq_ok (z_hlen hJ) (z_nil) _ H0 C S) z_da2_ok
def z_da3 : zQ := ((157, 1, 9, 2), [(0, ([(0, 1), (0, 2), (0, 3), (1, 17152), (1, 17153), (1, 17154), (1, 17155), (1, 17156), (1, 17157)], [(1, 0, 1), (1, 0, 0), (1, 1, 1), (1, 0, 30), (1, 0, 30), (1, 0, 30), (1, 0, 30), (1, 0, 30), (1, 0, 30)], [(4, 3, 0), (5, 3, 0), (6, 3, 0), (7, 3, 0), (8, 3, 0)], [some (.inl (.ref 2)), some (.inr (0, 0)), some (.inr (1, 0)), some (.inr (2, 0))]), [(0, 0, 1), (0, 0, 0)])], [([], [], [], [some (.inl (.int (-1)))])], [])
set_option maxRecDepth 100000 in
theorem z_da3_ok : z_chk z_D s_P (z_clq z_D z_da3.2.2.2 s_P []) 3000 z_da3 = true := by decide +kernel
theorem z_da3_s {J : aH → Prop} (hJ : z_jl J) {X : aX} : z_spec J z_D s_P X z_da3 := z_ctx_ok (z_hlen hJ) (fun H0 C S => z_clq_ok (z_hlen hJ) (z_nil) _ H0 C S) z_da3_ok
def z_sh0 : zQ := ((159, 3, 7, 2), [(0, ([(0, 1), (1, 17152), (1, 17153), (1, 17154), (1, 17155), (1, 17156), (1, 17157)], [(1, 0, 1), (1, 1, 30), (1, 0, 30), (1, 0, 30), (1, 0, 30), (1, 0, 30), (1, 0, 30)], [(2, 1, 0), (3, 1, 0), (4, 1, 0), (5, 1, 0), (6, 1, 0)], [some (.inl (.ref 2)), some (.inr (0, 0)), none, none]), [(0, 0, 1), (0, 0, 0)])], [([], [], [], [some (.inl (.int 0))])], [1281, 1408, 19328, 19329])
set_option maxRecDepth 100000 in
theorem z_sh0_ok : z_chk z_D s_P (z_clq z_D z_sh0.2.2.2 s_P [z_x506, z_x505, z_x17, z_x15, z_x13]) 3000 z_sh0 = true := by decide +kernel
theorem z_sh0_s {J : aH → Prop} (hJ : z_jl J) {X : aX} : z_spec J z_D s_P X z_sh0 := z_ctx_ok (z_hlen hJ) (fun H0 C S => z_clq_ok (z_hlen hJ) (z_cons (z_x506_s hJ) (z_cons (z_x505_s hJ) (z_cons (z_x17_s hJ) (z_cons (z_x15_s hJ) (z_cons (z_x13_s hJ) (z_nil)))))) _ H0 C S) z_sh0_ok
def z_sh1 : zQ := ((159, 3, 7, 2), [(0, ([(0, 1), (1, 17152), (1, 17153), (1, 17154), (1, 17155), (1, 17156), (1, 17157)], [(1, (-2147483648), (-1)), (1, 0, 30), (1, 0, 30), (1, 0, 30), (1, 0, 30), (1, 0, 30), (1, 0, 30)], [(2, 1, 0), (3, 1, 0), (4, 1, 0), (5, 1, 0), (6, 1, 0)], [some (.inl (.ref 2)), some (.inr (0, 0)), none, none]), [(0, 0, 1), (0, 0, 0)])], [([], [], [], [some (.inl (.int (-1)))])], [1281, 1408, 19328, 19329])
set_option maxRecDepth 100000 in
theorem z_sh1_ok : z_chk z_D s_P (z_clq z_D z_sh1.2.2.2 s_P []) 3000 z_sh1 = true := by decide +kernel
theorem z_sh1_s {J : aH → Prop} (hJ : z_jl J) {X : aX} : z_spec J z_D s_P X z_sh1 := z_ctx_ok (z_hlen hJ) (fun H0 C S => z_clq_ok (z_hlen hJ) (z_nil) _ H0 C S) z_sh1_ok
def z_sh2 : zQ := ((159, 3, 7, 2), [(0, ([(0, 1), (1, 17152), (1, 17153), (1, 17154), (1, 17155), (1, 17156), (1, 17157)], [(1, 2, 2147483647), (1, 0, 30), (1, 0, 30), (1, 0, 30), (1, 0, 30), (1, 0, 30), (1, 0, 30)], [(2, 1, 0), (3, 1, 0), (4, 1, 0), (5, 1, 0), (6, 1, 0)], [some (.inl (.ref 2)), some (.inr (0, 0)), none, none]), [(0, 0, 1), (0, 0, 0)])], [([], [], [], [some (.inl (.int (-1)))])], [1281, 1408, 19328, 19329])
set_option maxRecDepth 100000 in
theorem z_sh2_ok : z_chk z_D s_P (z_clq z_D z_sh2.2.2.2 s_P []) 3000 z_sh2 = true := by decide +kernel
theorem z_sh2_s {J : aH → Prop} (hJ : z_jl J) {X : aX} : z_spec J z_D s_P X z_sh2 := z_ctx_ok (z_hlen hJ) (fun H0 C S => z_clq_ok (z_hlen hJ) (z_nil) _ H0 C S) z_sh2_ok
def z_sh3 : zQ := ((159, 3, 7, 2), [(0, ([(0, 1), (1, 17152), (1, 17153), (1, 17154), (1, 17155), (1, 17156), (1, 17157)], [(1, (-2147483648), 2147483647), (1, 0, 0), (1, 0, 30), (1, 0, 30), (1, 0, 30), (1, 0, 30), (1, 0, 30)], [(2, 1, 0), (3, 1, 0), (4, 1, 0), (5, 1, 0), (6, 1, 0)], [some (.inl (.ref 2)), some (.inr (0, 0)), none, none]), [(0, 0, 1), (0, 0, 0)])], [([], [], [], [some (.inl (.int (-1)))])], [1281, 1408, 19328, 19329])
set_option maxRecDepth 100000 in
theorem z_sh3_ok : z_chk z_D s_P (z_clq z_D z_sh3.2.2.2 s_P []) 3000 z_sh3 = true := by decide +kernel
theorem z_sh3_s {J : aH → Prop} (hJ : z_jl J) {X : aX} : z_spec J z_D s_P X z_sh3 := z_ctx_ok (z_hlen hJ) (fun H0 C S => z_clq_ok (z_hlen hJ) (z_nil) _ H0 C S) z_sh3_ok
def z_kp0 : zQ := ((163, 1, 1, 2), [(0, ([(0, 1)], [(1, 0, 0)], [], [some (.inl (.ref 2)), some (.inr (0, 0))]), [(0, 0, 1), (0, 0, 0)])], [([(1, 17408)], [(1, 1, 1)], [], [some (.inl (.int 1))])], [17408, 17409, 17410, 17411, 17412, 17413, 17414, 17536, 17664, 17792])
set_option maxRecDepth 100000 in
theorem z_kp0_ok : z_chk z_D s_P (z_clq z_D z_kp0.2.2.2 s_P []) 3000 z_kp0 = true := by decide +kernel
theorem z_kp0_s {J : aH → Prop} (hJ : z_jl J) {X : aX} : z_spec J z_D s_P X z_kp0 := z_ctx_ok (z_hlen hJ) (fun H0 C S => z_clq_ok (z_hlen hJ) (z_nil) _ H0 C S) z_kp0_ok
def z_kp1 : zQ := ((163, 1, 1, 2), [(0, ([(0, 1)], [(1, 1, 1)], [], [some (.inl (.ref 2)), some (.inr (0, 0))]), [(0, 0, 1), (0, 0, 0)])], [([(1, 17920)], [(1, 1, 1)], [], [some (.inl (.int 1))])], [17920, 17921, 17922, 17923, 17924, 17925, 17926, 18048, 18176, 18304])
set_option maxRecDepth 100000 in
theorem z_kp1_ok : z_chk z_D s_P (z_clq z_D z_kp1.2.2.2 s_P []) 3000 z_kp1 = true := by decide +kernel
theorem z_kp1_s {J : aH → Prop} (hJ : z_jl J) {X : aX} : z_spec J z_D s_P X z_kp1 := z_ctx_ok (z_hlen hJ) (fun H0 C S => z_clq_ok (z_hlen hJ) (z_nil) _ H0 C S) z_kp1_ok
def z_kp2 : zQ := ((163, 1, 1, 2), [(0, ([(0, 1)], [(1, 2, 2)], [], [some (.inl (.ref 2)), some (.inr (0, 0))]), [(0, 0, 1), (0, 0, 0)])], [([(1, 18432)], [(1, 1, 1)], [], [some (.inl (.int 1))])], [18432, 18433, 18434, 18435, 18436, 18437, 18438, 18560, 18688, 18816])
set_option maxRecDepth 100000 in
theorem z_kp2_ok : z_chk z_D s_P (z_clq z_D z_kp2.2.2.2 s_P []) 3000 z_kp2 = true := by decide +kernel
theorem z_kp2_s {J : aH → Prop} (hJ : z_jl J) {X : aX} : z_spec J z_D s_P X z_kp2 := z_ctx_ok (z_hlen hJ) (fun H0 C S => z_clq_ok (z_hlen hJ) (z_nil) _ H0 C S) z_kp2_ok
def z_kp3 : zQ := ((163, 1, 1, 2), [(0, ([(0, 1)], [(1, (-2147483648), (-1))], [], [some (.inl (.ref 2)), some (.inr (0, 0))]), [(0, 0, 1), (0, 0, 0)])], [([], [], [], [some (.inl (.int 0))])], [])
set_option maxRecDepth 100000 in
theorem z_kp3_ok : z_chk z_D s_P (z_clq z_D z_kp3.2.2.2 s_P []) 3000 z_kp3 = true := by decide +kernel
theorem z_kp3_s {J : aH → Prop} (hJ : z_jl J) {X : aX} : z_spec J z_D s_P X z_kp3 := z_ctx_ok (z_hlen hJ) (fun H0 C S => z_clq_ok (z_hlen hJ) (z_nil) _ H0 C S) z_kp3_ok
def z_kp4 : zQ := ((163, 1, 1, 2), [(0, ([(0, 1)], [(1, 3, 2147483647)], [], [some (.inl (.ref 2)), some (.inr (0, 0))]), [(0, 0, 1), (0, 0, 0)])], [([], [], [], [some (.inl (.int 0))])], [])
set_option maxRecDepth 100000 in
theorem z_kp4_ok : z_chk z_D s_P (z_clq z_D z_kp4.2.2.2 s_P []) 3000 z_kp4 = true := by decide +kernel
theorem z_kp4_s {J : aH → Prop} (hJ : z_jl J) {X : aX} : z_spec J z_D s_P X z_kp4 := z_ctx_ok (z_hlen hJ) (fun H0 C S => z_clq_ok (z_hlen hJ) (z_nil) _ H0 C S) z_kp4_ok
def z_ag0 : zQ := ((165, 2, 2, 2), [(0, ([(0, 1), (1, 17408)], [(1, 0, 0), (1, 1, 1)], [], [some (.inl (.ref 2)), some (.inr (0, 0))]), [(0, 0, 1), (0, 0, 0)])], [([], [], [], [some (.inl (.int 1))])], [136, 137, 138, 139, 140, 143, 768, 896, 1024])
set_option maxRecDepth 100000 in
theorem z_ag0_ok : z_chk z_D s_P (z_clq z_D z_ag0.2.2.2 s_P []) 3000 z_ag0 = true := by decide +kernel
theorem z_ag0_s {J : aH → Prop} (hJ : z_jl J) {X : aX} : z_spec J z_D s_P X z_ag0 := z_ctx_ok (z_hlen hJ) (fun H0 C S => z_clq_ok (z_hlen hJ) (z_nil) _ H0 C S) z_ag0_ok
def z_ag3 : zQ := ((165, 2, 2, 2), [(0, ([(0, 1), (1, 17408)], [(1, 0, 0), (1, 0, 0)], [], [some (.inl (.ref 2)), some (.inr (0, 0))]), [(0, 0, 1), (0, 0, 0)])], [([], [], [], [some (.inl (.int 0))])], [])
set_option maxRecDepth 100000 in
theorem z_ag3_ok : z_chk z_D s_P (z_clq z_D z_ag3.2.2.2 s_P []) 3000 z_ag3 = true := by decide +kernel
theorem z_ag3_s {J : aH → Prop} (hJ : z_jl J) {X : aX} : z_spec J z_D s_P X z_ag3 := z_ctx_ok (z_hlen hJ) (fun H0 C S => z_clq_ok (z_hlen hJ) (z_nil) _ H0 C S) z_ag3_ok
def z_ag1 : zQ := ((165, 2, 2, 2), [(0, ([(0, 1), (1, 17920)], [(1, 1, 1), (1, 1, 1)], [], [some (.inl (.ref 2)), some (.inr (0, 0))]), [(0, 0, 1), (0, 0, 0)])], [([], [], [], [some (.inl (.int 1))])], [136, 137, 138, 139, 140, 143, 768, 896, 1024])
set_option maxRecDepth 100000 in
theorem z_ag1_ok : z_chk z_D s_P (z_clq z_D z_ag1.2.2.2 s_P []) 3000 z_ag1 = true := by decide +kernel
theorem z_ag1_s {J : aH → Prop} (hJ : z_jl J) {X : aX} : z_spec J z_D s_P X z_ag1 := z_ctx_ok (z_hlen hJ) (fun H0 C S => z_clq_ok (z_hlen hJ) (z_nil) _ H0 C S) z_ag1_ok
def z_ag4 : zQ := ((165, 2, 2, 2), [(0, ([(0, 1), (1, 17920)], [(1, 1, 1), (1, 0, 0)], [], [some (.inl (.ref 2)), some (.inr (0, 0))]), [(0, 0, 1), (0, 0, 0)])], [([], [], [], [some (.inl (.int 0))])], [])
set_option maxRecDepth 100000 in
theorem z_ag4_ok : z_chk z_D s_P (z_clq z_D z_ag4.2.2.2 s_P []) 3000 z_ag4 = true := by decide +kernel
theorem z_ag4_s {J : aH → Prop} (hJ : z_jl J) {X : aX} : z_spec J z_D s_P X z_ag4 := z_ctx_ok (z_hlen hJ) (fun H0 C S => z_clq_ok (z_hlen hJ) (z_nil) _ H0 C S) z_ag4_ok
def z_ag2 : zQ := ((165, 2, 2, 2), [(0, ([(0, 1), (1, 18432)], [(1, 2, 2), (1, 1, 1)], [], [some (.inl (.ref 2)), some (.inr (0, 0))]), [(0, 0, 1), (0, 0, 0)])], [([], [], [], [some (.inl (.int 1))])], [136, 137, 138, 139, 140, 143, 768, 896, 1024])
set_option maxRecDepth 100000 in
theorem z_ag2_ok : z_chk z_D s_P (z_clq z_D z_ag2.2.2.2 s_P []) 3000 z_ag2 = true := by decide +kernel
theorem z_ag2_s {J : aH → Prop} (hJ : z_jl J) {X : aX} : z_spec J z_D s_P X z_ag2 := z_ctx_ok (z_hlen hJ) (fun H0 C S => z_clq_ok (z_hlen hJ) (z_nil) _ H0 C S) z_ag2_ok
def z_ag5 : zQ := ((165, 2, 2, 2), [(0, ([(0, 1), (1, 18432)], [(1, 2, 2), (1, 0, 0)], [], [some (.inl (.ref 2)), some (.inr (0, 0))]), [(0, 0, 1), (0, 0, 0)])], [([], [], [], [some (.inl (.int 0))])], [])
set_option maxRecDepth 100000 in
theorem z_ag5_ok : z_chk z_D s_P (z_clq z_D z_ag5.2.2.2 s_P []) 3000 z_ag5 = true := by decide +kernel
theorem z_ag5_s {J : aH → Prop} (hJ : z_jl J) {X : aX} : z_spec J z_D s_P X z_ag5 := z_ctx_ok (z_hlen hJ) (fun H0 C S => z_clq_ok (z_hlen hJ) (z_nil) _ H0 C S) z_ag5_ok
def z_ag6 : zQ := ((165, 2, 1, 2), [(0, ([(0, 1)], [(1, (-2147483648), (-1))], [], [some (.inl (.ref 2)), some (.inr (0, 0))]), [(0, 0, 1), (0, 0, 0)])], [([], [], [], [some (.inl (.int 0))])], [])
set_option maxRecDepth 100000 in
theorem z_ag6_ok : z_chk z_D s_P (z_clq z_D z_ag6.2.2.2 s_P []) 3000 z_ag6 = true := by decide +kernel
theorem z_ag6_s {J : aH → Prop} (hJ : z_jl J) {X : aX} : z_spec J z_D s_P X z_ag6 := z_ctx_ok (z_hlen hJ) (fun H0 C S => z_clq_ok (z_hlen hJ) (z_nil) _ H0 C S) z_ag6_ok
def z_ag7 : zQ := ((165, 2, 1, 2), [(0, ([(0, 1)], [(1, 3, 2147483647)], [], [some (.inl (.ref 2)), some (.inr (0, 0))]), [(0, 0, 1), (0, 0, 0)])], [([], [], [], [some (.inl (.int 0))])], [])
set_option maxRecDepth 100000 in
theorem z_ag7_ok : z_chk z_D s_P (z_clq z_D z_ag7.2.2.2 s_P []) 3000 z_ag7 = true := by decide +kernel
theorem z_ag7_s {J : aH → Prop} (hJ : z_jl J) {X : aX} : z_spec J z_D s_P X z_ag7 := z_ctx_ok (z_hlen hJ) (fun H0 C S => z_clq_ok (z_hlen hJ) (z_nil) _ H0 C S) z_ag7_ok
