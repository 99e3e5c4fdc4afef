/-! ===== v5: contexts with narrower entries (laid by wip/tools/reg.py) ===== -/
def z_li0 : zQ := ((143, 3, 4, 2), [(0, ([(0, 1), (0, 2), (0, 3), (0, 4)], [(1, 1, 100000000), (1, 1, 1000000), (1, 1, 1000000), (1, 1, 1000000)], [(1, 0, 0), (2, 3, 0)], [some (.inl (.ref 2)), some (.inr (0, 0)), some (.inr (1, 0)), some (.inr (2, 0)), some (.inr (3, 0))]), [(0, 0, 1), (0, 0, 0)])], [([], [], [], [some (.inl (.int 0))])], [1281, 1408, 19328, 19329])
set_option maxRecDepth 100000 in
theorem z_li0_ok : z_chk z_D s_P (z_clq z_D z_li0.2.2.2 s_P [z_x17, z_x13]) 3000 z_li0 = true := by decide +kernel
theorem z_li0_s {J : aH → Prop} (hJ : z_jl J) {X : aX} : z_spec J z_D s_P X z_li0 := z_ctx_ok (z_hlen hJ) (fun H0 C S => z_clq_ok (z_hlen hJ) (z_cons (z_x17_s hJ) (z_cons (z_x13_s hJ) (z_nil))) _ H0 C S) z_li0_ok
def z_li1 : zQ := ((143, 3, 4, 2), [(0, ([(0, 1), (0, 2), (0, 3), (0, 4)], [(1, (-2147483648), 2147483647), (1, (-2147483648), 2147483647), (1, (-2147483648), 0), (1, (-2147483648), 2147483647)], [], [some (.inl (.ref 2)), some (.inr (0, 0)), some (.inr (1, 0)), some (.inr (2, 0)), some (.inr (3, 0))]), [(0, 0, 1), (0, 0, 0)])], [([], [], [], [some (.inl (.int (-1)))])], [1281, 1408, 19328, 19329])
set_option maxRecDepth 100000 in
theorem z_li1_ok : z_chk z_D s_P (z_clq z_D z_li1.2.2.2 s_P []) 3000 z_li1 = true := by decide +kernel
theorem z_li1_s {J : aH → Prop} (hJ : z_jl J) {X : aX} : z_spec J z_D s_P X z_li1 := z_ctx_ok (z_hlen hJ) (fun H0 C S => z_clq_ok (z_hlen hJ) (z_nil) _ H0 C S) z_li1_ok
def z_li2 : zQ := ((143, 3, 4, 2), [(0, ([(0, 1), (0, 2), (0, 3), (0, 4)], [(1, (-2147483648), 2147483647), (1, (-2147483648), 2147483647), (1, (-2147483648), 2147483647), (1, 1000001, 2147483647)], [], [some (.inl (.ref 2)), some (.inr (0, 0)), some (.inr (1, 0)), some (.inr (2, 0)), some (.inr (3, 0))]), [(0, 0, 1), (0, 0, 0)])], [([], [], [], [some (.inl (.int (-1)))])], [1281, 1408, 19328, 19329])
set_option maxRecDepth 100000 in
theorem z_li2_ok : z_chk z_D s_P (z_clq z_D z_li2.2.2.2 s_P []) 3000 z_li2 = true := by decide +kernel
theorem z_li2_s {J : aH → Prop} (hJ : z_jl J) {X : aX} : z_spec J z_D s_P X z_li2 := z_ctx_ok (z_hlen hJ) (fun H0 C S => z_clq_ok (z_hlen hJ) (z_nil) _ H0 C S) z_li2_ok
def z_li3 : zQ := ((143, 3, 4, 2), [(0, ([(0, 1), (0, 2), (0, 3), (0, 4)], [(1, (-2147483648), 2147483647), (1, (-2147483648), 2147483647), (1, (-2147483648), 2147483647), (1, (-2147483648), 2147483647)], [(3, 2, (-1))], [some (.inl (.ref 2)), some (.inr (0, 0)), some (.inr (1, 0)), some (.inr (2, 0)), some (.inr (3, 0))]), [(0, 0, 1), (0, 0, 0)])], [([], [], [], [some (.inl (.int (-1)))])], [1281, 1408, 19328, 19329])
set_option maxRecDepth 100000 in
theorem z_li3_ok : z_chk z_D s_P (z_clq z_D z_li3.2.2.2 s_P []) 3000 z_li3 = true := by decide +kernel
theorem z_li3_s {J : aH → Prop} (hJ : z_jl J) {X : aX} : z_spec J z_D s_P X z_li3 := z_ctx_ok (z_hlen hJ) (fun H0 C S => z_clq_ok (z_hlen hJ) (z_nil) _ H0 C S) z_li3_ok
def z_li4 : zQ := ((143, 3, 4, 2), [(0, ([(0, 1), (0, 2), (0, 3), (0, 4)], [(1, (-2147483648), 2147483647), (1, (-2147483648), 0), (1, (-2147483648), 2147483647), (1, (-2147483648), 2147483647)], [], [some (.inl (.ref 2)), some (.inr (0, 0)), some (.inr (1, 0)), some (.inr (2, 0)), some (.inr (3, 0))]), [(0, 0, 1), (0, 0, 0)])], [([], [], [], [some (.inl (.int (-1)))])], [1281, 1408, 19328, 19329])
set_option maxRecDepth 100000 in
theorem z_li4_ok : z_chk z_D s_P (z_clq z_D z_li4.2.2.2 s_P []) 3000 z_li4 = true := by decide +kernel
theorem z_li4_s {J : aH → Prop} (hJ : z_jl J) {X : aX} : z_spec J z_D s_P X z_li4 := z_ctx_ok (z_hlen hJ) (fun H0 C S => z_clq_ok (z_hlen hJ) (z_nil) _ H0 C S) z_li4_ok
def z_li5 : zQ := ((143, 3, 4, 2), [(0, ([(0, 1), (0, 2), (0, 3), (0, 4)], [(1, (-2147483648), 2147483647), (1, 1000001, 2147483647), (1, (-2147483648), 2147483647), (1, (-2147483648), 2147483647)], [], [some (.inl (.ref 2)), some (.inr (0, 0)), some (.inr (1, 0)), some (.inr (2, 0)), some (.inr (3, 0))]), [(0, 0, 1), (0, 0, 0)])], [([], [], [], [some (.inl (.int (-1)))])], [1281, 1408, 19328, 19329])
set_option maxRecDepth 100000 in
theorem z_li5_ok : z_chk z_D s_P (z_clq z_D z_li5.2.2.2 s_P []) 3000 z_li5 = true := by decide +kernel
theorem z_li5_s {J : aH → Prop} (hJ : z_jl J) {X : aX} : z_spec J z_D s_P X z_li5 := z_ctx_ok (z_hlen hJ) (fun H0 C S => z_clq_ok (z_hlen hJ) (z_nil) _ H0 C S) z_li5_ok
def z_li6 : zQ := ((143, 3, 4, 2), [(0, ([(0, 1), (0, 2), (0, 3), (0, 4)], [(1, (-2147483648), 2147483647), (1, (-2147483648), 2147483647), (1, (-2147483648), 2147483647), (1, (-2147483648), 2147483647)], [(0, 1, (-1))], [some (.inl (.ref 2)), some (.inr (0, 0)), some (.inr (1, 0)), some (.inr (2, 0)), some (.inr (3, 0))]), [(0, 0, 1), (0, 0, 0)])], [([], [], [], [some (.inl (.int (-1)))])], [1281, 1408, 19328, 19329])
set_option maxRecDepth 100000 in
theorem z_li6_ok : z_chk z_D s_P (z_clq z_D z_li6.2.2.2 s_P []) 3000 z_li6 = true := by decide +kernel
theorem z_li6_s {J : aH → Prop} (hJ : z_jl J) {X : aX} : z_spec J z_D s_P X z_li6 := z_ctx_ok (z_hlen hJ) (fun H0 C S => z_clq_ok (z_hlen hJ) (z_nil) _ H0 C S) z_li6_ok
def z_li7 : zQ := ((143, 3, 4, 2), [(0, ([(0, 1), (0, 2), (0, 3), (0, 4)], [(1, 100000001, 2147483647), (1, (-2147483648), 2147483647), (1, (-2147483648), 2147483647), (1, (-2147483648), 2147483647)], [], [some (.inl (.ref 2)), some (.inr (0, 0)), some (.inr (1, 0)), some (.inr (2, 0)), some (.inr (3, 0))]), [(0, 0, 1), (0, 0, 0)])], [([], [], [], [some (.inl (.int (-1)))])], [1281, 1408, 19328, 19329])
set_option maxRecDepth 100000 in
theorem z_li7_ok : z_chk z_D s_P (z_clq z_D z_li7.2.2.2 s_P []) 3000 z_li7 = true := by decide +kernel
theorem z_li7_s {J : aH → Prop} (hJ : z_jl J) {X : aX} : z_spec J z_D s_P X z_li7 := z_ctx_ok (z_hlen hJ) (fun H0 C S => z_clq_ok (z_hlen hJ) (z_nil) _ H0 C S) z_li7_ok
def z_ke0 : zQ := ((163, 1, 1, 2), [(0, ([(0, 1)], [(1, 0, 2)], [], [some (.inl (.ref 2)), some (.inr (0, 0))]), [(0, 0, 1), (0, 0, 0)])], [([], [], [], [some (.inl (.int 1))])], [17408, 17409, 17410, 17411, 17412, 17413, 17414, 17536, 17664, 17792, 17920, 17921, 17922, 17923, 17924, 17925, 17926, 18048, 18176, 18304, 18432, 18433, 18434, 18435, 18436, 18437, 18438, 18560, 18688, 18816])
set_option maxRecDepth 100000 in
theorem z_ke0_ok : z_chk z_D s_P (z_clq z_D z_ke0.2.2.2 s_P []) 3000 z_ke0 = true := by decide +kernel
theorem z_ke0_s {J : aH → Prop} (hJ : z_jl J) {X : aX} : z_spec J z_D s_P X z_ke0 := z_ctx_ok (z_hlen hJ) (fun H0 C S => z_clq_ok (z_hlen hJ) (z_nil) _ H0 C S) z_ke0_ok
def z_ke1 : zQ := ((163, 1, 1, 2), [(0, ([(0, 1)], [(1, (-2147483648), (-1))], [], [some (.inl (.ref 2)), some (.inr (0, 0))]), [(0, 0, 1), (0, 0, 0)])], [([], [], [], [some (.inl (.int 0))])], [17408, 17409, 17410, 17411, 17412, 17413, 17414, 17536, 17664, 17792, 17920, 17921, 17922, 17923, 17924, 17925, 17926, 18048, 18176, 18304, 18432, 18433, 18434, 18435, 18436, 18437, 18438, 18560, 18688, 18816])
set_option maxRecDepth 100000 in
theorem z_ke1_ok : z_chk z_D s_P (z_clq z_D z_ke1.2.2.2 s_P []) 3000 z_ke1 = true := by decide +kernel
theorem z_ke1_s {J : aH → Prop} (hJ : z_jl J) {X : aX} : z_spec J z_D s_P X z_ke1 := z_ctx_ok (z_hlen hJ) (fun H0 C S => z_clq_ok (z_hlen hJ) (z_nil) _ H0 C S) z_ke1_ok
def z_ke2 : zQ := ((163, 1, 1, 2), [(0, ([(0, 1)], [(1, 3, 2147483647)], [], [some (.inl (.ref 2)), some (.inr (0, 0))]), [(0, 0, 1), (0, 0, 0)])], [([], [], [], [some (.inl (.int 0))])], [17408, 17409, 17410, 17411, 17412, 17413, 17414, 17536, 17664, 17792, 17920, 17921, 17922, 17923, 17924, 17925, 17926, 18048, 18176, 18304, 18432, 18433, 18434, 18435, 18436, 18437, 18438, 18560, 18688, 18816])
set_option maxRecDepth 100000 in
theorem z_ke2_ok : z_chk z_D s_P (z_clq z_D z_ke2.2.2.2 s_P []) 3000 z_ke2 = true := by decide +kernel
theorem z_ke2_s {J : aH → Prop} (hJ : z_jl J) {X : aX} : z_spec J z_D s_P X z_ke2 := z_ctx_ok (z_hlen hJ) (fun H0 C S => z_clq_ok (z_hlen hJ) (z_nil) _ H0 C S) z_ke2_ok
