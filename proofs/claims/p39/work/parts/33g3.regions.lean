/-! ===== v5: contexts with narrower entries (laid by wip/tools/reg.py) ===== -/
def z_fo0 : zQ := ((21, 1, 3, 2), [(0, ([(0, 1), (0, 2), (1, 128)], [(1, 0, 9), (1, (-1), 1), (1, 0, 10)], [(0, 2, (-1))], [some (.inl (.ref 2)), some (.inr (0, 0)), some (.inr (1, 0))]), [(0, 0, 1), (0, 0, 0)])], [([], [], [], [some (.inl (.int 1))])], [136, 137, 143])
set_option maxRecDepth 100000 in
theorem z_fo0_ok : z_chk z_D s_P (z_clq z_D z_fo0.2.2.2 s_P []) 3000 z_fo0 = true := by decide +kernel
theorem z_fo0_s {J : aH → Prop} (hJ : z_jl J) {X : aX} : z_spec J z_D s_P X z_fo0 := z_ctx_ok (z_hlen hJ) (fun H0 C S => z_clq_ok (z_hlen hJ) (z_nil) _ H0 C S) z_fo0_ok
def z_fo1 : zQ := ((21, 1, 3, 2), [(0, ([(0, 1), (0, 2), (1, 128)], [(1, (-2147483648), (-1)), (1, (-2147483648), 2147483647), (1, 0, 10)], [], [some (.inl (.ref 2)), some (.inr (0, 0)), some (.inr (1, 0))]), [(0, 0, 1), (0, 0, 0)])], [([], [], [], [some (.inl (.int 0))])], [])
set_option maxRecDepth 100000 in
theorem z_fo1_ok : z_chk z_D s_P (z_clq z_D z_fo1.2.2.2 s_P []) 3000 z_fo1 = true := by decide +kernel
theorem z_fo1_s {J : aH → Prop} (hJ : z_jl J) {X : aX} : z_spec J z_D s_P X z_fo1 := z_ctx_ok (z_hlen hJ) (fun H0 C S => z_clq_ok (z_hlen hJ) (z_nil) _ H0 C S) z_fo1_ok
def z_fo2 : zQ := ((21, 1, 3, 2), [(0, ([(0, 1), (0, 2), (1, 128)], [(1, (-2147483648), 2147483647), (1, (-2147483648), 2147483647), (1, 0, 10)], [(2, 0, 0)], [some (.inl (.ref 2)), some (.inr (0, 0)), some (.inr (1, 0))]), [(0, 0, 1), (0, 0, 0)])], [([], [], [], [some (.inl (.int 0))])], [])
set_option maxRecDepth 100000 in
theorem z_fo2_ok : z_chk z_D s_P (z_clq z_D z_fo2.2.2.2 s_P []) 3000 z_fo2 = true := by decide +kernel
theorem z_fo2_s {J : aH → Prop} (hJ : z_jl J) {X : aX} : z_spec J z_D s_P X z_fo2 := z_ctx_ok (z_hlen hJ) (fun H0 C S => z_clq_ok (z_hlen hJ) (z_nil) _ H0 C S) z_fo2_ok
def z_fo3 : zQ := ((21, 1, 3, 2), [(0, ([(0, 1), (0, 2), (1, 128)], [(1, (-2147483648), 2147483647), (1, (-2147483648), (-2)), (1, 0, 10)], [], [some (.inl (.ref 2)), some (.inr (0, 0)), some (.inr (1, 0))]), [(0, 0, 1), (0, 0, 0)])], [([], [], [], [some (.inl (.int 0))])], [])
set_option maxRecDepth 100000 in
theorem z_fo3_ok : z_chk z_D s_P (z_clq z_D z_fo3.2.2.2 s_P []) 3000 z_fo3 = true := by decide +kernel
theorem z_fo3_s {J : aH → Prop} (hJ : z_jl J) {X : aX} : z_spec J z_D s_P X z_fo3 := z_ctx_ok (z_hlen hJ) (fun H0 C S => z_clq_ok (z_hlen hJ) (z_nil) _ H0 C S) z_fo3_ok
def z_fo4 : zQ := ((21, 1, 3, 2), [(0, ([(0, 1), (0, 2), (1, 128)], [(1, (-2147483648), 2147483647), (1, 2, 2147483647), (1, 0, 10)], [], [some (.inl (.ref 2)), some (.inr (0, 0)), some (.inr (1, 0))]), [(0, 0, 1), (0, 0, 0)])], [([], [], [], [some (.inl (.int 0))])], [])
set_option maxRecDepth 100000 in
theorem z_fo4_ok : z_chk z_D s_P (z_clq z_D z_fo4.2.2.2 s_P []) 3000 z_fo4 = true := by decide +kernel
theorem z_fo4_s {J : aH → Prop} (hJ : z_jl J) {X : aX} : z_spec J z_D s_P X z_fo4 := z_ctx_ok (z_hlen hJ) (fun H0 C S => z_clq_ok (z_hlen hJ) (z_nil) _ H0 C S) z_fo4_ok
def z_se0 : zQ := ((24, 2, 3, 2), [(0, ([(0, 1), (0, 2), (1, 128)], [(1, 0, 9), (1, (-1), 1), (1, 0, 10)], [(0, 2, (-1))], [some (.inl (.ref 2)), some (.inr (0, 0)), some (.inr (1, 0))]), [(0, 0, 1), (0, 0, 0)])], [([], [], [], [some (.inl (.int 1))])], [138, 139, 140, 1024])
set_option maxRecDepth 100000 in
theorem z_se0_ok : z_chk z_D s_P (z_clq z_D z_se0.2.2.2 s_P [z_x5]) 3000 z_se0 = true := by decide +kernel
theorem z_se0_s {J : aH → Prop} (hJ : z_jl J) {X : aX} : z_spec J z_D s_P X z_se0 := z_ctx_ok (z_hlen hJ) (fun H0 C S => z_clq_ok (z_hlen hJ) (z_cons (z_x5_s hJ) (z_nil)) _ H0 C S) z_se0_ok
def z_se1 : zQ := ((24, 2, 3, 2), [(0, ([(0, 1), (0, 2), (1, 128)], [(1, (-2147483648), (-1)), (1, (-2147483648), 2147483647), (1, 0, 10)], [], [some (.inl (.ref 2)), some (.inr (0, 0)), some (.inr (1, 0))]), [(0, 0, 1), (0, 0, 0)])], [([], [], [], [some (.inl (.int 0))])], [])
set_option maxRecDepth 100000 in
theorem z_se1_ok : z_chk z_D s_P (z_clq z_D z_se1.2.2.2 s_P []) 3000 z_se1 = true := by decide +kernel
theorem z_se1_s {J : aH → Prop} (hJ : z_jl J) {X : aX} : z_spec J z_D s_P X z_se1 := z_ctx_ok (z_hlen hJ) (fun H0 C S => z_clq_ok (z_hlen hJ) (z_nil) _ H0 C S) z_se1_ok
def z_se2 : zQ := ((24, 2, 3, 2), [(0, ([(0, 1), (0, 2), (1, 128)], [(1, (-2147483648), 2147483647), (1, (-2147483648), 2147483647), (1, 0, 10)], [(2, 0, 0)], [some (.inl (.ref 2)), some (.inr (0, 0)), some (.inr (1, 0))]), [(0, 0, 1), (0, 0, 0)])], [([], [], [], [some (.inl (.int 0))])], [])
set_option maxRecDepth 100000 in
theorem z_se2_ok : z_chk z_D s_P (z_clq z_D z_se2.2.2.2 s_P []) 3000 z_se2 = true := by decide +kernel
theorem z_se2_s {J : aH → Prop} (hJ : z_jl J) {X : aX} : z_spec J z_D s_P X z_se2 := z_ctx_ok (z_hlen hJ) (fun H0 C S => z_clq_ok (z_hlen hJ) (z_nil) _ H0 C S) z_se2_ok
def z_se3 : zQ := ((24, 2, 3, 2), [(0, ([(0, 1), (0, 2), (1, 128)], [(1, (-2147483648), 2147483647), (1, (-2147483648), (-2)), (1, 0, 10)], [], [some (.inl (.ref 2)), some (.inr (0, 0)), some (.inr (1, 0))]), [(0, 0, 1), (0, 0, 0)])], [([], [], [], [some (.inl (.int 0))])], [])
set_option maxRecDepth 100000 in
theorem z_se3_ok : z_chk z_D s_P (z_clq z_D z_se3.2.2.2 s_P []) 3000 z_se3 = true := by decide +kernel
theorem z_se3_s {J : aH → Prop} (hJ : z_jl J) {X : aX} : z_spec J z_D s_P X z_se3 := z_ctx_ok (z_hlen hJ) (fun H0 C S => z_clq_ok (z_hlen hJ) (z_nil) _ H0 C S) z_se3_ok
def z_se4 : zQ := ((24, 2, 3, 2), [(0, ([(0, 1), (0, 2), (1, 128)], [(1, (-2147483648), 2147483647), (1, 2, 2147483647), (1, 0, 10)], [], [some (.inl (.ref 2)), some (.inr (0, 0)), some (.inr (1, 0))]), [(0, 0, 1), (0, 0, 0)])], [([], [], [], [some (.inl (.int 0))])], [])
set_option maxRecDepth 100000 in
theorem z_se4_ok : z_chk z_D s_P (z_clq z_D z_se4.2.2.2 s_P []) 3000 z_se4 = true := by decide +kernel
theorem z_se4_s {J : aH → Prop} (hJ : z_jl J) {X : aX} : z_spec J z_D s_P X z_se4 := z_ctx_ok (z_hlen hJ) (fun H0 C S => z_clq_ok (z_hlen hJ) (z_nil) _ H0 C S) z_se4_ok
