/-! ===== v5: contexts with narrower entries (laid by wip/tools/reg.py) ===== -/
def z_sg0 : zQ := ((74, 1, 2, 2), [(0, ([(0, 1), (1, 1537)], [(1, (-2147483648), 2147483647), (1, 0, 56)], [], [some (.inl (.ref 2)), some (.inr (0, 0))]), [(0, 0, 1), (0, 0, 0)])], [([(0, 0), (1, 1537), (2, 1)], [(1, 4, 60), (1, 4, 60), (1, 0, 56)], [(0, 2, 4), (2, 0, (-4)), (1, 2, 4), (2, 1, (-4))], [some (.inr (0, 0))])], [1537, 1664])
set_option maxRecDepth 100000 in
theorem z_sg0_ok : z_chk z_D s_P (z_clq z_D z_sg0.2.2.2 s_P []) 3000 z_sg0 = true := by decide +kernel
theorem z_sg0_s {J : aH → Prop} (hJ : z_jl J) {X : aX} : z_spec J z_D s_P X z_sg0 := z_ctx_ok (z_hlen hJ) (fun H0 C S => z_clq_ok (z_hlen hJ) (z_nil) _ H0 C S) z_sg0_ok
def z_sg1 : zQ := ((74, 1, 2, 2), [(0, ([(0, 1), (1, 1537)], [(1, (-2147483648), 2147483647), (1, 57, 60)], [], [some (.inl (.ref 2)), some (.inr (0, 0))]), [(0, 0, 1), (0, 0, 0)])], [([], [], [], [some (.inl (.int (-1)))])], [])
set_option maxRecDepth 100000 in
theorem z_sg1_ok : z_chk z_D s_P (z_clq z_D z_sg1.2.2.2 s_P []) 3000 z_sg1 = true := by decide +kernel
theorem z_sg1_s {J : aH → Prop} (hJ : z_jl J) {X : aX} : z_spec J z_D s_P X z_sg1 := z_ctx_ok (z_hlen hJ) (fun H0 C S => z_clq_ok (z_hlen hJ) (z_nil) _ H0 C S) z_sg1_ok
def z_en0 : zQ := ((76, 0, 2, 2), [(0, ([(0, 1), (1, 1537)], [(1, 0, 60), (1, 0, 60)], [(0, 1, 0)], [some (.inl (.ref 2)), some (.inr (0, 0))]), [(0, 0, 1), (0, 0, 0)])], [([(1, 1537), (2, 0)], [(1, 0, 60), (1, 0, 60)], [(0, 1, 0), (1, 0, 0)], [some (.inl (.int 1))])], [1537])
set_option maxRecDepth 100000 in
theorem z_en0_ok : z_chk z_D s_P (z_clq z_D z_en0.2.2.2 s_P []) 3000 z_en0 = true := by decide +kernel
theorem z_en0_s {J : aH → Prop} (hJ : z_jl J) {X : aX} : z_spec J z_D s_P X z_en0 := z_ctx_ok (z_hlen hJ) (fun H0 C S => z_clq_ok (z_hlen hJ) (z_nil) _ H0 C S) z_en0_ok
def z_en1 : zQ := ((76, 0, 1, 2), [(0, ([(0, 1)], [(1, (-2147483648), (-1))], [], [some (.inl (.ref 2)), some (.inr (0, 0))]), [(0, 0, 1), (0, 0, 0)])], [([], [], [], [some (.inl (.int 0))])], [])
set_option maxRecDepth 100000 in
theorem z_en1_ok : z_chk z_D s_P (z_clq z_D z_en1.2.2.2 s_P []) 3000 z_en1 = true := by decide +kernel
theorem z_en1_s {J : aH → Prop} (hJ : z_jl J) {X : aX} : z_spec J z_D s_P X z_en1 := z_ctx_ok (z_hlen hJ) (fun H0 C S => z_clq_ok (z_hlen hJ) (z_nil) _ H0 C S) z_en1_ok
def z_en2 : zQ := ((76, 0, 2, 2), [(0, ([(0, 1), (1, 1537)], [(1, (-2147483648), 2147483647), (1, 0, 60)], [(1, 0, (-1))], [some (.inl (.ref 2)), some (.inr (0, 0))]), [(0, 0, 1), (0, 0, 0)])], [([], [], [], [some (.inl (.int 0))])], [])
set_option maxRecDepth 100000 in
theorem z_en2_ok : z_chk z_D s_P (z_clq z_D z_en2.2.2.2 s_P []) 3000 z_en2 = true := by decide +kernel
theorem z_en2_s {J : aH → Prop} (hJ : z_jl J) {X : aX} : z_spec J z_D s_P X z_en2 := z_ctx_ok (z_hlen hJ) (fun H0 C S => z_clq_ok (z_hlen hJ) (z_nil) _ H0 C S) z_en2_ok
