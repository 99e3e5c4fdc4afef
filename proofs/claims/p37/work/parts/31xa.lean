/-! ===== v2: contexts of the class (laid by wip/tools/print5.py) ===== -/
/-- $Net.take 3 -/
def z_x0 : zQ := ((16, 0, 3, 2), [(0, ([(0, 1), (0, 2), (1, 128)], [(1, 0, 511), (1, 1, 10000000), (1, 0, 9)], [], [some (.inl (.ref 3)), some (.inr (0, 0)), some (.inr (1, 0)), none, none, none]), [(0, 0, 2), (0, 0, 0)]),
  (32, ([(0, 1), (0, 2), (0, 3), (0, 4), (0, 5), (1, 128)], [(1, 0, 511), (1, 1, 10000000), (1, 0, 9), (1, 0, 3), (1, 0, 9), (1, 0, 9)], [(2, 5, 0), (3, 2, 0), (3, 4, 0), (3, 5, 1), (4, 2, 0), (4, 5, 0), (5, 2, 0)], [some (.inl (.ref 3)), some (.inr (0, 0)), some (.inr (1, 0)), some (.inr (2, 0)), some (.inr (3, 0)), some (.inr (4, 0))]), [(0, 0, 1), (1, 4, 9)])], [([(1, 128), (1, 143)], [(1, 1, 1), (1, 0, 0)], [], [some (.inl (.int 0))]),
  ([(0, 0), (1, 128), (1, 143)], [(1, 0, 9), (1, 1, 10), (1, 0, 0)], [(0, 1, (-1)), (1, 0, 1)], [some (.inr (0, 0))])], [128, 129, 143, 256, 384, 512, 640, 896])
set_option maxRecDepth 100000 in
theorem z_x0_ok : z_chk z_D s_P (z_clq z_D z_x0.2.2.2 s_P []) 3000 z_x0 = true := z_chk2_ok (by decide +kernel)
theorem z_x0_s {J : aH → Prop} (hJ : z_jl J) {X : aX} : z_spec J z_D s_P X z_x0 := z_ctx_ok (z_hlen hJ) (fun H0 C S => z_clq_ok (z_hlen hJ) (z_nil) _ H0 C S) z_x0_ok
/-- .node 2 -/
def z_x1 : zQ := ((12, 2, 2, 2), [(0, ([(0, 1), (0, 2)], [(1, (-2147483648), 2147483647), (1, (-2147483648), 2147483647)], [], [some (.inl (.ref 2)), some (.inr (0, 0)), some (.inr (1, 0))]), [(0, 0, 1), (0, 0, 0)])], [([], [], [], [some (.inl (.int (-1)))]),
  ([(1, 128), (1, 143)], [(1, 1, 1), (1, 0, 0)], [], [some (.inl (.int 0))]),
  ([(0, 0), (1, 128), (1, 143)], [(1, 0, 9), (1, 1, 10), (1, 0, 0)], [(0, 1, (-1)), (1, 0, 1)], [some (.inr (0, 0))])], [128, 129, 143, 256, 384, 512, 640, 896])
set_option maxRecDepth 100000 in
theorem z_x1_ok : z_chk z_D s_P (z_clq z_D z_x1.2.2.2 s_P [z_x0]) 3000 z_x1 = true := z_chk2_ok (by decide +kernel)
theorem z_x1_s {J : aH → Prop} (hJ : z_jl J) {X : aX} : z_spec J z_D s_P X z_x1 := z_ctx_ok (z_hlen hJ) (fun H0 C S => z_clq_ok (z_hlen hJ) (z_cons (z_x0_s hJ) (z_nil)) _ H0 C S) z_x1_ok
/-- .set 2 -/
def z_x2 : zQ := ((17, 2, 4, 2), [(0, ([(0, 1), (0, 2), (0, 3), (1, 128)], [(1, (-2147483648), 2147483647), (1, (-2147483648), 2147483647), (1, (-2147483648), 2147483647), (1, 0, 10)], [], [some (.inl (.ref 2)), some (.inr (0, 0)), some (.inr (1, 0)), some (.inr (2, 0))]), [(0, 0, 1), (0, 0, 0)])], [([], [], [], [some (.inl (.int (-1)))]),
  ([(0, 0), (2, 3), (1, 143)], [(1, (-2147483648), 2147483647), (1, 1, 10), (1, 0, 0)], [], [some (.inr (0, 0))])], [143, 768])
set_option maxRecDepth 100000 in
theorem z_x2_ok : z_chk z_D s_P (z_clq z_D z_x2.2.2.2 s_P []) 3000 z_x2 = true := z_chk2_ok (by decide +kernel)
theorem z_x2_s {J : aH → Prop} (hJ : z_jl J) {X : aX} : z_spec J z_D s_P X z_x2 := z_ctx_ok (z_hlen hJ) (fun H0 C S => z_clq_ok (z_hlen hJ) (z_nil) _ H0 C S) z_x2_ok
/-- .force 2 -/
def z_x3 : zQ := ((21, 1, 3, 2), [(0, ([(0, 1), (0, 2), (1, 128)], [(1, (-2147483648), 2147483647), (1, (-2147483648), 2147483647), (1, 0, 10)], [], [some (.inl (.ref 2)), some (.inr (0, 0)), some (.inr (1, 0))]), [(0, 0, 1), (0, 0, 0)])], [([], [], [], [some (.inl (.int 0))]),
  ([(2, 2), (1, 143)], [(1, 1, 10), (1, 0, 0)], [], [some (.inl (.int 1))])], [136, 137, 143])
set_option maxRecDepth 100000 in
theorem z_x3_ok : z_chk z_D s_P (z_clq z_D z_x3.2.2.2 s_P []) 3000 z_x3 = true := z_chk2_ok (by decide +kernel)
theorem z_x3_s {J : aH → Prop} (hJ : z_jl J) {X : aX} : z_spec J z_D s_P X z_x3 := z_ctx_ok (z_hlen hJ) (fun H0 C S => z_clq_ok (z_hlen hJ) (z_nil) _ H0 C S) z_x3_ok
/-- $Net.placeOf 3 -/
def z_x4 : zQ := ((26, 0, 2, 2), [(0, ([(0, 1), (1, 140)], [(1, 0, 9), (1, 0, 10)], [], [some (.inl (.ref 3)), some (.inr (0, 0)), none]), [(0, 0, 2), (0, 0, 0)]),
  (2, ([(0, 1), (0, 2), (1, 140), (2, 1)], [(1, 0, 9), (1, 0, 10), (1, 0, 10), (1, 0, 10)], [(1, 2, 0), (2, 3, 0), (3, 2, 0)], [some (.inl (.ref 3)), some (.inr (0, 0)), some (.inr (1, 0))]), [(0, 0, 1), (1, 1, 10)])], [([], [], [], [some (.inl (.int (-1)))]),
  ([(0, 0), (2, 1)], [(1, 0, 9), (1, 1, 10)], [(0, 1, (-1))], [some (.inr (0, 0))])], [])
set_option maxRecDepth 100000 in
theorem z_x4_ok : z_chk z_D s_P (z_clq z_D z_x4.2.2.2 s_P []) 3000 z_x4 = true := z_chk2_ok (by decide +kernel)
theorem z_x4_s {J : aH → Prop} (hJ : z_jl J) {X : aX} : z_spec J z_D s_P X z_x4 := z_ctx_ok (z_hlen hJ) (fun H0 C S => z_clq_ok (z_hlen hJ) (z_nil) _ H0 C S) z_x4_ok
/-- $Net.unsee 3 -/
def z_x5 : zQ := ((25, 1, 1, 2), [(0, ([(0, 1)], [(1, 0, 9)], [], [some (.inl (.ref 3)), some (.inr (0, 0)), none, none]), [(0, 0, 2), (0, 0, 0)]),
  (24, ([(0, 1), (0, 2), (0, 3), (1, 140)], [(1, 0, 9), (1, 0, 9), (1, 0, 9), (1, 0, 9)], [(1, 2, 0), (1, 3, 1), (2, 3, 1)], [some (.inl (.ref 3)), some (.inr (0, 0)), some (.inr (1, 0)), some (.inr (2, 0))]), [(0, 0, 1), (1, 2, 9)])], [([], [], [], [])], [138, 139, 140, 1024])
set_option maxRecDepth 100000 in
theorem z_x5_ok : z_chk z_D s_P (z_clq z_D z_x5.2.2.2 s_P [z_x4]) 3000 z_x5 = true := z_chk2_ok (by decide +kernel)
theorem z_x5_s {J : aH → Prop} (hJ : z_jl J) {X : aX} : z_spec J z_D s_P X z_x5 := z_ctx_ok (z_hlen hJ) (fun H0 C S => z_clq_ok (z_hlen hJ) (z_cons (z_x4_s hJ) (z_nil)) _ H0 C S) z_x5_ok
/-- .see 2 -/
def z_x6 : zQ := ((24, 2, 3, 2), [(0, ([(0, 1), (0, 2), (1, 128)], [(1, (-2147483648), 2147483647), (1, (-2147483648), 2147483647), (1, 0, 10)], [], [some (.inl (.ref 2)), some (.inr (0, 0)), some (.inr (1, 0))]), [(0, 0, 1), (0, 0, 0)])], [([], [], [], [some (.inl (.int 0))]),
  ([(2, 2)], [(1, 1, 10)], [], [some (.inl (.int 1))])], [138, 139, 140, 1024])
set_option maxRecDepth 100000 in
theorem z_x6_ok : z_chk z_D s_P (z_clq z_D z_x6.2.2.2 s_P [z_x5]) 3000 z_x6 = true := z_chk2_ok (by decide +kernel)
theorem z_x6_s {J : aH → Prop} (hJ : z_jl J) {X : aX} : z_spec J z_D s_P X z_x6 := z_ctx_ok (z_hlen hJ) (fun H0 C S => z_clq_ok (z_hlen hJ) (z_cons (z_x5_s hJ) (z_nil)) _ H0 C S) z_x6_ok
/-- $Net.numberIn 3 -/
def z_x7 : zQ := ((31, 0, 2, 2), [(0, ([(0, 1), (0, 2)], [(1, 0, 9), (1, 0, 511)], [], [some (.inl (.ref 3)), some (.inr (0, 0)), some (.inr (1, 0)), none, none]), [(0, 0, 2), (0, 0, 0)]),
  (32, ([(0, 1), (0, 2), (0, 3), (0, 4)], [(1, 0, 9), (1, 0, 511), (1, 0, 7), (1, 0, 3)], [], [some (.inl (.ref 3)), some (.inr (0, 0)), some (.inr (1, 0)), some (.inr (2, 0)), some (.inr (3, 0))]), [(0, 0, 1), (1, 3, 3)])], [([(0, 0)], [(1, (-2147483648), 2147483647)], [], [some (.inr (0, 0))])], [])
set_option maxRecDepth 100000 in
theorem z_x7_ok : z_chk z_D s_P (z_clq z_D z_x7.2.2.2 s_P []) 3000 z_x7 = true := z_chk2_ok (by decide +kernel)
theorem z_x7_s {J : aH → Prop} (hJ : z_jl J) {X : aX} : z_spec J z_D s_P X z_x7 := z_ctx_ok (z_hlen hJ) (fun H0 C S => z_clq_ok (z_hlen hJ) (z_nil) _ H0 C S) z_x7_ok
/-- $Net.widen 3 -/
def z_x8 : zQ := ((30, 1, 1, 2), [(0, ([(0, 1)], [(1, 0, 9)], [], [some (.inl (.ref 3)), some (.inr (0, 0)), none, none, none, none]), [(0, 0, 2), (0, 0, 0)]),
  (14, ([(0, 1), (0, 2), (0, 3), (0, 4)], [(1, 0, 9), (1, 1, 512), (1, (-2147483648), 2147483647), (1, 0, 512)], [(3, 1, 0)], [some (.inl (.ref 3)), some (.inr (0, 0)), some (.inr (1, 0)), some (.inr (2, 0)), some (.inr (3, 0)), none]), [(0, 0, 1), (1, 3, 512)])], [([], [], [], [])], [1152])
set_option maxRecDepth 100000 in
theorem z_x8_ok : z_chk z_D s_P (z_clq z_D z_x8.2.2.2 s_P [z_x7]) 3000 z_x8 = true := z_chk2_ok (by decide +kernel)
theorem z_x8_s {J : aH → Prop} (hJ : z_jl J) {X : aX} : z_spec J z_D s_P X z_x8 := z_ctx_ok (z_hlen hJ) (fun H0 C S => z_clq_ok (z_hlen hJ) (z_cons (z_x7_s hJ) (z_nil)) _ H0 C S) z_x8_ok
/-- $Net.refresh 3 -/
def z_x9 : zQ := ((29, 2, 0, 2), [(0, ([], [], [], [some (.inl (.ref 3)), none]), [(0, 0, 2), (0, 0, 0)]),
  (17, ([(0, 1), (1, 128), (1, 143)], [(1, 0, 10), (1, 0, 10), (1, 0, 0)], [(0, 1, 0)], [some (.inl (.ref 3)), some (.inr (0, 0))]), [(0, 0, 1), (1, 0, 10)])], [([(1, 143)], [(1, 1, 1)], [], [])], [143, 1152])
set_option maxRecDepth 100000 in
theorem z_x9_ok : z_chk z_D s_P (z_clq z_D z_x9.2.2.2 s_P [z_x8]) 3000 z_x9 = true := z_chk2_ok (by decide +kernel)
theorem z_x9_s {J : aH → Prop} (hJ : z_jl J) {X : aX} : z_spec J z_D s_P X z_x9 := z_ctx_ok (z_hlen hJ) (fun H0 C S => z_clq_ok (z_hlen hJ) (z_cons (z_x8_s hJ) (z_nil)) _ H0 C S) z_x9_ok
/-- .weight 2 -/
def z_x10 : zQ := ((28, 3, 1, 2), [(0, ([(0, 1)], [(1, (-2147483648), 2147483647)], [], [some (.inl (.ref 2)), some (.inr (0, 0))]), [(0, 0, 1), (0, 0, 0)])], [([(1, 143)], [(1, 1, 1)], [], [some (.inl (.int (-1)))]),
  ([(0, 0), (1, 143)], [(1, (-2147483648), 2147483647), (1, 1, 1)], [], [some (.inr (0, 0))])], [143, 1152])
set_option maxRecDepth 100000 in
theorem z_x10_ok : z_chk z_D s_P (z_clq z_D z_x10.2.2.2 s_P [z_x9]) 3000 z_x10 = true := z_chk2_ok (by decide +kernel)
theorem z_x10_s {J : aH → Prop} (hJ : z_jl J) {X : aX} : z_spec J z_D s_P X z_x10 := z_ctx_ok (z_hlen hJ) (fun H0 C S => z_clq_ok (z_hlen hJ) (z_cons (z_x9_s hJ) (z_nil)) _ H0 C S) z_x10_ok
/-- $Net.weigh 3 -/
def z_x11 : zQ := ((36, 1, 2, 2), [(0, ([(0, 1), (0, 2)], [(1, 0, 1023), (1, 0, 1023)], [], [some (.inl (.ref 3)), some (.inr (0, 0)), some (.inr (1, 0)), none, none, none, none, none]), [(0, 0, 2), (0, 0, 0)]),
  (30, ([(0, 1), (0, 2), (0, 3), (0, 4), (0, 5), (0, 6), (0, 7)], [(1, 0, 1023), (1, 0, 1023), (1, 0, 1023), (1, (-2147483648), 2147483647), (1, (-2147483648), 2147483647), (1, 0, 1023), (1, 0, 2147483647)], [], [some (.inl (.ref 3)), some (.inr (0, 0)), some (.inr (1, 0)), some (.inr (2, 0)), some (.inr (3, 0)), some (.inr (4, 0)), some (.inr (5, 0)), some (.inr (6, 0))]), [(0, 0, 1), (1, 6, 2147483647)])], [([(0, 0)], [(1, (-2147483648), 2147483647)], [], [some (.inr (0, 0))])], [])
set_option maxRecDepth 100000 in
theorem z_x11_ok : z_chk z_D s_P (z_clq z_D z_x11.2.2.2 s_P []) 3000 z_x11 = true := z_chk2_ok (by decide +kernel)
theorem z_x11_s {J : aH → Prop} (hJ : z_jl J) {X : aX} : z_spec J z_D s_P X z_x11 := z_ctx_ok (z_hlen hJ) (fun H0 C S => z_clq_ok (z_hlen hJ) (z_nil) _ H0 C S) z_x11_ok
/-- $Fraction.commonDivisor  -/
def z_x12 : zQ := ((41, 0, 2, 2), [(0, ([(0, 0), (0, 2)], [(2, (-9223372036854775808), 9223372036854775807), (2, (-9223372036854775808), 9223372036854775807)], [], [some (.inr (0, 0)), none, some (.inr (1, 0)), none, none, none, none, none, none, none, none]), [(0, 0, 2), (0, 0, 0)]),
  (9, ([(0, 0), (0, 2), (0, 4), (0, 6), (0, 8)], [(2, (-9223372036854775808), 9223372036854775807), (2, (-9223372036854775808), 9223372036854775807), (2, (-9223372036854775808), 9223372036854775807), (2, (-9223372036854775808), 9223372036854775807), (1, 0, 255)], [], [some (.inr (0, 0)), none, some (.inr (1, 0)), none, some (.inr (2, 0)), none, some (.inr (3, 0)), none, some (.inr (4, 0)), none, none]), [(0, 0, 1), (1, 4, 200)])], [([(0, 0)], [(2, (-9223372036854775808), 9223372036854775807)], [], [some (.inr (0, 0))])], [])
set_option maxRecDepth 100000 in
theorem z_x12_ok : z_chk z_D s_P (z_clq z_D z_x12.2.2.2 s_P []) 3000 z_x12 = true := z_chk2_ok (by decide +kernel)
theorem z_x12_s {J : aH → Prop} (hJ : z_jl J) {X : aX} : z_spec J z_D s_P X z_x12 := z_ctx_ok (z_hlen hJ) (fun H0 C S => z_clq_ok (z_hlen hJ) (z_nil) _ H0 C S) z_x12_ok
/-- $Fraction.put 153 -/
def z_x13 : zQ := ((39, 1, 2, 2), [(0, ([(0, 1), (0, 3)], [(2, (-9223372036854775808), 9223372036854775807), (2, (-9223372036854775808), 9223372036854775807)], [], [some (.inl (.ref 153)), some (.inr (0, 0)), none, some (.inr (1, 0)), none, none, none]), [(0, 0, 1), (0, 0, 0)])], [([], [], [], [])], [19328, 19329])
set_option maxRecDepth 100000 in
theorem z_x13_ok : z_chk z_D s_P (z_clq z_D z_x13.2.2.2 s_P [z_x12]) 3000 z_x13 = true := z_chk2_ok (by decide +kernel)
theorem z_x13_s {J : aH → Prop} (hJ : z_jl J) {X : aX} : z_spec J z_D s_P X z_x13 := z_ctx_ok (z_hlen hJ) (fun H0 C S => z_clq_ok (z_hlen hJ) (z_cons (z_x12_s hJ) (z_nil)) _ H0 C S) z_x13_ok
/-- $Net.putChance 3 153 -/
def z_x14 : zQ := ((34, 4, 2, 2), [(0, ([(0, 1), (1, 128)], [(1, 0, 9), (1, 1, 10)], [(0, 1, (-1))], [some (.inl (.ref 3)), some (.inr (0, 0)), some (.inl (.ref 153)), none]), [(0, 0, 1), (0, 0, 0)])], [([(2, 1)], [(1, 1, 10)], [], [some (.inl (.int 0))]),
  ([(2, 1)], [(1, 1, 10)], [], [some (.inl (.int 1))])], [19328, 19329])
set_option maxRecDepth 100000 in
theorem z_x14_ok : z_chk z_D s_P (z_clq z_D z_x14.2.2.2 s_P [z_x13, z_x11]) 3000 z_x14 = true := z_chk2_ok (by decide +kernel)
theorem z_x14_s {J : aH → Prop} (hJ : z_jl J) {X : aX} : z_spec J z_D s_P X z_x14 := z_ctx_ok (z_hlen hJ) (fun H0 C S => z_clq_ok (z_hlen hJ) (z_cons (z_x13_s hJ) (z_cons (z_x11_s hJ) (z_nil))) _ H0 C S) z_x14_ok
/-- $Row.add 12 -/
def z_x15 : zQ := ((45, 0, 1, 2), [(0, ([(0, 1)], [(2, (-9223372036854775808), 9223372036854775807)], [], [some (.inl (.ref 12)), some (.inr (0, 0)), none]), [(0, 0, 1), (0, 0, 0)])], [([(1, 1281)], [(1, 1, 8)], [], [])], [1281, 1408])
set_option maxRecDepth 100000 in
theorem z_x15_ok : z_chk z_D s_P (z_clq z_D z_x15.2.2.2 s_P []) 3000 z_x15 = true := z_chk2_ok (by decide +kernel)
theorem z_x15_s {J : aH → Prop} (hJ : z_jl J) {X : aX} : z_spec J z_D s_P X z_x15 := z_ctx_ok (z_hlen hJ) (fun H0 C S => z_clq_ok (z_hlen hJ) (z_nil) _ H0 C S) z_x15_ok
/-- $Row.tellToo 12 153 -/
def z_x16 : zQ := ((44, 1, 1, 2), [(0, ([(1, 1281)], [(1, 0, 0)], [], [some (.inl (.ref 12)), some (.inl (.ref 153))]), [(0, 0, 1), (0, 0, 0)])], [([(1, 1281)], [(1, 1, 8)], [], [])], [1281, 1408])
set_option maxRecDepth 100000 in
theorem z_x16_ok : z_chk z_D s_P (z_clq z_D z_x16.2.2.2 s_P [z_x15]) 3000 z_x16 = true := z_chk2_ok (by decide +kernel)
theorem z_x16_s {J : aH → Prop} (hJ : z_jl J) {X : aX} : z_spec J z_D s_P X z_x16 := z_ctx_ok (z_hlen hJ) (fun H0 C S => z_clq_ok (z_hlen hJ) (z_cons (z_x15_s hJ) (z_nil)) _ H0 C S) z_x16_ok
/-- $Row.tell 12 153 -/
def z_x17 : zQ := ((42, 2, 0, 2), [(0, ([], [], [], [some (.inl (.ref 12)), some (.inl (.ref 153))]), [(0, 0, 1), (0, 0, 0)])], [([(1, 1281)], [(1, 1, 8)], [], [])], [1281, 1408])
set_option maxRecDepth 100000 in
theorem z_x17_ok : z_chk z_D s_P (z_clq z_D z_x17.2.2.2 s_P [z_x16]) 3000 z_x17 = true := z_chk2_ok (by decide +kernel)
theorem z_x17_s {J : aH → Prop} (hJ : z_jl J) {X : aX} : z_spec J z_D s_P X z_x17 := z_ctx_ok (z_hlen hJ) (fun H0 C S => z_clq_ok (z_hlen hJ) (z_cons (z_x16_s hJ) (z_nil)) _ H0 C S) z_x17_ok
/-- .chance 2 -/
def z_x18 : zQ := ((33, 5, 2, 2), [(0, ([(0, 1), (1, 128)], [(1, (-2147483648), 2147483647), (1, 0, 10)], [], [some (.inl (.ref 2)), some (.inr (0, 0))]), [(0, 0, 1), (0, 0, 0)])], [([], [], [], [some (.inl (.int (-1)))]),
  ([(2, 1), (1, 143)], [(1, 1, 10), (1, 1, 1)], [], [some (.inl (.int (-2)))]),
  ([(2, 1), (1, 143), (1, 1281)], [(1, 1, 10), (1, 1, 1), (1, 1, 8)], [], [some (.inl (.int 0))])], [143, 1152, 1281, 1408, 19328, 19329])
set_option maxRecDepth 100000 in
theorem z_x18_ok : z_chk z_D s_P (z_clq z_D z_x18.2.2.2 s_P [z_x17, z_x14, z_x9]) 3000 z_x18 = true := z_chk2_ok (by decide +kernel)
theorem z_x18_s {J : aH → Prop} (hJ : z_jl J) {X : aX} : z_spec J z_D s_P X z_x18 := z_ctx_ok (z_hlen hJ) (fun H0 C S => z_clq_ok (z_hlen hJ) (z_cons (z_x17_s hJ) (z_cons (z_x14_s hJ) (z_cons (z_x9_s hJ) (z_nil)))) _ H0 C S) z_x18_ok
/-- .odds 2 -/
def z_x19 : zQ := ((46, 4, 2, 2), [(0, ([(0, 1), (1, 128)], [(1, (-2147483648), 2147483647), (1, 0, 10)], [], [some (.inl (.ref 2)), some (.inr (0, 0)), none, none]), [(0, 0, 1), (0, 0, 0)])], [([], [], [], [some (.inl (.int (-1)))]),
  ([(2, 1), (1, 143)], [(1, 1, 10), (1, 1, 1)], [], [some (.inl (.int (-2)))]),
  ([(2, 1), (1, 143)], [(1, 1, 10), (1, 1, 1)], [], [some (.inl (.int 1))]),
  ([(2, 1), (1, 143), (1, 1281)], [(1, 1, 10), (1, 1, 1), (1, 1, 8)], [], [some (.inl (.int 0))])], [143, 1152, 1281, 1408, 19328, 19329])
set_option maxRecDepth 100000 in
theorem z_x19_ok : z_chk z_D s_P (z_clq z_D z_x19.2.2.2 s_P [z_x17, z_x13, z_x11, z_x9]) 3000 z_x19 = true := z_chk2_ok (by decide +kernel)
theorem z_x19_s {J : aH → Prop} (hJ : z_jl J) {X : aX} : z_spec J z_D s_P X z_x19 := z_ctx_ok (z_hlen hJ) (fun H0 C S => z_clq_ok (z_hlen hJ) (z_cons (z_x17_s hJ) (z_cons (z_x13_s hJ) (z_cons (z_x11_s hJ) (z_cons (z_x9_s hJ) (z_nil))))) _ H0 C S) z_x19_ok
/-- $Net.heaviestNow 3 -/
def z_x20 : zQ := ((48, 0, 0, 2), [(0, ([], [], [], [some (.inl (.ref 3)), none, none, none]), [(0, 0, 2), (0, 0, 0)]),
  (11, ([(0, 1), (0, 2), (0, 3)], [(1, (-1), 1023), (1, 1, 1024), (1, 0, 1024)], [(0, 1, 0), (0, 2, (-1)), (2, 1, 0)], [some (.inl (.ref 3)), some (.inr (0, 0)), some (.inr (1, 0)), some (.inr (2, 0))]), [(0, 0, 1), (1, 2, 1024)])], [([(0, 0)], [(1, (-1), 1023)], [], [some (.inr (0, 0))])], [])
set_option maxRecDepth 100000 in
theorem z_x20_ok : z_chk z_D s_P (z_clq z_D z_x20.2.2.2 s_P []) 3000 z_x20 = true := z_chk2_ok (by decide +kernel)
theorem z_x20_s {J : aH → Prop} (hJ : z_jl J) {X : aX} : z_spec J z_D s_P X z_x20 := z_ctx_ok (z_hlen hJ) (fun H0 C S => z_clq_ok (z_hlen hJ) (z_nil) _ H0 C S) z_x20_ok
/-- .likely 2 -/
def z_x21 : zQ := ((47, 3, 0, 2), [(0, ([], [], [], [some (.inl (.ref 2)), none, none]), [(0, 0, 1), (0, 0, 0)])], [([(1, 143)], [(1, 1, 1)], [], [some (.inl (.int (-2)))]),
  ([(1, 143), (1, 1281)], [(1, 1, 1), (1, 1, 8)], [], [some (.inl (.int (-1)))]),
  ([(0, 0), (1, 143), (1, 1281)], [(1, (-1), 1023), (1, 1, 1), (1, 1, 8)], [], [some (.inr (0, 0))])], [143, 1152, 1281, 1408, 19328, 19329])
set_option maxRecDepth 100000 in
theorem z_x21_ok : z_chk z_D s_P (z_clq z_D z_x21.2.2.2 s_P [z_x20, z_x17, z_x13, z_x11, z_x9]) 3000 z_x21 = true := z_chk2_ok (by decide +kernel)
theorem z_x21_s {J : aH → Prop} (hJ : z_jl J) {X : aX} : z_spec J z_D s_P X z_x21 := z_ctx_ok (z_hlen hJ) (fun H0 C S => z_clq_ok (z_hlen hJ) (z_cons (z_x20_s hJ) (z_cons (z_x17_s hJ) (z_cons (z_x13_s hJ) (z_cons (z_x11_s hJ) (z_cons (z_x9_s hJ) (z_nil)))))) _ H0 C S) z_x21_ok
/-- $Net.putMove 3 153 -/
def z_x22 : zQ := ((51, 4, 3, 2), [(0, ([(0, 1), (0, 2), (1, 128)], [(1, 0, 9), (1, 0, 9), (1, 1, 10)], [(0, 2, (-1))], [some (.inl (.ref 3)), some (.inr (0, 0)), some (.inr (1, 0)), some (.inl (.ref 153)), none, none, none, none, none, none, none, none, none, none]), [(0, 0, 1), (0, 0, 0)])], [([(2, 2)], [(1, 1, 10)], [], [])], [19328, 19329])
set_option maxRecDepth 100000 in
theorem z_x22_ok : z_chk z_D s_P (z_clq z_D z_x22.2.2.2 s_P [z_x13, z_x11]) 3000 z_x22 = true := z_chk2_ok (by decide +kernel)
theorem z_x22_s {J : aH → Prop} (hJ : z_jl J) {X : aX} : z_spec J z_D s_P X z_x22 := z_ctx_ok (z_hlen hJ) (fun H0 C S => z_clq_ok (z_hlen hJ) (z_cons (z_x13_s hJ) (z_cons (z_x11_s hJ) (z_nil))) _ H0 C S) z_x22_ok
/-- .moves 2 -/
def z_x23 : zQ := ((49, 5, 3, 2), [(0, ([(0, 1), (0, 2), (1, 128)], [(1, (-2147483648), 2147483647), (1, (-2147483648), 2147483647), (1, 0, 10)], [], [some (.inl (.ref 2)), some (.inr (0, 0)), some (.inr (1, 0))]), [(0, 0, 1), (0, 0, 0)])], [([], [], [], [some (.inl (.int (-1)))]),
  ([(2, 2), (1, 143)], [(1, 1, 10), (1, 1, 1)], [], [some (.inl (.int (-2)))]),
  ([(2, 2), (1, 143), (1, 1281), (1, 19328)], [(1, 1, 10), (1, 1, 1), (1, 1, 8), (2, 0, 0)], [], [some (.inl (.int 0))]),
  ([(2, 2), (1, 143), (1, 1281), (1, 19328)], [(1, 1, 10), (1, 1, 1), (1, 1, 8), (2, (-9223372036854775808), (-1))], [], [some (.inl (.int 2))]),
  ([(2, 2), (1, 143), (1, 1281), (1, 19328)], [(1, 1, 10), (1, 1, 1), (1, 1, 8), (2, 1, 9223372036854775807)], [], [some (.inl (.int 1))])], [143, 1152, 1281, 1408, 19328, 19329])
set_option maxRecDepth 100000 in
theorem z_x23_ok : z_chk z_D s_P (z_clq z_D z_x23.2.2.2 s_P [z_x22, z_x17, z_x11, z_x9]) 3000 z_x23 = true := z_chk2_ok (by decide +kernel)
theorem z_x23_s {J : aH → Prop} (hJ : z_jl J) {X : aX} : z_spec J z_D s_P X z_x23 := z_ctx_ok (z_hlen hJ) (fun H0 C S => z_clq_ok (z_hlen hJ) (z_cons (z_x22_s hJ) (z_cons (z_x17_s hJ) (z_cons (z_x11_s hJ) (z_cons (z_x9_s hJ) (z_nil))))) _ H0 C S) z_x23_ok
/-- $Fraction.put 154 -/
def z_x24 : zQ := ((39, 1, 2, 2), [(0, ([(0, 1), (0, 3)], [(2, (-9223372036854775808), 9223372036854775807), (2, (-9223372036854775808), 9223372036854775807)], [], [some (.inl (.ref 154)), some (.inr (0, 0)), none, some (.inr (1, 0)), none, none, none]), [(0, 0, 1), (0, 0, 0)])], [([], [], [], [])], [19456, 19457])
set_option maxRecDepth 100000 in
theorem z_x24_ok : z_chk z_D s_P (z_clq z_D z_x24.2.2.2 s_P [z_x12]) 3000 z_x24 = true := z_chk2_ok (by decide +kernel)
theorem z_x24_s {J : aH → Prop} (hJ : z_jl J) {X : aX} : z_spec J z_D s_P X z_x24 := z_ctx_ok (z_hlen hJ) (fun H0 C S => z_clq_ok (z_hlen hJ) (z_cons (z_x12_s hJ) (z_nil)) _ H0 C S) z_x24_ok
/-- $Row.tellToo 12 154 -/
def z_x25 : zQ := ((44, 1, 0, 2), [(0, ([], [], [], [some (.inl (.ref 12)), some (.inl (.ref 154))]), [(0, 0, 1), (0, 0, 0)])], [([(1, 1281)], [(1, 1, 8)], [], [])], [1281, 1408])
set_option maxRecDepth 100000 in
theorem z_x25_ok : z_chk z_D s_P (z_clq z_D z_x25.2.2.2 s_P [z_x15]) 3000 z_x25 = true := z_chk2_ok (by decide +kernel)
theorem z_x25_s {J : aH → Prop} (hJ : z_jl J) {X : aX} : z_spec J z_D s_P X z_x25 := z_ctx_ok (z_hlen hJ) (fun H0 C S => z_clq_ok (z_hlen hJ) (z_cons (z_x15_s hJ) (z_nil)) _ H0 C S) z_x25_ok
/-- $Row.tell 12 154 -/
def z_x26 : zQ := ((42, 2, 0, 2), [(0, ([], [], [], [some (.inl (.ref 12)), some (.inl (.ref 154))]), [(0, 0, 1), (0, 0, 0)])], [([(1, 1281)], [(1, 1, 8)], [], [])], [1281, 1408])
set_option maxRecDepth 100000 in
theorem z_x26_ok : z_chk z_D s_P (z_clq z_D z_x26.2.2.2 s_P [z_x25]) 3000 z_x26 = true := z_chk2_ok (by decide +kernel)
theorem z_x26_s {J : aH → Prop} (hJ : z_jl J) {X : aX} : z_spec J z_D s_P X z_x26 := z_ctx_ok (z_hlen hJ) (fun H0 C S => z_clq_ok (z_hlen hJ) (z_cons (z_x25_s hJ) (z_nil)) _ H0 C S) z_x26_ok
/-- $Fraction.compare 153 154 -/
def z_x27 : zQ := ((53, 0, 0, 2), [(0, ([], [], [], [some (.inl (.ref 153)), some (.inl (.ref 154)), none, none, none, none, none, none, none, none, none, none, none, none, none, none]), [(0, 0, 2), (0, 0, 0)]),
  (29, ([(0, 2), (0, 4), (0, 6), (0, 8), (0, 10), (0, 11)], [(2, (-9223372036854775808), 9223372036854775807), (2, (-9223372036854775808), 9223372036854775807), (2, (-9223372036854775808), 9223372036854775807), (2, (-9223372036854775808), 9223372036854775807), (1, (-2147483648), 2147483647), (1, 0, 255)], [], [some (.inl (.ref 153)), some (.inl (.ref 154)), some (.inr (0, 0)), none, some (.inr (1, 0)), none, some (.inr (2, 0)), none, some (.inr (3, 0)), none, some (.inr (4, 0)), some (.inr (5, 0)), none, none, none, none]), [(0, 0, 1), (1, 5, 200)])], [([(0, 0)], [(1, (-2147483648), 2147483647)], [], [some (.inr (0, 0))])], [])
set_option maxRecDepth 100000 in
theorem z_x27_ok : z_chk z_D s_P (z_clq z_D z_x27.2.2.2 s_P []) 3000 z_x27 = true := z_chk2_ok (by decide +kernel)
theorem z_x27_s {J : aH → Prop} (hJ : z_jl J) {X : aX} : z_spec J z_D s_P X z_x27 := z_ctx_ok (z_hlen hJ) (fun H0 C S => z_clq_ok (z_hlen hJ) (z_nil) _ H0 C S) z_x27_ok
/-- .most 2 -/
def z_x28 : zQ := ((52, 5, 2, 2), [(0, ([(0, 1), (1, 128)], [(1, (-2147483648), 2147483647), (1, 0, 10)], [], [some (.inl (.ref 2)), some (.inr (0, 0)), none, none, none]), [(0, 0, 2), (0, 0, 0)]),
  (37, ([(0, 1), (0, 2), (0, 3), (1, 128), (1, 140), (1, 143), (2, 1)], [(1, 0, 9), (1, (-1), 9), (1, 0, 10), (1, 1, 10), (1, 0, 10), (1, 1, 1), (1, 0, 10)], [(0, 3, (-1)), (2, 4, 0), (3, 6, 0), (6, 3, 0)], [some (.inl (.ref 2)), some (.inr (0, 0)), some (.inr (1, 0)), some (.inr (2, 0)), none]), [(0, 0, 1), (1, 2, 10)])], [([], [], [], [some (.inl (.int (-1)))]),
  ([(2, 1), (1, 143)], [(1, 1, 10), (1, 1, 1)], [], [some (.inl (.int (-2)))]),
  ([(0, 0), (2, 1), (1, 143), (1, 1281)], [(1, (-1), 9), (1, 1, 10), (1, 1, 1), (1, 0, 8)], [], [some (.inr (0, 0))])], [143, 1152, 1281, 1408, 19328, 19329, 19456, 19457])
set_option maxRecDepth 100000 in
theorem z_x28_ok : z_chk z_D s_P (z_clq z_D z_x28.2.2.2 s_P [z_x27, z_x26, z_x24, z_x22, z_x13, z_x11, z_x9]) 3000 z_x28 = true := z_chk2_ok (by decide +kernel)
theorem z_x28_s {J : aH → Prop} (hJ : z_jl J) {X : aX} : z_spec J z_D s_P X z_x28 := z_ctx_ok (z_hlen hJ) (fun H0 C S => z_clq_ok (z_hlen hJ) (z_cons (z_x27_s hJ) (z_cons (z_x26_s hJ) (z_cons (z_x24_s hJ) (z_cons (z_x22_s hJ) (z_cons (z_x13_s hJ) (z_cons (z_x11_s hJ) (z_cons (z_x9_s hJ) (z_nil)))))))) _ H0 C S) z_x28_ok
/-- $Net.putWorth 3 153 -/
def z_x29 : zQ := ((55, 4, 4, 2), [(0, ([(0, 1), (0, 2), (0, 3), (1, 128)], [(1, 0, 9), (1, 0, 9), (1, (-2147483648), 2147483647), (1, 1, 10)], [(0, 3, (-1)), (1, 3, (-1))], [some (.inl (.ref 3)), some (.inr (0, 0)), some (.inr (1, 0)), some (.inr (2, 0)), some (.inl (.ref 153)), none, none, none, none, none, none, none, none, none]), [(0, 0, 1), (0, 0, 0)])], [([(2, 3)], [(1, 1, 10)], [], [])], [19328, 19329])
set_option maxRecDepth 100000 in
theorem z_x29_ok : z_chk z_D s_P (z_clq z_D z_x29.2.2.2 s_P [z_x13, z_x11]) 3000 z_x29 = true := z_chk2_ok (by decide +kernel)
theorem z_x29_s {J : aH → Prop} (hJ : z_jl J) {X : aX} : z_spec J z_D s_P X z_x29 := z_ctx_ok (z_hlen hJ) (fun H0 C S => z_clq_ok (z_hlen hJ) (z_cons (z_x13_s hJ) (z_cons (z_x11_s hJ) (z_nil))) _ H0 C S) z_x29_ok
/-- .worth 2 -/
def z_x30 : zQ := ((54, 5, 3, 2), [(0, ([(0, 1), (0, 2), (1, 128)], [(1, (-2147483648), 2147483647), (1, (-2147483648), 2147483647), (1, 0, 10)], [], [some (.inl (.ref 2)), some (.inr (0, 0)), some (.inr (1, 0))]), [(0, 0, 1), (0, 0, 0)])], [([], [], [], [some (.inl (.int (-1)))]),
  ([(2, 2), (1, 143)], [(1, 1, 10), (1, 1, 1)], [], [some (.inl (.int (-2)))]),
  ([(2, 2), (1, 143), (1, 1281)], [(1, 1, 10), (1, 1, 1), (1, 1, 8)], [], [some (.inl (.int 0))])], [143, 1152, 1281, 1408, 19328, 19329])
set_option maxRecDepth 100000 in
theorem z_x30_ok : z_chk z_D s_P (z_clq z_D z_x30.2.2.2 s_P [z_x29, z_x17, z_x11, z_x9]) 3000 z_x30 = true := z_chk2_ok (by decide +kernel)
theorem z_x30_s {J : aH → Prop} (hJ : z_jl J) {X : aX} : z_spec J z_D s_P X z_x30 := z_ctx_ok (z_hlen hJ) (fun H0 C S => z_clq_ok (z_hlen hJ) (z_cons (z_x29_s hJ) (z_cons (z_x17_s hJ) (z_cons (z_x11_s hJ) (z_cons (z_x9_s hJ) (z_nil))))) _ H0 C S) z_x30_ok
/-- .cost 2 -/
def z_x31 : zQ := ((57, 1, 3, 2), [(0, ([(0, 1), (0, 2), (1, 128)], [(1, (-2147483648), 2147483647), (1, (-2147483648), 2147483647), (1, 0, 10)], [], [some (.inl (.ref 2)), some (.inr (0, 0)), some (.inr (1, 0)), none]), [(0, 0, 1), (0, 0, 0)])], [([], [], [], [some (.inl (.int (-1)))]),
  ([(0, 0), (2, 2)], [(1, (-2147483648), 2147483647), (1, 1, 10)], [], [some (.inr (0, 0))])], [896])
set_option maxRecDepth 100000 in
theorem z_x31_ok : z_chk z_D s_P (z_clq z_D z_x31.2.2.2 s_P []) 3000 z_x31 = true := z_chk2_ok (by decide +kernel)
theorem z_x31_s {J : aH → Prop} (hJ : z_jl J) {X : aX} : z_spec J z_D s_P X z_x31 := z_ctx_ok (z_hlen hJ) (fun H0 C S => z_clq_ok (z_hlen hJ) (z_nil) _ H0 C S) z_x31_ok
/-- .need 2 -/
def z_x32 : zQ := ((58, 5, 2, 2), [(0, ([(0, 1), (1, 128)], [(1, (-2147483648), 2147483647), (1, 0, 10)], [], [some (.inl (.ref 2)), some (.inr (0, 0)), none, none]), [(0, 0, 2), (0, 0, 0)]),
  (48, ([(0, 1), (0, 2), (0, 3), (1, 128), (1, 143), (2, 1)], [(1, 0, 9), (1, (-1), 9), (1, 0, 10), (1, 1, 10), (1, 1, 1), (1, 0, 10)], [(0, 3, (-1)), (1, 2, (-1)), (1, 3, (-1)), (2, 3, 0), (3, 5, 0), (5, 3, 0)], [some (.inl (.ref 2)), some (.inr (0, 0)), some (.inr (1, 0)), some (.inr (2, 0))]), [(0, 0, 1), (1, 2, 10)])], [([], [], [], [some (.inl (.int (-1)))]),
  ([(2, 1), (1, 143)], [(1, 1, 10), (1, 1, 1)], [], [some (.inl (.int (-2)))]),
  ([(0, 0), (2, 1), (1, 143), (1, 1281)], [(1, (-1), 9), (1, 1, 10), (1, 1, 1), (1, 1, 8)], [(0, 1, (-1))], [some (.inr (0, 0))])], [143, 1152, 1281, 1408, 19328, 19329, 19456, 19457])
set_option maxRecDepth 100000 in
theorem z_x32_ok : z_chk z_D s_P (z_clq z_D z_x32.2.2.2 s_P [z_x29, z_x27, z_x26, z_x24, z_x11, z_x9]) 3000 z_x32 = true := z_chk2_ok (by decide +kernel)
theorem z_x32_s {J : aH → Prop} (hJ : z_jl J) {X : aX} : z_spec J z_D s_P X z_x32 := z_ctx_ok (z_hlen hJ) (fun H0 C S => z_clq_ok (z_hlen hJ) (z_cons (z_x29_s hJ) (z_cons (z_x27_s hJ) (z_cons (z_x26_s hJ) (z_cons (z_x24_s hJ) (z_cons (z_x11_s hJ) (z_cons (z_x9_s hJ) (z_nil))))))) _ H0 C S) z_x32_ok
/-- $Net.leanersOn 3 -/
def z_x33 : zQ := ((65, 1, 2, 2), [(0, ([(0, 1), (1, 128)], [(1, 0, 9), (1, 1, 10)], [(0, 1, (-1))], [some (.inl (.ref 3)), some (.inr (0, 0)), none, none]), [(0, 0, 2), (0, 0, 0)]),
  (6, ([(0, 1), (0, 2), (0, 3), (1, 128), (2, 1)], [(1, 0, 9), (1, 0, 1023), (1, 1, 10), (1, 1, 10), (1, 1, 10)], [(0, 2, (-1)), (0, 3, (-1)), (2, 3, 0), (3, 4, 0), (4, 3, 0)], [some (.inl (.ref 3)), some (.inr (0, 0)), some (.inr (1, 0)), some (.inr (2, 0))]), [(0, 0, 1), (1, 2, 10)])], [([(0, 0), (2, 1)], [(1, 0, 1023), (1, 1, 10)], [], [some (.inr (0, 0))])], [])
set_option maxRecDepth 100000 in
theorem z_x33_ok : z_chk z_D s_P (z_clq z_D z_x33.2.2.2 s_P []) 3000 z_x33 = true := z_chk2_ok (by decide +kernel)
theorem z_x33_s {J : aH → Prop} (hJ : z_jl J) {X : aX} : z_spec J z_D s_P X z_x33 := z_ctx_ok (z_hlen hJ) (fun H0 C S => z_clq_ok (z_hlen hJ) (z_nil) _ H0 C S) z_x33_ok
/-- $Net.connects 3 -/
def z_x34 : zQ := ((63, 2, 4, 4), [(0, ([(0, 1), (0, 2), (0, 3), (1, 128)], [(1, 0, 9), (1, 0, 9), (1, 0, 1023), (1, 1, 10)], [(0, 3, (-1)), (1, 3, (-1))], [some (.inl (.ref 3)), some (.inr (0, 0)), some (.inr (1, 0)), some (.inr (2, 0)), none, none, none, none, none, none, none, none, none]), [(0, 0, 2), (0, 0, 0), (0, 0, 0), (0, 0, 0)]),
  (17, ([(0, 1), (0, 2), (0, 3), (0, 4), (0, 5), (0, 6), (1, 128), (2, 3)], [(1, 0, 9), (1, 0, 9), (1, 0, 1023), (1, 0, 1023), (1, 0, 1023), (1, 0, 30), (1, 1, 10), (1, 1, 10)], [(0, 6, (-1)), (1, 6, (-1)), (6, 7, 0), (7, 6, 0)], [some (.inl (.ref 3)), some (.inr (0, 0)), some (.inr (1, 0)), some (.inr (2, 0)), some (.inr (3, 0)), some (.inr (4, 0)), some (.inr (5, 0)), none, none, none, none, none, none]), [(0, 0, 1), (1, 5, 30), (0, 0, 1), (0, 0, 0)]),
  (35, ([(0, 1), (0, 2), (0, 3), (0, 4), (0, 5), (0, 6), (0, 7), (0, 8), (0, 9), (1, 128), (2, 3)], [(1, 0, 9), (1, 0, 9), (1, 0, 1023), (1, 0, 1023), (1, 0, 1023), (1, 0, 29), (1, 0, 1023), (1, 0, 1023), (1, 0, 10), (1, 1, 10), (1, 1, 10)], [(0, 9, (-1)), (1, 9, (-1)), (8, 9, 0), (9, 10, 0), (10, 9, 0)], [some (.inl (.ref 3)), some (.inr (0, 0)), some (.inr (1, 0)), some (.inr (2, 0)), some (.inr (3, 0)), some (.inr (4, 0)), some (.inr (5, 0)), some (.inr (6, 0)), some (.inr (7, 0)), some (.inr (8, 0)), none, none, none]), [(0, 0, 1), (1, 5, 30), (0, 0, 0), (1, 8, 10)])], [([(2, 3)], [(1, 1, 10)], [], [some (.inl (.int 0))]),
  ([(2, 3)], [(1, 1, 10)], [], [some (.inl (.int 1))])], [])
set_option maxRecDepth 100000 in
theorem z_x34_ok : z_chk z_D s_P (z_clq z_D z_x34.2.2.2 s_P [z_x33]) 3000 z_x34 = true := z_chk2_ok (by decide +kernel)
theorem z_x34_s {J : aH → Prop} (hJ : z_jl J) {X : aX} : z_spec J z_D s_P X z_x34 := z_ctx_ok (z_hlen hJ) (fun H0 C S => z_clq_ok (z_hlen hJ) (z_cons (z_x33_s hJ) (z_nil)) _ H0 C S) z_x34_ok
/-- .apart 2 -/
def z_x35 : zQ := ((61, 3, 4, 2), [(0, ([(0, 1), (0, 2), (0, 3), (1, 128)], [(1, (-2147483648), 2147483647), (1, (-2147483648), 2147483647), (1, (-2147483648), 2147483647), (1, 0, 10)], [], [some (.inl (.ref 2)), some (.inr (0, 0)), some (.inr (1, 0)), some (.inr (2, 0))]), [(0, 0, 1), (0, 0, 0)])], [([], [], [], [some (.inl (.int (-1)))]),
  ([(2, 3)], [(1, 1, 10)], [], [some (.inl (.int 1))]),
  ([(2, 3)], [(1, 1, 10)], [], [some (.inl (.int 0))])], [])
set_option maxRecDepth 100000 in
theorem z_x35_ok : z_chk z_D s_P (z_clq z_D z_x35.2.2.2 s_P [z_x34]) 3000 z_x35 = true := z_chk2_ok (by decide +kernel)
theorem z_x35_s {J : aH → Prop} (hJ : z_jl J) {X : aX} : z_spec J z_D s_P X z_x35 := z_ctx_ok (z_hlen hJ) (fun H0 C S => z_clq_ok (z_hlen hJ) (z_cons (z_x34_s hJ) (z_nil)) _ H0 C S) z_x35_ok
/-- $Net.isEvenIn 3 -/
def z_x36 : zQ := ((67, 1, 5, 2), [(0, ([(0, 1), (0, 2), (0, 3), (0, 4), (1, 128)], [(1, 0, 9), (1, 0, 9), (1, 0, 1023), (1, 0, 1023), (1, 1, 10)], [(0, 4, (-1)), (1, 4, (-1))], [some (.inl (.ref 3)), some (.inr (0, 0)), some (.inr (1, 0)), some (.inr (2, 0)), some (.inr (3, 0)), none, none, none, none, none, none, none, none, none, none, none, none, none, none]), [(0, 0, 2), (0, 0, 0)]),
  (41, ([(0, 1), (0, 2), (0, 3), (0, 4), (0, 5), (0, 6), (0, 7), (0, 9), (0, 11), (0, 13), (0, 15), (0, 16), (1, 128), (2, 4)], [(1, 0, 9), (1, 0, 9), (1, 0, 1023), (1, 0, 1023), (1, 0, 1023), (1, (-2147483648), 2147483647), (2, (-9223372036854775808), 9223372036854775807), (2, (-9223372036854775808), 9223372036854775807), (2, (-9223372036854775808), 9223372036854775807), (2, (-9223372036854775808), 9223372036854775807), (1, 0, 1023), (1, 0, 2147483647), (1, 1, 10), (1, 1, 10)], [(0, 12, (-1)), (1, 12, (-1)), (12, 13, 0), (13, 12, 0)], [some (.inl (.ref 3)), some (.inr (0, 0)), some (.inr (1, 0)), some (.inr (2, 0)), some (.inr (3, 0)), some (.inr (4, 0)), some (.inr (5, 0)), some (.inr (6, 0)), none, some (.inr (7, 0)), none, some (.inr (8, 0)), none, some (.inr (9, 0)), none, some (.inr (10, 0)), some (.inr (11, 0)), none, none]), [(0, 0, 1), (1, 11, 2147483647)])], [([(2, 4)], [(1, 1, 10)], [], [some (.inl (.int 1))]),
  ([(2, 4)], [(1, 1, 10)], [], [some (.inl (.int 0))])], [])
set_option maxRecDepth 100000 in
theorem z_x36_ok : z_chk z_D s_P (z_clq z_D z_x36.2.2.2 s_P []) 3000 z_x36 = true := z_chk2_ok (by decide +kernel)
theorem z_x36_s {J : aH → Prop} (hJ : z_jl J) {X : aX} : z_spec J z_D s_P X z_x36 := z_ctx_ok (z_hlen hJ) (fun H0 C S => z_clq_ok (z_hlen hJ) (z_nil) _ H0 C S) z_x36_ok
/-- .even 2 -/
def z_x37 : zQ := ((66, 3, 4, 2), [(0, ([(0, 1), (0, 2), (0, 3), (1, 128)], [(1, (-2147483648), 2147483647), (1, (-2147483648), 2147483647), (1, (-2147483648), 2147483647), (1, 0, 10)], [], [some (.inl (.ref 2)), some (.inr (0, 0)), some (.inr (1, 0)), some (.inr (2, 0)), none, none, none]), [(0, 0, 2), (0, 0, 0)]),
  (36, ([(0, 1), (0, 2), (0, 3), (0, 4), (0, 5), (0, 6), (1, 128), (1, 143), (2, 3)], [(1, 0, 9), (1, 0, 9), (1, 0, 1023), (1, 0, 1023), (1, (-2147483648), 2147483647), (1, 0, 2147483647), (1, 1, 10), (1, 1, 1), (1, 0, 10)], [(0, 6, (-1)), (1, 6, (-1)), (6, 8, 0), (8, 6, 0)], [some (.inl (.ref 2)), some (.inr (0, 0)), some (.inr (1, 0)), some (.inr (2, 0)), some (.inr (3, 0)), some (.inr (4, 0)), some (.inr (5, 0))]), [(0, 0, 1), (1, 5, 2147483647)])], [([], [], [], [some (.inl (.int (-1)))]),
  ([(2, 3), (1, 143)], [(1, 1, 10), (1, 1, 1)], [], [some (.inl (.int 1))]),
  ([(2, 3), (1, 143)], [(1, 1, 10), (1, 1, 1)], [], [some (.inl (.int 0))])], [143, 1152])
set_option maxRecDepth 100000 in
theorem z_x37_ok : z_chk z_D s_P (z_clq z_D z_x37.2.2.2 s_P [z_x36, z_x9]) 3000 z_x37 = true := z_chk2_ok (by decide +kernel)
theorem z_x37_s {J : aH → Prop} (hJ : z_jl J) {X : aX} : z_spec J z_D s_P X z_x37 := z_ctx_ok (z_hlen hJ) (fun H0 C S => z_clq_ok (z_hlen hJ) (z_cons (z_x36_s hJ) (z_cons (z_x9_s hJ) (z_nil))) _ H0 C S) z_x37_ok
/-- $Fraction.times 153 -/
def z_x38 : zQ := ((69, 1, 2, 2), [(0, ([(0, 1), (0, 3)], [(2, (-9223372036854775808), 9223372036854775807), (2, (-9223372036854775808), 9223372036854775807)], [], [some (.inl (.ref 153)), some (.inr (0, 0)), none, some (.inr (1, 0)), none, none, none, none, none]), [(0, 0, 1), (0, 0, 0)])], [([], [], [], [some (.inl (.int 0))]),
  ([], [], [], [some (.inl (.int 1))])], [19328, 19329])
set_option maxRecDepth 100000 in
theorem z_x38_ok : z_chk z_D s_P (z_clq z_D z_x38.2.2.2 s_P [z_x12]) 3000 z_x38 = true := z_chk2_ok (by decide +kernel)
theorem z_x38_s {J : aH → Prop} (hJ : z_jl J) {X : aX} : z_spec J z_D s_P X z_x38 := z_ctx_ok (z_hlen hJ) (fun H0 C S => z_clq_ok (z_hlen hJ) (z_cons (z_x12_s hJ) (z_nil)) _ H0 C S) z_x38_ok
/-- .joined 2 -/
def z_x39 : zQ := ((68, 4, 2, 2), [(0, ([(0, 1), (1, 128)], [(1, (-2147483648), 2147483647), (1, 0, 10)], [], [some (.inl (.ref 2)), some (.inr (0, 0)), none, none]), [(0, 0, 2), (0, 0, 0)]),
  (50, ([(0, 1), (0, 2), (0, 3), (1, 128), (1, 143), (2, 1)], [(1, 0, 1023), (1, (-2147483648), 2147483647), (1, 0, 10), (1, 0, 10), (1, 1, 1), (1, 0, 10)], [(2, 3, 0), (3, 5, 0), (5, 3, 0)], [some (.inl (.ref 2)), some (.inr (0, 0)), some (.inr (1, 0)), some (.inr (2, 0))]), [(0, 0, 1), (1, 2, 10)])], [([], [], [], [some (.inl (.int (-1)))]),
  ([(1, 143)], [(1, 1, 1)], [], [some (.inl (.int (-2)))]),
  ([(2, 1), (1, 143)], [(1, 1, 10), (1, 1, 1)], [], [some (.inl (.int (-9)))]),
  ([(1, 143), (1, 1281)], [(1, 1, 1), (1, 1, 8)], [], [some (.inl (.int 0))])], [143, 1152, 1281, 1408, 19328, 19329, 19456, 19457])
set_option maxRecDepth 100000 in
theorem z_x39_ok : z_chk z_D s_P (z_clq z_D z_x39.2.2.2 s_P [z_x38, z_x25, z_x24, z_x17, z_x13, z_x11, z_x9]) 3000 z_x39 = true := z_chk2_ok (by decide +kernel)
theorem z_x39_s {J : aH → Prop} (hJ : z_jl J) {X : aX} : z_spec J z_D s_P X z_x39 := z_ctx_ok (z_hlen hJ) (fun H0 C S => z_clq_ok (z_hlen hJ) (z_cons (z_x38_s hJ) (z_cons (z_x25_s hJ) (z_cons (z_x24_s hJ) (z_cons (z_x17_s hJ) (z_cons (z_x13_s hJ) (z_cons (z_x11_s hJ) (z_cons (z_x9_s hJ) (z_nil)))))))) _ H0 C S) z_x39_ok
/-- .bounds 2 -/
def z_x40 : zQ := ((71, 4, 1, 2), [(0, ([(0, 1)], [(1, (-2147483648), 2147483647)], [], [some (.inl (.ref 2)), some (.inr (0, 0)), none, none, none, none, none, none]), [(0, 0, 2), (0, 0, 0)]),
  (48, ([(0, 1), (0, 2), (0, 3), (0, 5), (0, 6), (1, 128), (1, 143)], [(1, 0, 1023), (1, (-2147483648), 2147483647), (2, (-9223372036854775808), 9223372036854775807), (1, (-2147483648), 2147483647), (1, 0, 10), (1, 0, 10), (1, 1, 1)], [(4, 5, 0)], [some (.inl (.ref 2)), some (.inr (0, 0)), some (.inr (1, 0)), some (.inr (2, 0)), none, some (.inr (3, 0)), some (.inr (4, 0)), none]), [(0, 0, 1), (1, 4, 10)])], [([], [], [], [some (.inl (.int (-1)))]),
  ([(1, 143)], [(1, 1, 1)], [], [some (.inl (.int (-2)))]),
  ([(1, 143), (1, 1281)], [(1, 1, 1), (1, 1, 8)], [], [some (.inl (.int 0))])], [143, 1152, 1281, 1408, 19328, 19329, 19456, 19457])
set_option maxRecDepth 100000 in
theorem z_x40_ok : z_chk z_D s_P (z_clq z_D z_x40.2.2.2 s_P [z_x25, z_x24, z_x17, z_x13, z_x11, z_x9]) 3000 z_x40 = true := z_chk2_ok (by decide +kernel)
theorem z_x40_s {J : aH → Prop} (hJ : z_jl J) {X : aX} : z_spec J z_D s_P X z_x40 := z_ctx_ok (z_hlen hJ) (fun H0 C S => z_clq_ok (z_hlen hJ) (z_cons (z_x25_s hJ) (z_cons (z_x24_s hJ) (z_cons (z_x17_s hJ) (z_cons (z_x13_s hJ) (z_cons (z_x11_s hJ) (z_cons (z_x9_s hJ) (z_nil))))))) _ H0 C S) z_x40_ok
/-- $Text.append 14 -/
def z_x41 : zQ := ((75, 0, 2, 2), [(0, ([(0, 1), (1, 1537)], [(1, (-2147483648), 2147483647), (1, 0, 56)], [], [some (.inl (.ref 14)), some (.inr (0, 0)), none]), [(0, 0, 2), (0, 0, 0)]),
  (3, ([(0, 1), (0, 2)], [(1, (-2147483648), 2147483647), (1, (-9), 24)], [], [some (.inl (.ref 14)), some (.inr (0, 0)), some (.inr (1, 0))]), [(0, 0, 1), (2, 1, (-1))])], [([], [], [], [])], [1537, 1664])
set_option maxRecDepth 100000 in
theorem z_x41_ok : z_chk z_D s_P (z_clq z_D z_x41.2.2.2 s_P []) 3000 z_x41 = true := z_chk2_ok (by decide +kernel)
theorem z_x41_s {J : aH → Prop} (hJ : z_jl J) {X : aX} : z_spec J z_D s_P X z_x41 := z_ctx_ok (z_hlen hJ) (fun H0 C S => z_clq_ok (z_hlen hJ) (z_nil) _ H0 C S) z_x41_ok
/-- .sign 2 -/
def z_x42 : zQ := ((74, 1, 1, 2), [(0, ([(0, 1)], [(1, (-2147483648), 2147483647)], [], [some (.inl (.ref 2)), some (.inr (0, 0))]), [(0, 0, 1), (0, 0, 0)])], [([(1, 1537)], [(1, 57, 60)], [], [some (.inl (.int (-1)))]),
  ([(0, 0), (1, 1537)], [(1, 0, 60), (1, 0, 60)], [(0, 1, 0), (1, 0, 0)], [some (.inr (0, 0))])], [1537, 1664])
set_option maxRecDepth 100000 in
theorem z_x42_ok : z_chk z_D s_P (z_clq z_D z_x42.2.2.2 s_P [z_x41]) 3000 z_x42 = true := z_chk2_ok (by decide +kernel)
theorem z_x42_s {J : aH → Prop} (hJ : z_jl J) {X : aX} : z_spec J z_D s_P X z_x42 := z_ctx_ok (z_hlen hJ) (fun H0 C S => z_clq_ok (z_hlen hJ) (z_cons (z_x41_s hJ) (z_nil)) _ H0 C S) z_x42_ok
/-- .end 2 -/
def z_x43 : zQ := ((76, 0, 1, 2), [(0, ([(0, 1)], [(1, (-2147483648), 2147483647)], [], [some (.inl (.ref 2)), some (.inr (0, 0))]), [(0, 0, 1), (0, 0, 0)])], [([], [], [], [some (.inl (.int 0))]),
  ([], [], [], [some (.inl (.int 1))])], [1537])
set_option maxRecDepth 100000 in
theorem z_x43_ok : z_chk z_D s_P (z_clq z_D z_x43.2.2.2 s_P []) 3000 z_x43 = true := z_chk2_ok (by decide +kernel)
theorem z_x43_s {J : aH → Prop} (hJ : z_jl J) {X : aX} : z_spec J z_D s_P X z_x43 := z_ctx_ok (z_hlen hJ) (fun H0 C S => z_clq_ok (z_hlen hJ) (z_nil) _ H0 C S) z_x43_ok
/-- $Saying.clear 17 -/
def z_x44 : zQ := ((79, 0, 0, 2), [(0, ([], [], [], [some (.inl (.ref 17)), none]), [(0, 0, 2), (0, 0, 0)]),
  (13, ([(0, 1), (1, 1921), (1, 1922)], [(1, 0, 4), (1, 0, 0), (1, 61, 61)], [], [some (.inl (.ref 17)), some (.inr (0, 0))]), [(0, 0, 1), (1, 0, 4)])], [([(1, 1921), (1, 1922)], [(1, 0, 0), (1, 61, 61)], [], [])], [1921, 1922, 2176, 2304, 2432])
set_option maxRecDepth 100000 in
theorem z_x44_ok : z_chk z_D s_P (z_clq z_D z_x44.2.2.2 s_P []) 3000 z_x44 = true := z_chk2_ok (by decide +kernel)
theorem z_x44_s {J : aH → Prop} (hJ : z_jl J) {X : aX} : z_spec J z_D s_P X z_x44 := z_ctx_ok (z_hlen hJ) (fun H0 C S => z_clq_ok (z_hlen hJ) (z_nil) _ H0 C S) z_x44_ok
/-- $Text.parseNumber 14 -/
def z_x45 : zQ := ((85, 1, 2, 2), [(0, ([(1, 1538), (1, 1539)], [(1, 0, 39), (1, 1, 40)], [(0, 1, (-1))], [some (.inl (.ref 14)), none, none]), [(0, 0, 2), (0, 0, 0)]),
  (4, ([(0, 1), (0, 2), (1, 1538), (1, 1539), (2, 0), (2, 1)], [(1, (-2147483648), 2147483647), (1, 0, 8), (1, 0, 40), (1, 1, 40), (1, 0, 39), (1, 1, 40)], [(1, 2, 0), (1, 3, 0), (4, 2, 0), (4, 3, (-1)), (2, 3, 0), (3, 5, 0), (5, 3, 0)], [some (.inl (.ref 14)), some (.inr (0, 0)), some (.inr (1, 0))]), [(0, 0, 1), (1, 1, 8)])], [([(0, 0), (1, 1538), (2, 1), (2, 0)], [(1, (-2147483648), 2147483647), (1, 0, 40), (1, 1, 40), (1, 0, 39)], [(3, 1, 0), (3, 2, (-1)), (1, 2, 0)], [some (.inr (0, 0))])], [1538])
set_option maxRecDepth 100000 in
theorem z_x45_ok : z_chk z_D s_P (z_clq z_D z_x45.2.2.2 s_P []) 3000 z_x45 = true := z_chk2_ok (by decide +kernel)
theorem z_x45_s {J : aH → Prop} (hJ : z_jl J) {X : aX} : z_spec J z_D s_P X z_x45 := z_ctx_ok (z_hlen hJ) (fun H0 C S => z_clq_ok (z_hlen hJ) (z_nil) _ H0 C S) z_x45_ok
/-- $Text.parseRate 14 17 -/
def z_x46 : zQ := ((84, 2, 3, 2), [(0, ([(0, 2), (1, 1538), (1, 1539)], [(1, 0, 1), (1, 0, 39), (1, 1, 40)], [(0, 1, 0), (0, 2, (-1)), (1, 2, (-1))], [some (.inl (.ref 14)), some (.inl (.ref 17)), some (.inr (0, 0))]), [(0, 0, 1), (0, 0, 0)])], [([(1, 1538), (2, 2), (2, 1)], [(1, 0, 40), (1, 1, 40), (1, 0, 39)], [(2, 1, (-1)), (0, 1, 0)], [some (.inl (.int 0))]),
  ([(1, 1538), (2, 2), (2, 1)], [(1, 0, 40), (1, 2, 40), (1, 0, 39)], [(2, 1, (-1)), (0, 1, 0)], [some (.inl (.int 1))])], [1538, 2560, 2688])
set_option maxRecDepth 100000 in
theorem z_x46_ok : z_chk z_D s_P (z_clq z_D z_x46.2.2.2 s_P [z_x45]) 3000 z_x46 = true := z_chk2_ok (by decide +kernel)
theorem z_x46_s {J : aH → Prop} (hJ : z_jl J) {X : aX} : z_spec J z_D s_P X z_x46 := z_ctx_ok (z_hlen hJ) (fun H0 C S => z_clq_ok (z_hlen hJ) (z_cons (z_x45_s hJ) (z_nil)) _ H0 C S) z_x46_ok
/-- $Text.closeBrackets 14 -/
def z_x47 : zQ := ((88, 1, 3, 2), [(0, ([(0, 1), (1, 1538), (1, 1539)], [(1, 0, 5), (1, 1, 40), (1, 1, 40)], [(0, 1, (-1)), (0, 2, (-1)), (1, 2, 0)], [some (.inl (.ref 14)), some (.inr (0, 0)), none]), [(0, 0, 2), (0, 0, 0)]),
  (2, ([(0, 1), (0, 2), (1, 1538), (1, 1539), (2, 1), (2, 2)], [(1, 0, 5), (1, 0, 5), (1, 1, 40), (1, 1, 40), (1, 1, 40), (1, 1, 40)], [(0, 4, (-1)), (0, 2, (-1)), (0, 3, (-1)), (1, 0, 0), (1, 4, (-1)), (1, 2, (-1)), (1, 3, (-1)), (4, 2, 0), (4, 3, 0), (2, 3, 0), (3, 5, 0), (5, 3, 0)], [some (.inl (.ref 14)), some (.inr (0, 0)), some (.inr (1, 0))]), [(0, 0, 1), (2, 1, 0)])], [([(0, 0), (1, 1538), (2, 2), (2, 1)], [(1, 0, 5), (1, 1, 40), (1, 1, 40), (1, 1, 40)], [(3, 1, 0), (3, 2, 0), (0, 3, (-1)), (0, 1, (-1)), (0, 2, (-1)), (1, 2, 0)], [some (.inr (0, 0))])], [1538])
set_option maxRecDepth 100000 in
theorem z_x47_ok : z_chk z_D s_P (z_clq z_D z_x47.2.2.2 s_P []) 3000 z_x47 = true := z_chk2_ok (by decide +kernel)
theorem z_x47_s {J : aH → Prop} (hJ : z_jl J) {X : aX} : z_spec J z_D s_P X z_x47 := z_ctx_ok (z_hlen hJ) (fun H0 C S => z_clq_ok (z_hlen hJ) (z_nil) _ H0 C S) z_x47_ok
/-- $Text.parseEvent 14 17 -/
def z_x48 : zQ := ((87, 2, 4, 2), [(0, ([(0, 2), (1, 1538), (1, 1539), (1, 1540)], [(1, 0, 3), (1, 0, 40), (1, 0, 40), (1, 0, 10)], [(0, 1, 2), (0, 2, 2)], [some (.inl (.ref 14)), some (.inl (.ref 17)), some (.inr (0, 0)), none, none]), [(0, 0, 2), (0, 0, 0)]),
  (12, ([(0, 2), (0, 3), (1, 1538), (1, 1539), (2, 1), (2, 2), (2, 3), (1, 1540)], [(1, 0, 3), (1, 0, 5), (1, 0, 40), (1, 0, 40), (1, 0, 40), (1, 0, 40), (1, 0, 10), (1, 0, 10)], [(0, 4, 2), (0, 2, 2), (0, 3, 2), (1, 2, 0), (1, 3, 0), (4, 2, 0), (3, 5, 0), (5, 3, 0), (7, 6, 0), (6, 7, 0)], [some (.inl (.ref 14)), some (.inl (.ref 17)), some (.inr (0, 0)), some (.inr (1, 0)), none]), [(0, 0, 1), (1, 2, 40)])], [([(1, 1538), (2, 1)], [(1, 0, 40), (1, 0, 40)], [(1, 0, 0)], [some (.inl (.int 0))]),
  ([(1, 1538), (2, 2), (2, 3), (2, 1)], [(1, 1, 40), (1, 1, 40), (1, 1, 10), (1, 0, 39)], [(3, 0, (-1)), (0, 1, 0)], [some (.inl (.int 1))])], [1538, 2176, 2304, 2432])
set_option maxRecDepth 100000 in
theorem z_x48_ok : z_chk z_D s_P (z_clq z_D z_x48.2.2.2 s_P [z_x47]) 3000 z_x48 = true := z_chk2_ok (by decide +kernel)
theorem z_x48_s {J : aH → Prop} (hJ : z_jl J) {X : aX} : z_spec J z_D s_P X z_x48 := z_ctx_ok (z_hlen hJ) (fun H0 C S => z_clq_ok (z_hlen hJ) (z_cons (z_x47_s hJ) (z_nil)) _ H0 C S) z_x48_ok
/-- $Text.parseGiven 14 17 -/
def z_x49 : zQ := ((86, 3, 3, 2), [(0, ([(0, 2), (1, 1538), (1, 1539)], [(1, 0, 1), (1, 0, 40), (1, 0, 40)], [(0, 1, 0), (0, 2, 0)], [some (.inl (.ref 14)), some (.inl (.ref 17)), some (.inr (0, 0))]), [(0, 0, 1), (0, 0, 0)])], [([(1, 1538), (2, 1)], [(1, 0, 40), (1, 0, 40)], [(1, 0, 0)], [some (.inl (.int 0))]),
  ([(1, 1538), (2, 2), (2, 1)], [(1, 1, 40), (1, 1, 40), (1, 0, 39)], [(2, 0, (-1)), (2, 1, (-1)), (0, 1, 0)], [some (.inl (.int 1))])], [1538, 2176, 2304, 2432])
set_option maxRecDepth 100000 in
theorem z_x49_ok : z_chk z_D s_P (z_clq z_D z_x49.2.2.2 s_P [z_x48]) 3000 z_x49 = true := z_chk2_ok (by decide +kernel)
theorem z_x49_s {J : aH → Prop} (hJ : z_jl J) {X : aX} : z_spec J z_D s_P X z_x49 := z_ctx_ok (z_hlen hJ) (fun H0 C S => z_clq_ok (z_hlen hJ) (z_cons (z_x48_s hJ) (z_nil)) _ H0 C S) z_x49_ok
/-- $Text.parseTerm 14 17 -/
def z_x50 : zQ := ((81, 4, 3, 2), [(0, ([(0, 2), (1, 1538), (1, 1539)], [(1, 0, 1), (1, 0, 40), (1, 0, 40)], [(0, 1, 0), (0, 2, 0)], [some (.inl (.ref 14)), some (.inl (.ref 17)), some (.inr (0, 0))]), [(0, 0, 1), (0, 0, 0)])], [([(1, 1538), (2, 1)], [(1, 0, 40), (1, 0, 40)], [], [some (.inl (.int 0))]),
  ([(1, 1538), (2, 2), (2, 1)], [(1, 0, 40), (1, 1, 40), (1, 0, 39)], [(2, 1, (-1)), (0, 1, 0)], [some (.inl (.int 1))])], [1538, 2176, 2304, 2432, 2560, 2688])
set_option maxRecDepth 100000 in
theorem z_x50_ok : z_chk z_D s_P (z_clq z_D z_x50.2.2.2 s_P [z_x49, z_x46]) 3000 z_x50 = true := z_chk2_ok (by decide +kernel)
theorem z_x50_s {J : aH → Prop} (hJ : z_jl J) {X : aX} : z_spec J z_D s_P X z_x50 := z_ctx_ok (z_hlen hJ) (fun H0 C S => z_clq_ok (z_hlen hJ) (z_cons (z_x49_s hJ) (z_cons (z_x46_s hJ) (z_nil))) _ H0 C S) z_x50_ok
/-- $Text.parseFirst 14 17 -/
def z_x51 : zQ := ((80, 5, 3, 2), [(0, ([(1, 1538), (1, 1922), (1, 1539)], [(1, 0, 0), (1, 61, 61), (1, 0, 40)], [], [some (.inl (.ref 14)), some (.inl (.ref 17)), none, none]), [(0, 0, 1), (0, 0, 0)])], [([(1, 1922)], [(1, 61, 61)], [], [some (.inl (.int 0))]),
  ([(1, 1538), (2, 2), (1, 1922)], [(1, 1, 40), (1, 1, 40), (1, 60, 126)], [(0, 1, 0)], [some (.inl (.int 1))])], [1538, 1922, 2176, 2304, 2432, 2560, 2688])
set_option maxRecDepth 100000 in
theorem z_x51_ok : z_chk z_D s_P (z_clq z_D z_x51.2.2.2 s_P [z_x50]) 3000 z_x51 = true := z_chk2_ok (by decide +kernel)
theorem z_x51_s {J : aH → Prop} (hJ : z_jl J) {X : aX} : z_spec J z_D s_P X z_x51 := z_ctx_ok (z_hlen hJ) (fun H0 C S => z_clq_ok (z_hlen hJ) (z_cons (z_x50_s hJ) (z_nil)) _ H0 C S) z_x51_ok
/-- $Text.parseSecond 14 17 -/
def z_x52 : zQ := ((90, 5, 3, 2), [(0, ([(1, 1538), (1, 1539), (1, 1922)], [(1, 1, 40), (1, 1, 40), (1, 60, 126)], [], [some (.inl (.ref 14)), some (.inl (.ref 17))]), [(0, 0, 1), (0, 0, 0)])], [([(1, 1538), (2, 1), (2, 2), (2, 0)], [(1, 0, 40), (1, 1, 40), (1, 60, 126), (1, 1, 40)], [], [some (.inl (.int 0))]),
  ([(1, 1538), (2, 1), (2, 2), (2, 0)], [(1, 0, 40), (1, 2, 40), (1, 60, 126), (1, 1, 39)], [(3, 1, (-1)), (0, 1, 0)], [some (.inl (.int 1))])], [1538, 2176, 2304, 2432, 2560, 2688])
set_option maxRecDepth 100000 in
theorem z_x52_ok : z_chk z_D s_P (z_clq z_D z_x52.2.2.2 s_P [z_x50, z_x49]) 3000 z_x52 = true := z_chk2_ok (by decide +kernel)
theorem z_x52_s {J : aH → Prop} (hJ : z_jl J) {X : aX} : z_spec J z_D s_P X z_x52 := z_ctx_ok (z_hlen hJ) (fun H0 C S => z_clq_ok (z_hlen hJ) (z_cons (z_x50_s hJ) (z_cons (z_x49_s hJ) (z_nil))) _ H0 C S) z_x52_ok
/-- $Text.parse 14 17 -/
def z_x53 : zQ := ((78, 6, 2, 2), [(0, ([(0, 1), (0, 2)], [(1, 0, 60), (1, 0, 10)], [], [some (.inl (.ref 14)), some (.inr (0, 0)), some (.inr (1, 0)), some (.inl (.ref 17)), none]), [(0, 0, 1), (0, 0, 0)])], [([(0, 0), (1, 1538), (1, 1921), (1, 1922)], [(1, 0, 40), (1, 0, 40), (1, 0, 0), (1, 60, 127)], [(0, 1, 0)], [some (.inr (0, 0))]),
  ([(1, 1538), (1, 1539), (1, 1921), (1, 1922)], [(1, 0, 40), (1, 2, 40), (1, 2, 40), (1, 60, 126)], [(0, 1, 0), (1, 0, 0)], [some (.inl (.int (-1)))])], [1538, 1539, 1540, 1921, 1922, 2048, 2176, 2304, 2432, 2560, 2688])
set_option maxRecDepth 100000 in
theorem z_x53_ok : z_chk z_D s_P (z_clq z_D z_x53.2.2.2 s_P [z_x52, z_x51, z_x44]) 3000 z_x53 = true := z_chk2_ok (by decide +kernel)
theorem z_x53_s {J : aH → Prop} (hJ : z_jl J) {X : aX} : z_spec J z_D s_P X z_x53 := z_ctx_ok (z_hlen hJ) (fun H0 C S => z_clq_ok (z_hlen hJ) (z_cons (z_x52_s hJ) (z_cons (z_x51_s hJ) (z_cons (z_x44_s hJ) (z_nil)))) _ H0 C S) z_x53_ok
/-- $Saying.clear 24 -/
def z_x54 : zQ := ((79, 0, 0, 2), [(0, ([], [], [], [some (.inl (.ref 24)), none]), [(0, 0, 2), (0, 0, 0)]),
  (13, ([(0, 1), (1, 2817), (1, 2818)], [(1, 0, 4), (1, 0, 0), (1, 61, 61)], [], [some (.inl (.ref 24)), some (.inr (0, 0))]), [(0, 0, 1), (1, 0, 4)])], [([(1, 2817), (1, 2818)], [(1, 0, 0), (1, 61, 61)], [], [])], [2817, 2818, 3072, 3200, 3328])
set_option maxRecDepth 100000 in
theorem z_x54_ok : z_chk z_D s_P (z_clq z_D z_x54.2.2.2 s_P []) 3000 z_x54 = true := z_chk2_ok (by decide +kernel)
theorem z_x54_s {J : aH → Prop} (hJ : z_jl J) {X : aX} : z_spec J z_D s_P X z_x54 := z_ctx_ok (z_hlen hJ) (fun H0 C S => z_clq_ok (z_hlen hJ) (z_nil) _ H0 C S) z_x54_ok
/-- $Text.parseRate 14 24 -/
def z_x55 : zQ := ((84, 2, 3, 2), [(0, ([(0, 2), (1, 1538), (1, 1539)], [(1, 0, 1), (1, 0, 39), (1, 1, 40)], [(0, 1, 0), (0, 2, (-1)), (1, 2, (-1))], [some (.inl (.ref 14)), some (.inl (.ref 24)), some (.inr (0, 0))]), [(0, 0, 1), (0, 0, 0)])], [([(1, 1538), (2, 2), (2, 1)], [(1, 0, 40), (1, 1, 40), (1, 0, 39)], [(2, 1, (-1)), (0, 1, 0)], [some (.inl (.int 0))]),
  ([(1, 1538), (2, 2), (2, 1)], [(1, 0, 40), (1, 2, 40), (1, 0, 39)], [(2, 1, (-1)), (0, 1, 0)], [some (.inl (.int 1))])], [1538, 3456, 3584])
set_option maxRecDepth 100000 in
theorem z_x55_ok : z_chk z_D s_P (z_clq z_D z_x55.2.2.2 s_P [z_x45]) 3000 z_x55 = true := z_chk2_ok (by decide +kernel)
theorem z_x55_s {J : aH → Prop} (hJ : z_jl J) {X : aX} : z_spec J z_D s_P X z_x55 := z_ctx_ok (z_hlen hJ) (fun H0 C S => z_clq_ok (z_hlen hJ) (z_cons (z_x45_s hJ) (z_nil)) _ H0 C S) z_x55_ok
/-- $Text.parseEvent 14 24 -/
def z_x56 : zQ := ((87, 2, 4, 2), [(0, ([(0, 2), (1, 1538), (1, 1539), (1, 1540)], [(1, 0, 3), (1, 0, 40), (1, 0, 40), (1, 0, 10)], [(0, 1, 2), (0, 2, 2)], [some (.inl (.ref 14)), some (.inl (.ref 24)), some (.inr (0, 0)), none, none]), [(0, 0, 2), (0, 0, 0)]),
  (12, ([(0, 2), (0, 3), (1, 1538), (1, 1539), (2, 1), (2, 2), (2, 3), (1, 1540)], [(1, 0, 3), (1, 0, 5), (1, 0, 40), (1, 0, 40), (1, 0, 40), (1, 0, 40), (1, 0, 10), (1, 0, 10)], [(0, 4, 2), (0, 2, 2), (0, 3, 2), (1, 2, 0), (1, 3, 0), (4, 2, 0), (3, 5, 0), (5, 3, 0), (7, 6, 0), (6, 7, 0)], [some (.inl (.ref 14)), some (.inl (.ref 24)), some (.inr (0, 0)), some (.inr (1, 0)), none]), [(0, 0, 1), (1, 2, 40)])], [([(1, 1538), (2, 1)], [(1, 0, 40), (1, 0, 40)], [(1, 0, 0)], [some (.inl (.int 0))]),
  ([(1, 1538), (2, 2), (2, 3), (2, 1)], [(1, 1, 40), (1, 1, 40), (1, 1, 10), (1, 0, 39)], [(3, 0, (-1)), (0, 1, 0)], [some (.inl (.int 1))])], [1538, 3072, 3200, 3328])
set_option maxRecDepth 100000 in
theorem z_x56_ok : z_chk z_D s_P (z_clq z_D z_x56.2.2.2 s_P [z_x47]) 3000 z_x56 = true := z_chk2_ok (by decide +kernel)
theorem z_x56_s {J : aH → Prop} (hJ : z_jl J) {X : aX} : z_spec J z_D s_P X z_x56 := z_ctx_ok (z_hlen hJ) (fun H0 C S => z_clq_ok (z_hlen hJ) (z_cons (z_x47_s hJ) (z_nil)) _ H0 C S) z_x56_ok
/-- $Text.parseGiven 14 24 -/
def z_x57 : zQ := ((86, 3, 3, 2), [(0, ([(0, 2), (1, 1538), (1, 1539)], [(1, 0, 1), (1, 0, 40), (1, 0, 40)], [(0, 1, 0), (0, 2, 0)], [some (.inl (.ref 14)), some (.inl (.ref 24)), some (.inr (0, 0))]), [(0, 0, 1), (0, 0, 0)])], [([(1, 1538), (2, 1)], [(1, 0, 40), (1, 0, 40)], [(1, 0, 0)], [some (.inl (.int 0))]),
  ([(1, 1538), (2, 2), (2, 1)], [(1, 1, 40), (1, 1, 40), (1, 0, 39)], [(2, 0, (-1)), (2, 1, (-1)), (0, 1, 0)], [some (.inl (.int 1))])], [1538, 3072, 3200, 3328])
set_option maxRecDepth 100000 in
theorem z_x57_ok : z_chk z_D s_P (z_clq z_D z_x57.2.2.2 s_P [z_x56]) 3000 z_x57 = true := z_chk2_ok (by decide +kernel)
theorem z_x57_s {J : aH → Prop} (hJ : z_jl J) {X : aX} : z_spec J z_D s_P X z_x57 := z_ctx_ok (z_hlen hJ) (fun H0 C S => z_clq_ok (z_hlen hJ) (z_cons (z_x56_s hJ) (z_nil)) _ H0 C S) z_x57_ok
/-- $Text.parseTerm 14 24 -/
def z_x58 : zQ := ((81, 4, 3, 2), [(0, ([(0, 2), (1, 1538), (1, 1539)], [(1, 0, 1), (1, 0, 40), (1, 0, 40)], [(0, 1, 0), (0, 2, 0)], [some (.inl (.ref 14)), some (.inl (.ref 24)), some (.inr (0, 0))]), [(0, 0, 1), (0, 0, 0)])], [([(1, 1538), (2, 1)], [(1, 0, 40), (1, 0, 40)], [], [some (.inl (.int 0))]),
  ([(1, 1538), (2, 2), (2, 1)], [(1, 0, 40), (1, 1, 40), (1, 0, 39)], [(2, 1, (-1)), (0, 1, 0)], [some (.inl (.int 1))])], [1538, 3072, 3200, 3328, 3456, 3584])
set_option maxRecDepth 100000 in
theorem z_x58_ok : z_chk z_D s_P (z_clq z_D z_x58.2.2.2 s_P [z_x57, z_x55]) 3000 z_x58 = true := z_chk2_ok (by decide +kernel)
theorem z_x58_s {J : aH → Prop} (hJ : z_jl J) {X : aX} : z_spec J z_D s_P X z_x58 := z_ctx_ok (z_hlen hJ) (fun H0 C S => z_clq_ok (z_hlen hJ) (z_cons (z_x57_s hJ) (z_cons (z_x55_s hJ) (z_nil))) _ H0 C S) z_x58_ok
/-- $Text.parseFirst 14 24 -/
def z_x59 : zQ := ((80, 5, 3, 2), [(0, ([(1, 1538), (1, 2818), (1, 1539)], [(1, 0, 0), (1, 61, 61), (1, 0, 40)], [], [some (.inl (.ref 14)), some (.inl (.ref 24)), none, none]), [(0, 0, 1), (0, 0, 0)])], [([(1, 2818)], [(1, 61, 61)], [], [some (.inl (.int 0))]),
  ([(1, 1538), (2, 2), (1, 2818)], [(1, 1, 40), (1, 1, 40), (1, 60, 126)], [(0, 1, 0)], [some (.inl (.int 1))])], [1538, 2818, 3072, 3200, 3328, 3456, 3584])
set_option maxRecDepth 100000 in
theorem z_x59_ok : z_chk z_D s_P (z_clq z_D z_x59.2.2.2 s_P [z_x58]) 3000 z_x59 = true := z_chk2_ok (by decide +kernel)
theorem z_x59_s {J : aH → Prop} (hJ : z_jl J) {X : aX} : z_spec J z_D s_P X z_x59 := z_ctx_ok (z_hlen hJ) (fun H0 C S => z_clq_ok (z_hlen hJ) (z_cons (z_x58_s hJ) (z_nil)) _ H0 C S) z_x59_ok
/-- $Text.parseSecond 14 24 -/
def z_x60 : zQ := ((90, 5, 3, 2), [(0, ([(1, 1538), (1, 1539), (1, 2818)], [(1, 1, 40), (1, 1, 40), (1, 60, 126)], [], [some (.inl (.ref 14)), some (.inl (.ref 24))]), [(0, 0, 1), (0, 0, 0)])], [([(1, 1538), (2, 1), (2, 2), (2, 0)], [(1, 0, 40), (1, 1, 40), (1, 60, 126), (1, 1, 40)], [], [some (.inl (.int 0))]),
  ([(1, 1538), (2, 1), (2, 2), (2, 0)], [(1, 0, 40), (1, 2, 40), (1, 60, 126), (1, 1, 39)], [(3, 1, (-1)), (0, 1, 0)], [some (.inl (.int 1))])], [1538, 3072, 3200, 3328, 3456, 3584])
set_option maxRecDepth 100000 in
theorem z_x60_ok : z_chk z_D s_P (z_clq z_D z_x60.2.2.2 s_P [z_x58, z_x57]) 3000 z_x60 = true := z_chk2_ok (by decide +kernel)
theorem z_x60_s {J : aH → Prop} (hJ : z_jl J) {X : aX} : z_spec J z_D s_P X z_x60 := z_ctx_ok (z_hlen hJ) (fun H0 C S => z_clq_ok (z_hlen hJ) (z_cons (z_x58_s hJ) (z_cons (z_x57_s hJ) (z_nil))) _ H0 C S) z_x60_ok
/-- $Text.parse 14 24 -/
def z_x61 : zQ := ((78, 6, 2, 2), [(0, ([(0, 1), (0, 2)], [(1, 0, 60), (1, 0, 10)], [], [some (.inl (.ref 14)), some (.inr (0, 0)), some (.inr (1, 0)), some (.inl (.ref 24)), none]), [(0, 0, 1), (0, 0, 0)])], [([(0, 0), (1, 1538), (1, 2817), (1, 2818)], [(1, 0, 40), (1, 0, 40), (1, 0, 0), (1, 60, 127)], [(0, 1, 0)], [some (.inr (0, 0))]),
  ([(1, 1538), (1, 1539), (1, 2817), (1, 2818)], [(1, 0, 40), (1, 2, 40), (1, 2, 40), (1, 60, 126)], [(0, 1, 0), (1, 0, 0)], [some (.inl (.int (-1)))])], [1538, 1539, 1540, 2817, 2818, 2944, 3072, 3200, 3328, 3456, 3584])
set_option maxRecDepth 100000 in
theorem z_x61_ok : z_chk z_D s_P (z_clq z_D z_x61.2.2.2 s_P [z_x60, z_x59, z_x54]) 3000 z_x61 = true := z_chk2_ok (by decide +kernel)
theorem z_x61_s {J : aH → Prop} (hJ : z_jl J) {X : aX} : z_spec J z_D s_P X z_x61 := z_ctx_ok (z_hlen hJ) (fun H0 C S => z_clq_ok (z_hlen hJ) (z_cons (z_x60_s hJ) (z_cons (z_x59_s hJ) (z_cons (z_x54_s hJ) (z_nil)))) _ H0 C S) z_x61_ok
/-- $Saying.clear 31 -/
def z_x62 : zQ := ((79, 0, 0, 2), [(0, ([], [], [], [some (.inl (.ref 31)), none]), [(0, 0, 2), (0, 0, 0)]),
  (13, ([(0, 1), (1, 3713), (1, 3714)], [(1, 0, 4), (1, 0, 0), (1, 61, 61)], [], [some (.inl (.ref 31)), some (.inr (0, 0))]), [(0, 0, 1), (1, 0, 4)])], [([(1, 3713), (1, 3714)], [(1, 0, 0), (1, 61, 61)], [], [])], [3713, 3714, 3968, 4096, 4224])
set_option maxRecDepth 100000 in
theorem z_x62_ok : z_chk z_D s_P (z_clq z_D z_x62.2.2.2 s_P []) 3000 z_x62 = true := z_chk2_ok (by decide +kernel)
theorem z_x62_s {J : aH → Prop} (hJ : z_jl J) {X : aX} : z_spec J z_D s_P X z_x62 := z_ctx_ok (z_hlen hJ) (fun H0 C S => z_clq_ok (z_hlen hJ) (z_nil) _ H0 C S) z_x62_ok
/-- $Text.parseRate 14 31 -/
def z_x63 : zQ := ((84, 2, 3, 2), [(0, ([(0, 2), (1, 1538), (1, 1539)], [(1, 0, 1), (1, 0, 39), (1, 1, 40)], [(0, 1, 0), (0, 2, (-1)), (1, 2, (-1))], [some (.inl (.ref 14)), some (.inl (.ref 31)), some (.inr (0, 0))]), [(0, 0, 1), (0, 0, 0)])], [([(1, 1538), (2, 2), (2, 1)], [(1, 0, 40), (1, 1, 40), (1, 0, 39)], [(2, 1, (-1)), (0, 1, 0)], [some (.inl (.int 0))]),
  ([(1, 1538), (2, 2), (2, 1)], [(1, 0, 40), (1, 2, 40), (1, 0, 39)], [(2, 1, (-1)), (0, 1, 0)], [some (.inl (.int 1))])], [1538, 4352, 4480])
set_option maxRecDepth 100000 in
theorem z_x63_ok : z_chk z_D s_P (z_clq z_D z_x63.2.2.2 s_P [z_x45]) 3000 z_x63 = true := z_chk2_ok (by decide +kernel)
theorem z_x63_s {J : aH → Prop} (hJ : z_jl J) {X : aX} : z_spec J z_D s_P X z_x63 := z_ctx_ok (z_hlen hJ) (fun H0 C S => z_clq_ok (z_hlen hJ) (z_cons (z_x45_s hJ) (z_nil)) _ H0 C S) z_x63_ok
/-- $Text.parseEvent 14 31 -/
def z_x64 : zQ := ((87, 2, 4, 2), [(0, ([(0, 2), (1, 1538), (1, 1539), (1, 1540)], [(1, 0, 3), (1, 0, 40), (1, 0, 40), (1, 0, 10)], [(0, 1, 2), (0, 2, 2)], [some (.inl (.ref 14)), some (.inl (.ref 31)), some (.inr (0, 0)), none, none]), [(0, 0, 2), (0, 0, 0)]),
  (12, ([(0, 2), (0, 3), (1, 1538), (1, 1539), (2, 1), (2, 2), (2, 3), (1, 1540)], [(1, 0, 3), (1, 0, 5), (1, 0, 40), (1, 0, 40), (1, 0, 40), (1, 0, 40), (1, 0, 10), (1, 0, 10)], [(0, 4, 2), (0, 2, 2), (0, 3, 2), (1, 2, 0), (1, 3, 0), (4, 2, 0), (3, 5, 0), (5, 3, 0), (7, 6, 0), (6, 7, 0)], [some (.inl (.ref 14)), some (.inl (.ref 31)), some (.inr (0, 0)), some (.inr (1, 0)), none]), [(0, 0, 1), (1, 2, 40)])], [([(1, 1538), (2, 1)], [(1, 0, 40), (1, 0, 40)], [(1, 0, 0)], [some (.inl (.int 0))]),
  ([(1, 1538), (2, 2), (2, 3), (2, 1)], [(1, 1, 40), (1, 1, 40), (1, 1, 10), (1, 0, 39)], [(3, 0, (-1)), (0, 1, 0)], [some (.inl (.int 1))])], [1538, 3968, 4096, 4224])
set_option maxRecDepth 100000 in
theorem z_x64_ok : z_chk z_D s_P (z_clq z_D z_x64.2.2.2 s_P [z_x47]) 3000 z_x64 = true := z_chk2_ok (by decide +kernel)
theorem z_x64_s {J : aH → Prop} (hJ : z_jl J) {X : aX} : z_spec J z_D s_P X z_x64 := z_ctx_ok (z_hlen hJ) (fun H0 C S => z_clq_ok (z_hlen hJ) (z_cons (z_x47_s hJ) (z_nil)) _ H0 C S) z_x64_ok
/-- $Text.parseGiven 14 31 -/
def z_x65 : zQ := ((86, 3, 3, 2), [(0, ([(0, 2), (1, 1538), (1, 1539)], [(1, 0, 1), (1, 0, 40), (1, 0, 40)], [(0, 1, 0), (0, 2, 0)], [some (.inl (.ref 14)), some (.inl (.ref 31)), some (.inr (0, 0))]), [(0, 0, 1), (0, 0, 0)])], [([(1, 1538), (2, 1)], [(1, 0, 40), (1, 0, 40)], [(1, 0, 0)], [some (.inl (.int 0))]),
  ([(1, 1538), (2, 2), (2, 1)], [(1, 1, 40), (1, 1, 40), (1, 0, 39)], [(2, 0, (-1)), (2, 1, (-1)), (0, 1, 0)], [some (.inl (.int 1))])], [1538, 3968, 4096, 4224])
set_option maxRecDepth 100000 in
theorem z_x65_ok : z_chk z_D s_P (z_clq z_D z_x65.2.2.2 s_P [z_x64]) 3000 z_x65 = true := z_chk2_ok (by decide +kernel)
theorem z_x65_s {J : aH → Prop} (hJ : z_jl J) {X : aX} : z_spec J z_D s_P X z_x65 := z_ctx_ok (z_hlen hJ) (fun H0 C S => z_clq_ok (z_hlen hJ) (z_cons (z_x64_s hJ) (z_nil)) _ H0 C S) z_x65_ok
/-- $Text.parseTerm 14 31 -/
def z_x66 : zQ := ((81, 4, 3, 2), [(0, ([(0, 2), (1, 1538), (1, 1539)], [(1, 0, 1), (1, 0, 40), (1, 0, 40)], [(0, 1, 0), (0, 2, 0)], [some (.inl (.ref 14)), some (.inl (.ref 31)), some (.inr (0, 0))]), [(0, 0, 1), (0, 0, 0)])], [([(1, 1538), (2, 1)], [(1, 0, 40), (1, 0, 40)], [], [some (.inl (.int 0))]),
  ([(1, 1538), (2, 2), (2, 1)], [(1, 0, 40), (1, 1, 40), (1, 0, 39)], [(2, 1, (-1)), (0, 1, 0)], [some (.inl (.int 1))])], [1538, 3968, 4096, 4224, 4352, 4480])
set_option maxRecDepth 100000 in
theorem z_x66_ok : z_chk z_D s_P (z_clq z_D z_x66.2.2.2 s_P [z_x65, z_x63]) 3000 z_x66 = true := z_chk2_ok (by decide +kernel)
theorem z_x66_s {J : aH → Prop} (hJ : z_jl J) {X : aX} : z_spec J z_D s_P X z_x66 := z_ctx_ok (z_hlen hJ) (fun H0 C S => z_clq_ok (z_hlen hJ) (z_cons (z_x65_s hJ) (z_cons (z_x63_s hJ) (z_nil))) _ H0 C S) z_x66_ok
/-- $Text.parseFirst 14 31 -/
def z_x67 : zQ := ((80, 5, 3, 2), [(0, ([(1, 1538), (1, 3714), (1, 1539)], [(1, 0, 0), (1, 61, 61), (1, 0, 40)], [], [some (.inl (.ref 14)), some (.inl (.ref 31)), none, none]), [(0, 0, 1), (0, 0, 0)])], [([(1, 3714)], [(1, 61, 61)], [], [some (.inl (.int 0))]),
  ([(1, 1538), (2, 2), (1, 3714)], [(1, 1, 40), (1, 1, 40), (1, 60, 126)], [(0, 1, 0)], [some (.inl (.int 1))])], [1538, 3714, 3968, 4096, 4224, 4352, 4480])
set_option maxRecDepth 100000 in
theorem z_x67_ok : z_chk z_D s_P (z_clq z_D z_x67.2.2.2 s_P [z_x66]) 3000 z_x67 = true := z_chk2_ok (by decide +kernel)
theorem z_x67_s {J : aH → Prop} (hJ : z_jl J) {X : aX} : z_spec J z_D s_P X z_x67 := z_ctx_ok (z_hlen hJ) (fun H0 C S => z_clq_ok (z_hlen hJ) (z_cons (z_x66_s hJ) (z_nil)) _ H0 C S) z_x67_ok
/-- $Text.parseSecond 14 31 -/
def z_x68 : zQ := ((90, 5, 3, 2), [(0, ([(1, 1538), (1, 1539), (1, 3714)], [(1, 1, 40), (1, 1, 40), (1, 60, 126)], [], [some (.inl (.ref 14)), some (.inl (.ref 31))]), [(0, 0, 1), (0, 0, 0)])], [([(1, 1538), (2, 1), (2, 2), (2, 0)], [(1, 0, 40), (1, 1, 40), (1, 60, 126), (1, 1, 40)], [], [some (.inl (.int 0))]),
  ([(1, 1538), (2, 1), (2, 2), (2, 0)], [(1, 0, 40), (1, 2, 40), (1, 60, 126), (1, 1, 39)], [(3, 1, (-1)), (0, 1, 0)], [some (.inl (.int 1))])], [1538, 3968, 4096, 4224, 4352, 4480])
set_option maxRecDepth 100000 in
theorem z_x68_ok : z_chk z_D s_P (z_clq z_D z_x68.2.2.2 s_P [z_x66, z_x65]) 3000 z_x68 = true := z_chk2_ok (by decide +kernel)
theorem z_x68_s {J : aH → Prop} (hJ : z_jl J) {X : aX} : z_spec J z_D s_P X z_x68 := z_ctx_ok (z_hlen hJ) (fun H0 C S => z_clq_ok (z_hlen hJ) (z_cons (z_x66_s hJ) (z_cons (z_x65_s hJ) (z_nil))) _ H0 C S) z_x68_ok
/-- $Text.parse 14 31 -/
def z_x69 : zQ := ((78, 6, 2, 2), [(0, ([(0, 1), (0, 2)], [(1, 0, 60), (1, 0, 10)], [], [some (.inl (.ref 14)), some (.inr (0, 0)), some (.inr (1, 0)), some (.inl (.ref 31)), none]), [(0, 0, 1), (0, 0, 0)])], [([(0, 0), (1, 1538), (1, 3713), (1, 3714)], [(1, 0, 40), (1, 0, 40), (1, 0, 0), (1, 60, 127)], [(0, 1, 0)], [some (.inr (0, 0))]),
  ([(1, 1538), (1, 1539), (1, 3713), (1, 3714)], [(1, 0, 40), (1, 2, 40), (1, 2, 40), (1, 60, 126)], [(0, 1, 0), (1, 0, 0)], [some (.inl (.int (-1)))])], [1538, 1539, 1540, 3713, 3714, 3840, 3968, 4096, 4224, 4352, 4480])
set_option maxRecDepth 100000 in
theorem z_x69_ok : z_chk z_D s_P (z_clq z_D z_x69.2.2.2 s_P [z_x68, z_x67, z_x62]) 3000 z_x69 = true := z_chk2_ok (by decide +kernel)
theorem z_x69_s {J : aH → Prop} (hJ : z_jl J) {X : aX} : z_spec J z_D s_P X z_x69 := z_ctx_ok (z_hlen hJ) (fun H0 C S => z_clq_ok (z_hlen hJ) (z_cons (z_x68_s hJ) (z_cons (z_x67_s hJ) (z_cons (z_x62_s hJ) (z_nil)))) _ H0 C S) z_x69_ok
/-- $Saying.clear 38 -/
def z_x70 : zQ := ((79, 0, 0, 2), [(0, ([], [], [], [some (.inl (.ref 38)), none]), [(0, 0, 2), (0, 0, 0)]),
  (13, ([(0, 1), (1, 4609), (1, 4610)], [(1, 0, 4), (1, 0, 0), (1, 61, 61)], [], [some (.inl (.ref 38)), some (.inr (0, 0))]), [(0, 0, 1), (1, 0, 4)])], [([(1, 4609), (1, 4610)], [(1, 0, 0), (1, 61, 61)], [], [])], [4609, 4610, 4864, 4992, 5120])
set_option maxRecDepth 100000 in
theorem z_x70_ok : z_chk z_D s_P (z_clq z_D z_x70.2.2.2 s_P []) 3000 z_x70 = true := z_chk2_ok (by decide +kernel)
theorem z_x70_s {J : aH → Prop} (hJ : z_jl J) {X : aX} : z_spec J z_D s_P X z_x70 := z_ctx_ok (z_hlen hJ) (fun H0 C S => z_clq_ok (z_hlen hJ) (z_nil) _ H0 C S) z_x70_ok
/-- $Text.parseRate 14 38 -/
def z_x71 : zQ := ((84, 2, 3, 2), [(0, ([(0, 2), (1, 1538), (1, 1539)], [(1, 0, 1), (1, 0, 39), (1, 1, 40)], [(0, 1, 0), (0, 2, (-1)), (1, 2, (-1))], [some (.inl (.ref 14)), some (.inl (.ref 38)), some (.inr (0, 0))]), [(0, 0, 1), (0, 0, 0)])], [([(1, 1538), (2, 2), (2, 1)], [(1, 0, 40), (1, 1, 40), (1, 0, 39)], [(2, 1, (-1)), (0, 1, 0)], [some (.inl (.int 0))]),
  ([(1, 1538), (2, 2), (2, 1)], [(1, 0, 40), (1, 2, 40), (1, 0, 39)], [(2, 1, (-1)), (0, 1, 0)], [some (.inl (.int 1))])], [1538, 5248, 5376])
set_option maxRecDepth 100000 in
theorem z_x71_ok : z_chk z_D s_P (z_clq z_D z_x71.2.2.2 s_P [z_x45]) 3000 z_x71 = true := z_chk2_ok (by decide +kernel)
theorem z_x71_s {J : aH → Prop} (hJ : z_jl J) {X : aX} : z_spec J z_D s_P X z_x71 := z_ctx_ok (z_hlen hJ) (fun H0 C S => z_clq_ok (z_hlen hJ) (z_cons (z_x45_s hJ) (z_nil)) _ H0 C S) z_x71_ok
/-- $Text.parseEvent 14 38 -/
def z_x72 : zQ := ((87, 2, 4, 2), [(0, ([(0, 2), (1, 1538), (1, 1539), (1, 1540)], [(1, 0, 3), (1, 0, 40), (1, 0, 40), (1, 0, 10)], [(0, 1, 2), (0, 2, 2)], [some (.inl (.ref 14)), some (.inl (.ref 38)), some (.inr (0, 0)), none, none]), [(0, 0, 2), (0, 0, 0)]),
  (12, ([(0, 2), (0, 3), (1, 1538), (1, 1539), (2, 1), (2, 2), (2, 3), (1, 1540)], [(1, 0, 3), (1, 0, 5), (1, 0, 40), (1, 0, 40), (1, 0, 40), (1, 0, 40), (1, 0, 10), (1, 0, 10)], [(0, 4, 2), (0, 2, 2), (0, 3, 2), (1, 2, 0), (1, 3, 0), (4, 2, 0), (3, 5, 0), (5, 3, 0), (7, 6, 0), (6, 7, 0)], [some (.inl (.ref 14)), some (.inl (.ref 38)), some (.inr (0, 0)), some (.inr (1, 0)), none]), [(0, 0, 1), (1, 2, 40)])], [([(1, 1538), (2, 1)], [(1, 0, 40), (1, 0, 40)], [(1, 0, 0)], [some (.inl (.int 0))]),
  ([(1, 1538), (2, 2), (2, 3), (2, 1)], [(1, 1, 40), (1, 1, 40), (1, 1, 10), (1, 0, 39)], [(3, 0, (-1)), (0, 1, 0)], [some (.inl (.int 1))])], [1538, 4864, 4992, 5120])
set_option maxRecDepth 100000 in
theorem z_x72_ok : z_chk z_D s_P (z_clq z_D z_x72.2.2.2 s_P [z_x47]) 3000 z_x72 = true := z_chk2_ok (by decide +kernel)
theorem z_x72_s {J : aH → Prop} (hJ : z_jl J) {X : aX} : z_spec J z_D s_P X z_x72 := z_ctx_ok (z_hlen hJ) (fun H0 C S => z_clq_ok (z_hlen hJ) (z_cons (z_x47_s hJ) (z_nil)) _ H0 C S) z_x72_ok
/-- $Text.parseGiven 14 38 -/
def z_x73 : zQ := ((86, 3, 3, 2), [(0, ([(0, 2), (1, 1538), (1, 1539)], [(1, 0, 1), (1, 0, 40), (1, 0, 40)], [(0, 1, 0), (0, 2, 0)], [some (.inl (.ref 14)), some (.inl (.ref 38)), some (.inr (0, 0))]), [(0, 0, 1), (0, 0, 0)])], [([(1, 1538), (2, 1)], [(1, 0, 40), (1, 0, 40)], [(1, 0, 0)], [some (.inl (.int 0))]),
  ([(1, 1538), (2, 2), (2, 1)], [(1, 1, 40), (1, 1, 40), (1, 0, 39)], [(2, 0, (-1)), (2, 1, (-1)), (0, 1, 0)], [some (.inl (.int 1))])], [1538, 4864, 4992, 5120])
set_option maxRecDepth 100000 in
theorem z_x73_ok : z_chk z_D s_P (z_clq z_D z_x73.2.2.2 s_P [z_x72]) 3000 z_x73 = true := z_chk2_ok (by decide +kernel)
theorem z_x73_s {J : aH → Prop} (hJ : z_jl J) {X : aX} : z_spec J z_D s_P X z_x73 := z_ctx_ok (z_hlen hJ) (fun H0 C S => z_clq_ok (z_hlen hJ) (z_cons (z_x72_s hJ) (z_nil)) _ H0 C S) z_x73_ok
/-- $Text.parseTerm 14 38 -/
def z_x74 : zQ := ((81, 4, 3, 2), [(0, ([(0, 2), (1, 1538), (1, 1539)], [(1, 0, 1), (1, 0, 40), (1, 0, 40)], [(0, 1, 0), (0, 2, 0)], [some (.inl (.ref 14)), some (.inl (.ref 38)), some (.inr (0, 0))]), [(0, 0, 1), (0, 0, 0)])], [([(1, 1538), (2, 1)], [(1, 0, 40), (1, 0, 40)], [], [some (.inl (.int 0))]),
  ([(1, 1538), (2, 2), (2, 1)], [(1, 0, 40), (1, 1, 40), (1, 0, 39)], [(2, 1, (-1)), (0, 1, 0)], [some (.inl (.int 1))])], [1538, 4864, 4992, 5120, 5248, 5376])
set_option maxRecDepth 100000 in
theorem z_x74_ok : z_chk z_D s_P (z_clq z_D z_x74.2.2.2 s_P [z_x73, z_x71]) 3000 z_x74 = true := z_chk2_ok (by decide +kernel)
theorem z_x74_s {J : aH → Prop} (hJ : z_jl J) {X : aX} : z_spec J z_D s_P X z_x74 := z_ctx_ok (z_hlen hJ) (fun H0 C S => z_clq_ok (z_hlen hJ) (z_cons (z_x73_s hJ) (z_cons (z_x71_s hJ) (z_nil))) _ H0 C S) z_x74_ok
/-- $Text.parseFirst 14 38 -/
def z_x75 : zQ := ((80, 5, 3, 2), [(0, ([(1, 1538), (1, 4610), (1, 1539)], [(1, 0, 0), (1, 61, 61), (1, 0, 40)], [], [some (.inl (.ref 14)), some (.inl (.ref 38)), none, none]), [(0, 0, 1), (0, 0, 0)])], [([(1, 4610)], [(1, 61, 61)], [], [some (.inl (.int 0))]),
  ([(1, 1538), (2, 2), (1, 4610)], [(1, 1, 40), (1, 1, 40), (1, 60, 126)], [(0, 1, 0)], [some (.inl (.int 1))])], [1538, 4610, 4864, 4992, 5120, 5248, 5376])
set_option maxRecDepth 100000 in
theorem z_x75_ok : z_chk z_D s_P (z_clq z_D z_x75.2.2.2 s_P [z_x74]) 3000 z_x75 = true := z_chk2_ok (by decide +kernel)
theorem z_x75_s {J : aH → Prop} (hJ : z_jl J) {X : aX} : z_spec J z_D s_P X z_x75 := z_ctx_ok (z_hlen hJ) (fun H0 C S => z_clq_ok (z_hlen hJ) (z_cons (z_x74_s hJ) (z_nil)) _ H0 C S) z_x75_ok
/-- $Text.parseSecond 14 38 -/
def z_x76 : zQ := ((90, 5, 3, 2), [(0, ([(1, 1538), (1, 1539), (1, 4610)], [(1, 1, 40), (1, 1, 40), (1, 60, 126)], [], [some (.inl (.ref 14)), some (.inl (.ref 38))]), [(0, 0, 1), (0, 0, 0)])], [([(1, 1538), (2, 1), (2, 2), (2, 0)], [(1, 0, 40), (1, 1, 40), (1, 60, 126), (1, 1, 40)], [], [some (.inl (.int 0))]),
  ([(1, 1538), (2, 1), (2, 2), (2, 0)], [(1, 0, 40), (1, 2, 40), (1, 60, 126), (1, 1, 39)], [(3, 1, (-1)), (0, 1, 0)], [some (.inl (.int 1))])], [1538, 4864, 4992, 5120, 5248, 5376])
set_option maxRecDepth 100000 in
theorem z_x76_ok : z_chk z_D s_P (z_clq z_D z_x76.2.2.2 s_P [z_x74, z_x73]) 3000 z_x76 = true := z_chk2_ok (by decide +kernel)
theorem z_x76_s {J : aH → Prop} (hJ : z_jl J) {X : aX} : z_spec J z_D s_P X z_x76 := z_ctx_ok (z_hlen hJ) (fun H0 C S => z_clq_ok (z_hlen hJ) (z_cons (z_x74_s hJ) (z_cons (z_x73_s hJ) (z_nil))) _ H0 C S) z_x76_ok
/-- $Text.parse 14 38 -/
def z_x77 : zQ := ((78, 6, 2, 2), [(0, ([(0, 1), (0, 2)], [(1, 0, 60), (1, 0, 10)], [], [some (.inl (.ref 14)), some (.inr (0, 0)), some (.inr (1, 0)), some (.inl (.ref 38)), none]), [(0, 0, 1), (0, 0, 0)])], [([(0, 0), (1, 1538), (1, 4609), (1, 4610)], [(1, 0, 40), (1, 0, 40), (1, 0, 0), (1, 60, 127)], [(0, 1, 0)], [some (.inr (0, 0))]),
  ([(1, 1538), (1, 1539), (1, 4609), (1, 4610)], [(1, 0, 40), (1, 2, 40), (1, 2, 40), (1, 60, 126)], [(0, 1, 0), (1, 0, 0)], [some (.inl (.int (-1)))])], [1538, 1539, 1540, 4609, 4610, 4736, 4864, 4992, 5120, 5248, 5376])
set_option maxRecDepth 100000 in
theorem z_x77_ok : z_chk z_D s_P (z_clq z_D z_x77.2.2.2 s_P [z_x76, z_x75, z_x70]) 3000 z_x77 = true := z_chk2_ok (by decide +kernel)
theorem z_x77_s {J : aH → Prop} (hJ : z_jl J) {X : aX} : z_spec J z_D s_P X z_x77 := z_ctx_ok (z_hlen hJ) (fun H0 C S => z_clq_ok (z_hlen hJ) (z_cons (z_x76_s hJ) (z_cons (z_x75_s hJ) (z_cons (z_x70_s hJ) (z_nil)))) _ H0 C S) z_x77_ok
/-- $Saying.clear 45 -/
def z_x78 : zQ := ((79, 0, 0, 2), [(0, ([], [], [], [some (.inl (.ref 45)), none]), [(0, 0, 2), (0, 0, 0)]),
  (13, ([(0, 1), (1, 5505), (1, 5506)], [(1, 0, 4), (1, 0, 0), (1, 61, 61)], [], [some (.inl (.ref 45)), some (.inr (0, 0))]), [(0, 0, 1), (1, 0, 4)])], [([(1, 5505), (1, 5506)], [(1, 0, 0), (1, 61, 61)], [], [])], [5505, 5506, 5760, 5888, 6016])
set_option maxRecDepth 100000 in
theorem z_x78_ok : z_chk z_D s_P (z_clq z_D z_x78.2.2.2 s_P []) 3000 z_x78 = true := z_chk2_ok (by decide +kernel)
theorem z_x78_s {J : aH → Prop} (hJ : z_jl J) {X : aX} : z_spec J z_D s_P X z_x78 := z_ctx_ok (z_hlen hJ) (fun H0 C S => z_clq_ok (z_hlen hJ) (z_nil) _ H0 C S) z_x78_ok
/-- $Text.parseRate 14 45 -/
def z_x79 : zQ := ((84, 2, 3, 2), [(0, ([(0, 2), (1, 1538), (1, 1539)], [(1, 0, 1), (1, 0, 39), (1, 1, 40)], [(0, 1, 0), (0, 2, (-1)), (1, 2, (-1))], [some (.inl (.ref 14)), some (.inl (.ref 45)), some (.inr (0, 0))]), [(0, 0, 1), (0, 0, 0)])], [([(1, 1538), (2, 2), (2, 1)], [(1, 0, 40), (1, 1, 40), (1, 0, 39)], [(2, 1, (-1)), (0, 1, 0)], [some (.inl (.int 0))]),
  ([(1, 1538), (2, 2), (2, 1)], [(1, 0, 40), (1, 2, 40), (1, 0, 39)], [(2, 1, (-1)), (0, 1, 0)], [some (.inl (.int 1))])], [1538, 6144, 6272])
set_option maxRecDepth 100000 in
theorem z_x79_ok : z_chk z_D s_P (z_clq z_D z_x79.2.2.2 s_P [z_x45]) 3000 z_x79 = true := z_chk2_ok (by decide +kernel)
theorem z_x79_s {J : aH → Prop} (hJ : z_jl J) {X : aX} : z_spec J z_D s_P X z_x79 := z_ctx_ok (z_hlen hJ) (fun H0 C S => z_clq_ok (z_hlen hJ) (z_cons (z_x45_s hJ) (z_nil)) _ H0 C S) z_x79_ok
/-- $Text.parseEvent 14 45 -/
def z_x80 : zQ := ((87, 2, 4, 2), [(0, ([(0, 2), (1, 1538), (1, 1539), (1, 1540)], [(1, 0, 3), (1, 0, 40), (1, 0, 40), (1, 0, 10)], [(0, 1, 2), (0, 2, 2)], [some (.inl (.ref 14)), some (.inl (.ref 45)), some (.inr (0, 0)), none, none]), [(0, 0, 2), (0, 0, 0)]),
  (12, ([(0, 2), (0, 3), (1, 1538), (1, 1539), (2, 1), (2, 2), (2, 3), (1, 1540)], [(1, 0, 3), (1, 0, 5), (1, 0, 40), (1, 0, 40), (1, 0, 40), (1, 0, 40), (1, 0, 10), (1, 0, 10)], [(0, 4, 2), (0, 2, 2), (0, 3, 2), (1, 2, 0), (1, 3, 0), (4, 2, 0), (3, 5, 0), (5, 3, 0), (7, 6, 0), (6, 7, 0)], [some (.inl (.ref 14)), some (.inl (.ref 45)), some (.inr (0, 0)), some (.inr (1, 0)), none]), [(0, 0, 1), (1, 2, 40)])], [([(1, 1538), (2, 1)], [(1, 0, 40), (1, 0, 40)], [(1, 0, 0)], [some (.inl (.int 0))]),
  ([(1, 1538), (2, 2), (2, 3), (2, 1)], [(1, 1, 40), (1, 1, 40), (1, 1, 10), (1, 0, 39)], [(3, 0, (-1)), (0, 1, 0)], [some (.inl (.int 1))])], [1538, 5760, 5888, 6016])
set_option maxRecDepth 100000 in
theorem z_x80_ok : z_chk z_D s_P (z_clq z_D z_x80.2.2.2 s_P [z_x47]) 3000 z_x80 = true := z_chk2_ok (by decide +kernel)
theorem z_x80_s {J : aH → Prop} (hJ : z_jl J) {X : aX} : z_spec J z_D s_P X z_x80 := z_ctx_ok (z_hlen hJ) (fun H0 C S => z_clq_ok (z_hlen hJ) (z_cons (z_x47_s hJ) (z_nil)) _ H0 C S) z_x80_ok
/-- $Text.parseGiven 14 45 -/
def z_x81 : zQ := ((86, 3, 3, 2), [(0, ([(0, 2), (1, 1538), (1, 1539)], [(1, 0, 1), (1, 0, 40), (1, 0, 40)], [(0, 1, 0), (0, 2, 0)], [some (.inl (.ref 14)), some (.inl (.ref 45)), some (.inr (0, 0))]), [(0, 0, 1), (0, 0, 0)])], [([(1, 1538), (2, 1)], [(1, 0, 40), (1, 0, 40)], [(1, 0, 0)], [some (.inl (.int 0))]),
  ([(1, 1538), (2, 2), (2, 1)], [(1, 1, 40), (1, 1, 40), (1, 0, 39)], [(2, 0, (-1)), (2, 1, (-1)), (0, 1, 0)], [some (.inl (.int 1))])], [1538, 5760, 5888, 6016])
set_option maxRecDepth 100000 in
theorem z_x81_ok : z_chk z_D s_P (z_clq z_D z_x81.2.2.2 s_P [z_x80]) 3000 z_x81 = true := z_chk2_ok (by decide +kernel)
theorem z_x81_s {J : aH → Prop} (hJ : z_jl J) {X : aX} : z_spec J z_D s_P X z_x81 := z_ctx_ok (z_hlen hJ) (fun H0 C S => z_clq_ok (z_hlen hJ) (z_cons (z_x80_s hJ) (z_nil)) _ H0 C S) z_x81_ok
/-- $Text.parseTerm 14 45 -/
def z_x82 : zQ := ((81, 4, 3, 2), [(0, ([(0, 2), (1, 1538), (1, 1539)], [(1, 0, 1), (1, 0, 40), (1, 0, 40)], [(0, 1, 0), (0, 2, 0)], [some (.inl (.ref 14)), some (.inl (.ref 45)), some (.inr (0, 0))]), [(0, 0, 1), (0, 0, 0)])], [([(1, 1538), (2, 1)], [(1, 0, 40), (1, 0, 40)], [], [some (.inl (.int 0))]),
  ([(1, 1538), (2, 2), (2, 1)], [(1, 0, 40), (1, 1, 40), (1, 0, 39)], [(2, 1, (-1)), (0, 1, 0)], [some (.inl (.int 1))])], [1538, 5760, 5888, 6016, 6144, 6272])
set_option maxRecDepth 100000 in
theorem z_x82_ok : z_chk z_D s_P (z_clq z_D z_x82.2.2.2 s_P [z_x81, z_x79]) 3000 z_x82 = true := z_chk2_ok (by decide +kernel)
theorem z_x82_s {J : aH → Prop} (hJ : z_jl J) {X : aX} : z_spec J z_D s_P X z_x82 := z_ctx_ok (z_hlen hJ) (fun H0 C S => z_clq_ok (z_hlen hJ) (z_cons (z_x81_s hJ) (z_cons (z_x79_s hJ) (z_nil))) _ H0 C S) z_x82_ok
/-- $Text.parseFirst 14 45 -/
def z_x83 : zQ := ((80, 5, 3, 2), [(0, ([(1, 1538), (1, 5506), (1, 1539)], [(1, 0, 0), (1, 61, 61), (1, 0, 40)], [], [some (.inl (.ref 14)), some (.inl (.ref 45)), none, none]), [(0, 0, 1), (0, 0, 0)])], [([(1, 5506)], [(1, 61, 61)], [], [some (.inl (.int 0))]),
  ([(1, 1538), (2, 2), (1, 5506)], [(1, 1, 40), (1, 1, 40), (1, 60, 126)], [(0, 1, 0)], [some (.inl (.int 1))])], [1538, 5506, 5760, 5888, 6016, 6144, 6272])
set_option maxRecDepth 100000 in
theorem z_x83_ok : z_chk z_D s_P (z_clq z_D z_x83.2.2.2 s_P [z_x82]) 3000 z_x83 = true := z_chk2_ok (by decide +kernel)
theorem z_x83_s {J : aH → Prop} (hJ : z_jl J) {X : aX} : z_spec J z_D s_P X z_x83 := z_ctx_ok (z_hlen hJ) (fun H0 C S => z_clq_ok (z_hlen hJ) (z_cons (z_x82_s hJ) (z_nil)) _ H0 C S) z_x83_ok
/-- $Text.parseSecond 14 45 -/
def z_x84 : zQ := ((90, 5, 3, 2), [(0, ([(1, 1538), (1, 1539), (1, 5506)], [(1, 1, 40), (1, 1, 40), (1, 60, 126)], [], [some (.inl (.ref 14)), some (.inl (.ref 45))]), [(0, 0, 1), (0, 0, 0)])], [([(1, 1538), (2, 1), (2, 2), (2, 0)], [(1, 0, 40), (1, 1, 40), (1, 60, 126), (1, 1, 40)], [], [some (.inl (.int 0))]),
  ([(1, 1538), (2, 1), (2, 2), (2, 0)], [(1, 0, 40), (1, 2, 40), (1, 60, 126), (1, 1, 39)], [(3, 1, (-1)), (0, 1, 0)], [some (.inl (.int 1))])], [1538, 5760, 5888, 6016, 6144, 6272])
set_option maxRecDepth 100000 in
theorem z_x84_ok : z_chk z_D s_P (z_clq z_D z_x84.2.2.2 s_P [z_x82, z_x81]) 3000 z_x84 = true := z_chk2_ok (by decide +kernel)
theorem z_x84_s {J : aH → Prop} (hJ : z_jl J) {X : aX} : z_spec J z_D s_P X z_x84 := z_ctx_ok (z_hlen hJ) (fun H0 C S => z_clq_ok (z_hlen hJ) (z_cons (z_x82_s hJ) (z_cons (z_x81_s hJ) (z_nil))) _ H0 C S) z_x84_ok
/-- $Text.parse 14 45 -/
def z_x85 : zQ := ((78, 6, 2, 2), [(0, ([(0, 1), (0, 2)], [(1, 0, 60), (1, 0, 10)], [], [some (.inl (.ref 14)), some (.inr (0, 0)), some (.inr (1, 0)), some (.inl (.ref 45)), none]), [(0, 0, 1), (0, 0, 0)])], [([(0, 0), (1, 1538), (1, 5505), (1, 5506)], [(1, 0, 40), (1, 0, 40), (1, 0, 0), (1, 60, 127)], [(0, 1, 0)], [some (.inr (0, 0))]),
  ([(1, 1538), (1, 1539), (1, 5505), (1, 5506)], [(1, 0, 40), (1, 2, 40), (1, 2, 40), (1, 60, 126)], [(0, 1, 0), (1, 0, 0)], [some (.inl (.int (-1)))])], [1538, 1539, 1540, 5505, 5506, 5632, 5760, 5888, 6016, 6144, 6272])
set_option maxRecDepth 100000 in
theorem z_x85_ok : z_chk z_D s_P (z_clq z_D z_x85.2.2.2 s_P [z_x84, z_x83, z_x78]) 3000 z_x85 = true := z_chk2_ok (by decide +kernel)
theorem z_x85_s {J : aH → Prop} (hJ : z_jl J) {X : aX} : z_spec J z_D s_P X z_x85 := z_ctx_ok (z_hlen hJ) (fun H0 C S => z_clq_ok (z_hlen hJ) (z_cons (z_x84_s hJ) (z_cons (z_x83_s hJ) (z_cons (z_x78_s hJ) (z_nil)))) _ H0 C S) z_x85_ok
/-- $Saying.clear 52 -/
def z_x86 : zQ := ((79, 0, 0, 2), [(0, ([], [], [], [some (.inl (.ref 52)), none]), [(0, 0, 2), (0, 0, 0)]),
  (13, ([(0, 1), (1, 6401), (1, 6402)], [(1, 0, 4), (1, 0, 0), (1, 61, 61)], [], [some (.inl (.ref 52)), some (.inr (0, 0))]), [(0, 0, 1), (1, 0, 4)])], [([(1, 6401), (1, 6402)], [(1, 0, 0), (1, 61, 61)], [], [])], [6401, 6402, 6656, 6784, 6912])
set_option maxRecDepth 100000 in
theorem z_x86_ok : z_chk z_D s_P (z_clq z_D z_x86.2.2.2 s_P []) 3000 z_x86 = true := z_chk2_ok (by decide +kernel)
theorem z_x86_s {J : aH → Prop} (hJ : z_jl J) {X : aX} : z_spec J z_D s_P X z_x86 := z_ctx_ok (z_hlen hJ) (fun H0 C S => z_clq_ok (z_hlen hJ) (z_nil) _ H0 C S) z_x86_ok
/-- $Text.parseRate 14 52 -/
def z_x87 : zQ := ((84, 2, 3, 2), [(0, ([(0, 2), (1, 1538), (1, 1539)], [(1, 0, 1), (1, 0, 39), (1, 1, 40)], [(0, 1, 0), (0, 2, (-1)), (1, 2, (-1))], [some (.inl (.ref 14)), some (.inl (.ref 52)), some (.inr (0, 0))]), [(0, 0, 1), (0, 0, 0)])], [([(1, 1538), (2, 2), (2, 1)], [(1, 0, 40), (1, 1, 40), (1, 0, 39)], [(2, 1, (-1)), (0, 1, 0)], [some (.inl (.int 0))]),
  ([(1, 1538), (2, 2), (2, 1)], [(1, 0, 40), (1, 2, 40), (1, 0, 39)], [(2, 1, (-1)), (0, 1, 0)], [some (.inl (.int 1))])], [1538, 7040, 7168])
set_option maxRecDepth 100000 in
theorem z_x87_ok : z_chk z_D s_P (z_clq z_D z_x87.2.2.2 s_P [z_x45]) 3000 z_x87 = true := z_chk2_ok (by decide +kernel)
theorem z_x87_s {J : aH → Prop} (hJ : z_jl J) {X : aX} : z_spec J z_D s_P X z_x87 := z_ctx_ok (z_hlen hJ) (fun H0 C S => z_clq_ok (z_hlen hJ) (z_cons (z_x45_s hJ) (z_nil)) _ H0 C S) z_x87_ok
/-- $Text.parseEvent 14 52 -/
def z_x88 : zQ := ((87, 2, 4, 2), [(0, ([(0, 2), (1, 1538), (1, 1539), (1, 1540)], [(1, 0, 3), (1, 0, 40), (1, 0, 40), (1, 0, 10)], [(0, 1, 2), (0, 2, 2)], [some (.inl (.ref 14)), some (.inl (.ref 52)), some (.inr (0, 0)), none, none]), [(0, 0, 2), (0, 0, 0)]),
  (12, ([(0, 2), (0, 3), (1, 1538), (1, 1539), (2, 1), (2, 2), (2, 3), (1, 1540)], [(1, 0, 3), (1, 0, 5), (1, 0, 40), (1, 0, 40), (1, 0, 40), (1, 0, 40), (1, 0, 10), (1, 0, 10)], [(0, 4, 2), (0, 2, 2), (0, 3, 2), (1, 2, 0), (1, 3, 0), (4, 2, 0), (3, 5, 0), (5, 3, 0), (7, 6, 0), (6, 7, 0)], [some (.inl (.ref 14)), some (.inl (.ref 52)), some (.inr (0, 0)), some (.inr (1, 0)), none]), [(0, 0, 1), (1, 2, 40)])], [([(1, 1538), (2, 1)], [(1, 0, 40), (1, 0, 40)], [(1, 0, 0)], [some (.inl (.int 0))]),
  ([(1, 1538), (2, 2), (2, 3), (2, 1)], [(1, 1, 40), (1, 1, 40), (1, 1, 10), (1, 0, 39)], [(3, 0, (-1)), (0, 1, 0)], [some (.inl (.int 1))])], [1538, 6656, 6784, 6912])
set_option maxRecDepth 100000 in
theorem z_x88_ok : z_chk z_D s_P (z_clq z_D z_x88.2.2.2 s_P [z_x47]) 3000 z_x88 = true := z_chk2_ok (by decide +kernel)
theorem z_x88_s {J : aH → Prop} (hJ : z_jl J) {X : aX} : z_spec J z_D s_P X z_x88 := z_ctx_ok (z_hlen hJ) (fun H0 C S => z_clq_ok (z_hlen hJ) (z_cons (z_x47_s hJ) (z_nil)) _ H0 C S) z_x88_ok
/-- $Text.parseGiven 14 52 -/
def z_x89 : zQ := ((86, 3, 3, 2), [(0, ([(0, 2), (1, 1538), (1, 1539)], [(1, 0, 1), (1, 0, 40), (1, 0, 40)], [(0, 1, 0), (0, 2, 0)], [some (.inl (.ref 14)), some (.inl (.ref 52)), some (.inr (0, 0))]), [(0, 0, 1), (0, 0, 0)])], [([(1, 1538), (2, 1)], [(1, 0, 40), (1, 0, 40)], [(1, 0, 0)], [some (.inl (.int 0))]),
  ([(1, 1538), (2, 2), (2, 1)], [(1, 1, 40), (1, 1, 40), (1, 0, 39)], [(2, 0, (-1)), (2, 1, (-1)), (0, 1, 0)], [some (.inl (.int 1))])], [1538, 6656, 6784, 6912])
set_option maxRecDepth 100000 in
theorem z_x89_ok : z_chk z_D s_P (z_clq z_D z_x89.2.2.2 s_P [z_x88]) 3000 z_x89 = true := z_chk2_ok (by decide +kernel)
theorem z_x89_s {J : aH → Prop} (hJ : z_jl J) {X : aX} : z_spec J z_D s_P X z_x89 := z_ctx_ok (z_hlen hJ) (fun H0 C S => z_clq_ok (z_hlen hJ) (z_cons (z_x88_s hJ) (z_nil)) _ H0 C S) z_x89_ok
/-- $Text.parseTerm 14 52 -/
def z_x90 : zQ := ((81, 4, 3, 2), [(0, ([(0, 2), (1, 1538), (1, 1539)], [(1, 0, 1), (1, 0, 40), (1, 0, 40)], [(0, 1, 0), (0, 2, 0)], [some (.inl (.ref 14)), some (.inl (.ref 52)), some (.inr (0, 0))]), [(0, 0, 1), (0, 0, 0)])], [([(1, 1538), (2, 1)], [(1, 0, 40), (1, 0, 40)], [], [some (.inl (.int 0))]),
  ([(1, 1538), (2, 2), (2, 1)], [(1, 0, 40), (1, 1, 40), (1, 0, 39)], [(2, 1, (-1)), (0, 1, 0)], [some (.inl (.int 1))])], [1538, 6656, 6784, 6912, 7040, 7168])
set_option maxRecDepth 100000 in
theorem z_x90_ok : z_chk z_D s_P (z_clq z_D z_x90.2.2.2 s_P [z_x89, z_x87]) 3000 z_x90 = true := z_chk2_ok (by decide +kernel)
theorem z_x90_s {J : aH → Prop} (hJ : z_jl J) {X : aX} : z_spec J z_D s_P X z_x90 := z_ctx_ok (z_hlen hJ) (fun H0 C S => z_clq_ok (z_hlen hJ) (z_cons (z_x89_s hJ) (z_cons (z_x87_s hJ) (z_nil))) _ H0 C S) z_x90_ok
/-- $Text.parseFirst 14 52 -/
def z_x91 : zQ := ((80, 5, 3, 2), [(0, ([(1, 1538), (1, 6402), (1, 1539)], [(1, 0, 0), (1, 61, 61), (1, 0, 40)], [], [some (.inl (.ref 14)), some (.inl (.ref 52)), none, none]), [(0, 0, 1), (0, 0, 0)])], [([(1, 6402)], [(1, 61, 61)], [], [some (.inl (.int 0))]),
  ([(1, 1538), (2, 2), (1, 6402)], [(1, 1, 40), (1, 1, 40), (1, 60, 126)], [(0, 1, 0)], [some (.inl (.int 1))])], [1538, 6402, 6656, 6784, 6912, 7040, 7168])
set_option maxRecDepth 100000 in
theorem z_x91_ok : z_chk z_D s_P (z_clq z_D z_x91.2.2.2 s_P [z_x90]) 3000 z_x91 = true := z_chk2_ok (by decide +kernel)
theorem z_x91_s {J : aH → Prop} (hJ : z_jl J) {X : aX} : z_spec J z_D s_P X z_x91 := z_ctx_ok (z_hlen hJ) (fun H0 C S => z_clq_ok (z_hlen hJ) (z_cons (z_x90_s hJ) (z_nil)) _ H0 C S) z_x91_ok
/-- $Text.parseSecond 14 52 -/
def z_x92 : zQ := ((90, 5, 3, 2), [(0, ([(1, 1538), (1, 1539), (1, 6402)], [(1, 1, 40), (1, 1, 40), (1, 60, 126)], [], [some (.inl (.ref 14)), some (.inl (.ref 52))]), [(0, 0, 1), (0, 0, 0)])], [([(1, 1538), (2, 1), (2, 2), (2, 0)], [(1, 0, 40), (1, 1, 40), (1, 60, 126), (1, 1, 40)], [], [some (.inl (.int 0))]),
  ([(1, 1538), (2, 1), (2, 2), (2, 0)], [(1, 0, 40), (1, 2, 40), (1, 60, 126), (1, 1, 39)], [(3, 1, (-1)), (0, 1, 0)], [some (.inl (.int 1))])], [1538, 6656, 6784, 6912, 7040, 7168])
set_option maxRecDepth 100000 in
theorem z_x92_ok : z_chk z_D s_P (z_clq z_D z_x92.2.2.2 s_P [z_x90, z_x89]) 3000 z_x92 = true := z_chk2_ok (by decide +kernel)
theorem z_x92_s {J : aH → Prop} (hJ : z_jl J) {X : aX} : z_spec J z_D s_P X z_x92 := z_ctx_ok (z_hlen hJ) (fun H0 C S => z_clq_ok (z_hlen hJ) (z_cons (z_x90_s hJ) (z_cons (z_x89_s hJ) (z_nil))) _ H0 C S) z_x92_ok
/-- $Text.parse 14 52 -/
def z_x93 : zQ := ((78, 6, 2, 2), [(0, ([(0, 1), (0, 2)], [(1, 0, 60), (1, 0, 10)], [], [some (.inl (.ref 14)), some (.inr (0, 0)), some (.inr (1, 0)), some (.inl (.ref 52)), none]), [(0, 0, 1), (0, 0, 0)])], [([(0, 0), (1, 1538), (1, 6401), (1, 6402)], [(1, 0, 40), (1, 0, 40), (1, 0, 0), (1, 60, 127)], [(0, 1, 0)], [some (.inr (0, 0))]),
  ([(1, 1538), (1, 1539), (1, 6401), (1, 6402)], [(1, 0, 40), (1, 2, 40), (1, 2, 40), (1, 60, 126)], [(0, 1, 0), (1, 0, 0)], [some (.inl (.int (-1)))])], [1538, 1539, 1540, 6401, 6402, 6528, 6656, 6784, 6912, 7040, 7168])
set_option maxRecDepth 100000 in
theorem z_x93_ok : z_chk z_D s_P (z_clq z_D z_x93.2.2.2 s_P [z_x92, z_x91, z_x86]) 3000 z_x93 = true := z_chk2_ok (by decide +kernel)
theorem z_x93_s {J : aH → Prop} (hJ : z_jl J) {X : aX} : z_spec J z_D s_P X z_x93 := z_ctx_ok (z_hlen hJ) (fun H0 C S => z_clq_ok (z_hlen hJ) (z_cons (z_x92_s hJ) (z_cons (z_x91_s hJ) (z_cons (z_x86_s hJ) (z_nil)))) _ H0 C S) z_x93_ok
/-- $Saying.clear 59 -/
def z_x94 : zQ := ((79, 0, 0, 2), [(0, ([], [], [], [some (.inl (.ref 59)), none]), [(0, 0, 2), (0, 0, 0)]),
  (13, ([(0, 1), (1, 7297), (1, 7298)], [(1, 0, 4), (1, 0, 0), (1, 61, 61)], [], [some (.inl (.ref 59)), some (.inr (0, 0))]), [(0, 0, 1), (1, 0, 4)])], [([(1, 7297), (1, 7298)], [(1, 0, 0), (1, 61, 61)], [], [])], [7297, 7298, 7552, 7680, 7808])
set_option maxRecDepth 100000 in
theorem z_x94_ok : z_chk z_D s_P (z_clq z_D z_x94.2.2.2 s_P []) 3000 z_x94 = true := z_chk2_ok (by decide +kernel)
theorem z_x94_s {J : aH → Prop} (hJ : z_jl J) {X : aX} : z_spec J z_D s_P X z_x94 := z_ctx_ok (z_hlen hJ) (fun H0 C S => z_clq_ok (z_hlen hJ) (z_nil) _ H0 C S) z_x94_ok
/-- $Text.parseRate 14 59 -/
def z_x95 : zQ := ((84, 2, 3, 2), [(0, ([(0, 2), (1, 1538), (1, 1539)], [(1, 0, 1), (1, 0, 39), (1, 1, 40)], [(0, 1, 0), (0, 2, (-1)), (1, 2, (-1))], [some (.inl (.ref 14)), some (.inl (.ref 59)), some (.inr (0, 0))]), [(0, 0, 1), (0, 0, 0)])], [([(1, 1538), (2, 2), (2, 1)], [(1, 0, 40), (1, 1, 40), (1, 0, 39)], [(2, 1, (-1)), (0, 1, 0)], [some (.inl (.int 0))]),
  ([(1, 1538), (2, 2), (2, 1)], [(1, 0, 40), (1, 2, 40), (1, 0, 39)], [(2, 1, (-1)), (0, 1, 0)], [some (.inl (.int 1))])], [1538, 7936, 8064])
set_option maxRecDepth 100000 in
theorem z_x95_ok : z_chk z_D s_P (z_clq z_D z_x95.2.2.2 s_P [z_x45]) 3000 z_x95 = true := z_chk2_ok (by decide +kernel)
theorem z_x95_s {J : aH → Prop} (hJ : z_jl J) {X : aX} : z_spec J z_D s_P X z_x95 := z_ctx_ok (z_hlen hJ) (fun H0 C S => z_clq_ok (z_hlen hJ) (z_cons (z_x45_s hJ) (z_nil)) _ H0 C S) z_x95_ok
/-- $Text.parseEvent 14 59 -/
def z_x96 : zQ := ((87, 2, 4, 2), [(0, ([(0, 2), (1, 1538), (1, 1539), (1, 1540)], [(1, 0, 3), (1, 0, 40), (1, 0, 40), (1, 0, 10)], [(0, 1, 2), (0, 2, 2)], [some (.inl (.ref 14)), some (.inl (.ref 59)), some (.inr (0, 0)), none, none]), [(0, 0, 2), (0, 0, 0)]),
  (12, ([(0, 2), (0, 3), (1, 1538), (1, 1539), (2, 1), (2, 2), (2, 3), (1, 1540)], [(1, 0, 3), (1, 0, 5), (1, 0, 40), (1, 0, 40), (1, 0, 40), (1, 0, 40), (1, 0, 10), (1, 0, 10)], [(0, 4, 2), (0, 2, 2), (0, 3, 2), (1, 2, 0), (1, 3, 0), (4, 2, 0), (3, 5, 0), (5, 3, 0), (7, 6, 0), (6, 7, 0)], [some (.inl (.ref 14)), some (.inl (.ref 59)), some (.inr (0, 0)), some (.inr (1, 0)), none]), [(0, 0, 1), (1, 2, 40)])], [([(1, 1538), (2, 1)], [(1, 0, 40), (1, 0, 40)], [(1, 0, 0)], [some (.inl (.int 0))]),
  ([(1, 1538), (2, 2), (2, 3), (2, 1)], [(1, 1, 40), (1, 1, 40), (1, 1, 10), (1, 0, 39)], [(3, 0, (-1)), (0, 1, 0)], [some (.inl (.int 1))])], [1538, 7552, 7680, 7808])
set_option maxRecDepth 100000 in
theorem z_x96_ok : z_chk z_D s_P (z_clq z_D z_x96.2.2.2 s_P [z_x47]) 3000 z_x96 = true := z_chk2_ok (by decide +kernel)
theorem z_x96_s {J : aH → Prop} (hJ : z_jl J) {X : aX} : z_spec J z_D s_P X z_x96 := z_ctx_ok (z_hlen hJ) (fun H0 C S => z_clq_ok (z_hlen hJ) (z_cons (z_x47_s hJ) (z_nil)) _ H0 C S) z_x96_ok
/-- $Text.parseGiven 14 59 -/
def z_x97 : zQ := ((86, 3, 3, 2), [(0, ([(0, 2), (1, 1538), (1, 1539)], [(1, 0, 1), (1, 0, 40), (1, 0, 40)], [(0, 1, 0), (0, 2, 0)], [some (.inl (.ref 14)), some (.inl (.ref 59)), some (.inr (0, 0))]), [(0, 0, 1), (0, 0, 0)])], [([(1, 1538), (2, 1)], [(1, 0, 40), (1, 0, 40)], [(1, 0, 0)], [some (.inl (.int 0))]),
  ([(1, 1538), (2, 2), (2, 1)], [(1, 1, 40), (1, 1, 40), (1, 0, 39)], [(2, 0, (-1)), (2, 1, (-1)), (0, 1, 0)], [some (.inl (.int 1))])], [1538, 7552, 7680, 7808])
set_option maxRecDepth 100000 in
theorem z_x97_ok : z_chk z_D s_P (z_clq z_D z_x97.2.2.2 s_P [z_x96]) 3000 z_x97 = true := z_chk2_ok (by decide +kernel)
theorem z_x97_s {J : aH → Prop} (hJ : z_jl J) {X : aX} : z_spec J z_D s_P X z_x97 := z_ctx_ok (z_hlen hJ) (fun H0 C S => z_clq_ok (z_hlen hJ) (z_cons (z_x96_s hJ) (z_nil)) _ H0 C S) z_x97_ok
/-- $Text.parseTerm 14 59 -/
def z_x98 : zQ := ((81, 4, 3, 2), [(0, ([(0, 2), (1, 1538), (1, 1539)], [(1, 0, 1), (1, 0, 40), (1, 0, 40)], [(0, 1, 0), (0, 2, 0)], [some (.inl (.ref 14)), some (.inl (.ref 59)), some (.inr (0, 0))]), [(0, 0, 1), (0, 0, 0)])], [([(1, 1538), (2, 1)], [(1, 0, 40), (1, 0, 40)], [], [some (.inl (.int 0))]),
  ([(1, 1538), (2, 2), (2, 1)], [(1, 0, 40), (1, 1, 40), (1, 0, 39)], [(2, 1, (-1)), (0, 1, 0)], [some (.inl (.int 1))])], [1538, 7552, 7680, 7808, 7936, 8064])
set_option maxRecDepth 100000 in
theorem z_x98_ok : z_chk z_D s_P (z_clq z_D z_x98.2.2.2 s_P [z_x97, z_x95]) 3000 z_x98 = true := z_chk2_ok (by decide +kernel)
theorem z_x98_s {J : aH → Prop} (hJ : z_jl J) {X : aX} : z_spec J z_D s_P X z_x98 := z_ctx_ok (z_hlen hJ) (fun H0 C S => z_clq_ok (z_hlen hJ) (z_cons (z_x97_s hJ) (z_cons (z_x95_s hJ) (z_nil))) _ H0 C S) z_x98_ok
/-- $Text.parseFirst 14 59 -/
def z_x99 : zQ := ((80, 5, 3, 2), [(0, ([(1, 1538), (1, 7298), (1, 1539)], [(1, 0, 0), (1, 61, 61), (1, 0, 40)], [], [some (.inl (.ref 14)), some (.inl (.ref 59)), none, none]), [(0, 0, 1), (0, 0, 0)])], [([(1, 7298)], [(1, 61, 61)], [], [some (.inl (.int 0))]),
  ([(1, 1538), (2, 2), (1, 7298)], [(1, 1, 40), (1, 1, 40), (1, 60, 126)], [(0, 1, 0)], [some (.inl (.int 1))])], [1538, 7298, 7552, 7680, 7808, 7936, 8064])
set_option maxRecDepth 100000 in
theorem z_x99_ok : z_chk z_D s_P (z_clq z_D z_x99.2.2.2 s_P [z_x98]) 3000 z_x99 = true := z_chk2_ok (by decide +kernel)
theorem z_x99_s {J : aH → Prop} (hJ : z_jl J) {X : aX} : z_spec J z_D s_P X z_x99 := z_ctx_ok (z_hlen hJ) (fun H0 C S => z_clq_ok (z_hlen hJ) (z_cons (z_x98_s hJ) (z_nil)) _ H0 C S) z_x99_ok
/-- $Text.parseSecond 14 59 -/
def z_x100 : zQ := ((90, 5, 3, 2), [(0, ([(1, 1538), (1, 1539), (1, 7298)], [(1, 1, 40), (1, 1, 40), (1, 60, 126)], [], [some (.inl (.ref 14)), some (.inl (.ref 59))]), [(0, 0, 1), (0, 0, 0)])], [([(1, 1538), (2, 1), (2, 2), (2, 0)], [(1, 0, 40), (1, 1, 40), (1, 60, 126), (1, 1, 40)], [], [some (.inl (.int 0))]),
  ([(1, 1538), (2, 1), (2, 2), (2, 0)], [(1, 0, 40), (1, 2, 40), (1, 60, 126), (1, 1, 39)], [(3, 1, (-1)), (0, 1, 0)], [some (.inl (.int 1))])], [1538, 7552, 7680, 7808, 7936, 8064])
set_option maxRecDepth 100000 in
theorem z_x100_ok : z_chk z_D s_P (z_clq z_D z_x100.2.2.2 s_P [z_x98, z_x97]) 3000 z_x100 = true := z_chk2_ok (by decide +kernel)
theorem z_x100_s {J : aH → Prop} (hJ : z_jl J) {X : aX} : z_spec J z_D s_P X z_x100 := z_ctx_ok (z_hlen hJ) (fun H0 C S => z_clq_ok (z_hlen hJ) (z_cons (z_x98_s hJ) (z_cons (z_x97_s hJ) (z_nil))) _ H0 C S) z_x100_ok
/-- $Text.parse 14 59 -/
def z_x101 : zQ := ((78, 6, 2, 2), [(0, ([(0, 1), (0, 2)], [(1, 0, 60), (1, 0, 10)], [], [some (.inl (.ref 14)), some (.inr (0, 0)), some (.inr (1, 0)), some (.inl (.ref 59)), none]), [(0, 0, 1), (0, 0, 0)])], [([(0, 0), (1, 1538), (1, 7297), (1, 7298)], [(1, 0, 40), (1, 0, 40), (1, 0, 0), (1, 60, 127)], [(0, 1, 0)], [some (.inr (0, 0))]),
  ([(1, 1538), (1, 1539), (1, 7297), (1, 7298)], [(1, 0, 40), (1, 2, 40), (1, 2, 40), (1, 60, 126)], [(0, 1, 0), (1, 0, 0)], [some (.inl (.int (-1)))])], [1538, 1539, 1540, 7297, 7298, 7424, 7552, 7680, 7808, 7936, 8064])
set_option maxRecDepth 100000 in
theorem z_x101_ok : z_chk z_D s_P (z_clq z_D z_x101.2.2.2 s_P [z_x100, z_x99, z_x94]) 3000 z_x101 = true := z_chk2_ok (by decide +kernel)
theorem z_x101_s {J : aH → Prop} (hJ : z_jl J) {X : aX} : z_spec J z_D s_P X z_x101 := z_ctx_ok (z_hlen hJ) (fun H0 C S => z_clq_ok (z_hlen hJ) (z_cons (z_x100_s hJ) (z_cons (z_x99_s hJ) (z_cons (z_x94_s hJ) (z_nil)))) _ H0 C S) z_x101_ok
/-- $Saying.clear 66 -/
def z_x102 : zQ := ((79, 0, 0, 2), [(0, ([], [], [], [some (.inl (.ref 66)), none]), [(0, 0, 2), (0, 0, 0)]),
  (13, ([(0, 1), (1, 8193), (1, 8194)], [(1, 0, 4), (1, 0, 0), (1, 61, 61)], [], [some (.inl (.ref 66)), some (.inr (0, 0))]), [(0, 0, 1), (1, 0, 4)])], [([(1, 8193), (1, 8194)], [(1, 0, 0), (1, 61, 61)], [], [])], [8193, 8194, 8448, 8576, 8704])
set_option maxRecDepth 100000 in
theorem z_x102_ok : z_chk z_D s_P (z_clq z_D z_x102.2.2.2 s_P []) 3000 z_x102 = true := z_chk2_ok (by decide +kernel)
theorem z_x102_s {J : aH → Prop} (hJ : z_jl J) {X : aX} : z_spec J z_D s_P X z_x102 := z_ctx_ok (z_hlen hJ) (fun H0 C S => z_clq_ok (z_hlen hJ) (z_nil) _ H0 C S) z_x102_ok
/-- $Text.parseRate 14 66 -/
def z_x103 : zQ := ((84, 2, 3, 2), [(0, ([(0, 2), (1, 1538), (1, 1539)], [(1, 0, 1), (1, 0, 39), (1, 1, 40)], [(0, 1, 0), (0, 2, (-1)), (1, 2, (-1))], [some (.inl (.ref 14)), some (.inl (.ref 66)), some (.inr (0, 0))]), [(0, 0, 1), (0, 0, 0)])], [([(1, 1538), (2, 2), (2, 1)], [(1, 0, 40), (1, 1, 40), (1, 0, 39)], [(2, 1, (-1)), (0, 1, 0)], [some (.inl (.int 0))]),
  ([(1, 1538), (2, 2), (2, 1)], [(1, 0, 40), (1, 2, 40), (1, 0, 39)], [(2, 1, (-1)), (0, 1, 0)], [some (.inl (.int 1))])], [1538, 8832, 8960])
set_option maxRecDepth 100000 in
theorem z_x103_ok : z_chk z_D s_P (z_clq z_D z_x103.2.2.2 s_P [z_x45]) 3000 z_x103 = true := z_chk2_ok (by decide +kernel)
theorem z_x103_s {J : aH → Prop} (hJ : z_jl J) {X : aX} : z_spec J z_D s_P X z_x103 := z_ctx_ok (z_hlen hJ) (fun H0 C S => z_clq_ok (z_hlen hJ) (z_cons (z_x45_s hJ) (z_nil)) _ H0 C S) z_x103_ok
/-- $Text.parseEvent 14 66 -/
def z_x104 : zQ := ((87, 2, 4, 2), [(0, ([(0, 2), (1, 1538), (1, 1539), (1, 1540)], [(1, 0, 3), (1, 0, 40), (1, 0, 40), (1, 0, 10)], [(0, 1, 2), (0, 2, 2)], [some (.inl (.ref 14)), some (.inl (.ref 66)), some (.inr (0, 0)), none, none]), [(0, 0, 2), (0, 0, 0)]),
  (12, ([(0, 2), (0, 3), (1, 1538), (1, 1539), (2, 1), (2, 2), (2, 3), (1, 1540)], [(1, 0, 3), (1, 0, 5), (1, 0, 40), (1, 0, 40), (1, 0, 40), (1, 0, 40), (1, 0, 10), (1, 0, 10)], [(0, 4, 2), (0, 2, 2), (0, 3, 2), (1, 2, 0), (1, 3, 0), (4, 2, 0), (3, 5, 0), (5, 3, 0), (7, 6, 0), (6, 7, 0)], [some (.inl (.ref 14)), some (.inl (.ref 66)), some (.inr (0, 0)), some (.inr (1, 0)), none]), [(0, 0, 1), (1, 2, 40)])], [([(1, 1538), (2, 1)], [(1, 0, 40), (1, 0, 40)], [(1, 0, 0)], [some (.inl (.int 0))]),
  ([(1, 1538), (2, 2), (2, 3), (2, 1)], [(1, 1, 40), (1, 1, 40), (1, 1, 10), (1, 0, 39)], [(3, 0, (-1)), (0, 1, 0)], [some (.inl (.int 1))])], [1538, 8448, 8576, 8704])
set_option maxRecDepth 100000 in
theorem z_x104_ok : z_chk z_D s_P (z_clq z_D z_x104.2.2.2 s_P [z_x47]) 3000 z_x104 = true := z_chk2_ok (by decide +kernel)
theorem z_x104_s {J : aH → Prop} (hJ : z_jl J) {X : aX} : z_spec J z_D s_P X z_x104 := z_ctx_ok (z_hlen hJ) (fun H0 C S => z_clq_ok (z_hlen hJ) (z_cons (z_x47_s hJ) (z_nil)) _ H0 C S) z_x104_ok
/-- $Text.parseGiven 14 66 -/
def z_x105 : zQ := ((86, 3, 3, 2), [(0, ([(0, 2), (1, 1538), (1, 1539)], [(1, 0, 1), (1, 0, 40), (1, 0, 40)], [(0, 1, 0), (0, 2, 0)], [some (.inl (.ref 14)), some (.inl (.ref 66)), some (.inr (0, 0))]), [(0, 0, 1), (0, 0, 0)])], [([(1, 1538), (2, 1)], [(1, 0, 40), (1, 0, 40)], [(1, 0, 0)], [some (.inl (.int 0))]),
  ([(1, 1538), (2, 2), (2, 1)], [(1, 1, 40), (1, 1, 40), (1, 0, 39)], [(2, 0, (-1)), (2, 1, (-1)), (0, 1, 0)], [some (.inl (.int 1))])], [1538, 8448, 8576, 8704])
set_option maxRecDepth 100000 in
theorem z_x105_ok : z_chk z_D s_P (z_clq z_D z_x105.2.2.2 s_P [z_x104]) 3000 z_x105 = true := z_chk2_ok (by decide +kernel)
theorem z_x105_s {J : aH → Prop} (hJ : z_jl J) {X : aX} : z_spec J z_D s_P X z_x105 := z_ctx_ok (z_hlen hJ) (fun H0 C S => z_clq_ok (z_hlen hJ) (z_cons (z_x104_s hJ) (z_nil)) _ H0 C S) z_x105_ok
/-- $Text.parseTerm 14 66 -/
def z_x106 : zQ := ((81, 4, 3, 2), [(0, ([(0, 2), (1, 1538), (1, 1539)], [(1, 0, 1), (1, 0, 40), (1, 0, 40)], [(0, 1, 0), (0, 2, 0)], [some (.inl (.ref 14)), some (.inl (.ref 66)), some (.inr (0, 0))]), [(0, 0, 1), (0, 0, 0)])], [([(1, 1538), (2, 1)], [(1, 0, 40), (1, 0, 40)], [], [some (.inl (.int 0))]),
  ([(1, 1538), (2, 2), (2, 1)], [(1, 0, 40), (1, 1, 40), (1, 0, 39)], [(2, 1, (-1)), (0, 1, 0)], [some (.inl (.int 1))])], [1538, 8448, 8576, 8704, 8832, 8960])
set_option maxRecDepth 100000 in
theorem z_x106_ok : z_chk z_D s_P (z_clq z_D z_x106.2.2.2 s_P [z_x105, z_x103]) 3000 z_x106 = true := z_chk2_ok (by decide +kernel)
theorem z_x106_s {J : aH → Prop} (hJ : z_jl J) {X : aX} : z_spec J z_D s_P X z_x106 := z_ctx_ok (z_hlen hJ) (fun H0 C S => z_clq_ok (z_hlen hJ) (z_cons (z_x105_s hJ) (z_cons (z_x103_s hJ) (z_nil))) _ H0 C S) z_x106_ok
/-- $Text.parseFirst 14 66 -/
def z_x107 : zQ := ((80, 5, 3, 2), [(0, ([(1, 1538), (1, 8194), (1, 1539)], [(1, 0, 0), (1, 61, 61), (1, 0, 40)], [], [some (.inl (.ref 14)), some (.inl (.ref 66)), none, none]), [(0, 0, 1), (0, 0, 0)])], [([(1, 8194)], [(1, 61, 61)], [], [some (.inl (.int 0))]),
  ([(1, 1538), (2, 2), (1, 8194)], [(1, 1, 40), (1, 1, 40), (1, 60, 126)], [(0, 1, 0)], [some (.inl (.int 1))])], [1538, 8194, 8448, 8576, 8704, 8832, 8960])
set_option maxRecDepth 100000 in
theorem z_x107_ok : z_chk z_D s_P (z_clq z_D z_x107.2.2.2 s_P [z_x106]) 3000 z_x107 = true := z_chk2_ok (by decide +kernel)
theorem z_x107_s {J : aH → Prop} (hJ : z_jl J) {X : aX} : z_spec J z_D s_P X z_x107 := z_ctx_ok (z_hlen hJ) (fun H0 C S => z_clq_ok (z_hlen hJ) (z_cons (z_x106_s hJ) (z_nil)) _ H0 C S) z_x107_ok
/-- $Text.parseSecond 14 66 -/
def z_x108 : zQ := ((90, 5, 3, 2), [(0, ([(1, 1538), (1, 1539), (1, 8194)], [(1, 1, 40), (1, 1, 40), (1, 60, 126)], [], [some (.inl (.ref 14)), some (.inl (.ref 66))]), [(0, 0, 1), (0, 0, 0)])], [([(1, 1538), (2, 1), (2, 2), (2, 0)], [(1, 0, 40), (1, 1, 40), (1, 60, 126), (1, 1, 40)], [], [some (.inl (.int 0))]),
  ([(1, 1538), (2, 1), (2, 2), (2, 0)], [(1, 0, 40), (1, 2, 40), (1, 60, 126), (1, 1, 39)], [(3, 1, (-1)), (0, 1, 0)], [some (.inl (.int 1))])], [1538, 8448, 8576, 8704, 8832, 8960])
set_option maxRecDepth 100000 in
theorem z_x108_ok : z_chk z_D s_P (z_clq z_D z_x108.2.2.2 s_P [z_x106, z_x105]) 3000 z_x108 = true := z_chk2_ok (by decide +kernel)
theorem z_x108_s {J : aH → Prop} (hJ : z_jl J) {X : aX} : z_spec J z_D s_P X z_x108 := z_ctx_ok (z_hlen hJ) (fun H0 C S => z_clq_ok (z_hlen hJ) (z_cons (z_x106_s hJ) (z_cons (z_x105_s hJ) (z_nil))) _ H0 C S) z_x108_ok
/-- $Text.parse 14 66 -/
def z_x109 : zQ := ((78, 6, 2, 2), [(0, ([(0, 1), (0, 2)], [(1, 0, 60), (1, 0, 10)], [], [some (.inl (.ref 14)), some (.inr (0, 0)), some (.inr (1, 0)), some (.inl (.ref 66)), none]), [(0, 0, 1), (0, 0, 0)])], [([(0, 0), (1, 1538), (1, 8193), (1, 8194)], [(1, 0, 40), (1, 0, 40), (1, 0, 0), (1, 60, 127)], [(0, 1, 0)], [some (.inr (0, 0))]),
  ([(1, 1538), (1, 1539), (1, 8193), (1, 8194)], [(1, 0, 40), (1, 2, 40), (1, 2, 40), (1, 60, 126)], [(0, 1, 0), (1, 0, 0)], [some (.inl (.int (-1)))])], [1538, 1539, 1540, 8193, 8194, 8320, 8448, 8576, 8704, 8832, 8960])
set_option maxRecDepth 100000 in
theorem z_x109_ok : z_chk z_D s_P (z_clq z_D z_x109.2.2.2 s_P [z_x108, z_x107, z_x102]) 3000 z_x109 = true := z_chk2_ok (by decide +kernel)
theorem z_x109_s {J : aH → Prop} (hJ : z_jl J) {X : aX} : z_spec J z_D s_P X z_x109 := z_ctx_ok (z_hlen hJ) (fun H0 C S => z_clq_ok (z_hlen hJ) (z_cons (z_x108_s hJ) (z_cons (z_x107_s hJ) (z_cons (z_x102_s hJ) (z_nil)))) _ H0 C S) z_x109_ok
/-- $Saying.clear 73 -/
def z_x110 : zQ := ((79, 0, 0, 2), [(0, ([], [], [], [some (.inl (.ref 73)), none]), [(0, 0, 2), (0, 0, 0)]),
  (13, ([(0, 1), (1, 9089), (1, 9090)], [(1, 0, 4), (1, 0, 0), (1, 61, 61)], [], [some (.inl (.ref 73)), some (.inr (0, 0))]), [(0, 0, 1), (1, 0, 4)])], [([(1, 9089), (1, 9090)], [(1, 0, 0), (1, 61, 61)], [], [])], [9089, 9090, 9344, 9472, 9600])
set_option maxRecDepth 100000 in
theorem z_x110_ok : z_chk z_D s_P (z_clq z_D z_x110.2.2.2 s_P []) 3000 z_x110 = true := z_chk2_ok (by decide +kernel)
theorem z_x110_s {J : aH → Prop} (hJ : z_jl J) {X : aX} : z_spec J z_D s_P X z_x110 := z_ctx_ok (z_hlen hJ) (fun H0 C S => z_clq_ok (z_hlen hJ) (z_nil) _ H0 C S) z_x110_ok
/-- $Text.parseRate 14 73 -/
def z_x111 : zQ := ((84, 2, 3, 2), [(0, ([(0, 2), (1, 1538), (1, 1539)], [(1, 0, 1), (1, 0, 39), (1, 1, 40)], [(0, 1, 0), (0, 2, (-1)), (1, 2, (-1))], [some (.inl (.ref 14)), some (.inl (.ref 73)), some (.inr (0, 0))]), [(0, 0, 1), (0, 0, 0)])], [([(1, 1538), (2, 2), (2, 1)], [(1, 0, 40), (1, 1, 40), (1, 0, 39)], [(2, 1, (-1)), (0, 1, 0)], [some (.inl (.int 0))]),
  ([(1, 1538), (2, 2), (2, 1)], [(1, 0, 40), (1, 2, 40), (1, 0, 39)], [(2, 1, (-1)), (0, 1, 0)], [some (.inl (.int 1))])], [1538, 9728, 9856])
set_option maxRecDepth 100000 in
theorem z_x111_ok : z_chk z_D s_P (z_clq z_D z_x111.2.2.2 s_P [z_x45]) 3000 z_x111 = true := z_chk2_ok (by decide +kernel)
theorem z_x111_s {J : aH → Prop} (hJ : z_jl J) {X : aX} : z_spec J z_D s_P X z_x111 := z_ctx_ok (z_hlen hJ) (fun H0 C S => z_clq_ok (z_hlen hJ) (z_cons (z_x45_s hJ) (z_nil)) _ H0 C S) z_x111_ok
/-- $Text.parseEvent 14 73 -/
def z_x112 : zQ := ((87, 2, 4, 2), [(0, ([(0, 2), (1, 1538), (1, 1539), (1, 1540)], [(1, 0, 3), (1, 0, 40), (1, 0, 40), (1, 0, 10)], [(0, 1, 2), (0, 2, 2)], [some (.inl (.ref 14)), some (.inl (.ref 73)), some (.inr (0, 0)), none, none]), [(0, 0, 2), (0, 0, 0)]),
  (12, ([(0, 2), (0, 3), (1, 1538), (1, 1539), (2, 1), (2, 2), (2, 3), (1, 1540)], [(1, 0, 3), (1, 0, 5), (1, 0, 40), (1, 0, 40), (1, 0, 40), (1, 0, 40), (1, 0, 10), (1, 0, 10)], [(0, 4, 2), (0, 2, 2), (0, 3, 2), (1, 2, 0), (1, 3, 0), (4, 2, 0), (3, 5, 0), (5, 3, 0), (7, 6, 0), (6, 7, 0)], [some (.inl (.ref 14)), some (.inl (.ref 73)), some (.inr (0, 0)), some (.inr (1, 0)), none]), [(0, 0, 1), (1, 2, 40)])], [([(1, 1538), (2, 1)], [(1, 0, 40), (1, 0, 40)], [(1, 0, 0)], [some (.inl (.int 0))]),
  ([(1, 1538), (2, 2), (2, 3), (2, 1)], [(1, 1, 40), (1, 1, 40), (1, 1, 10), (1, 0, 39)], [(3, 0, (-1)), (0, 1, 0)], [some (.inl (.int 1))])], [1538, 9344, 9472, 9600])
set_option maxRecDepth 100000 in
theorem z_x112_ok : z_chk z_D s_P (z_clq z_D z_x112.2.2.2 s_P [z_x47]) 3000 z_x112 = true := z_chk2_ok (by decide +kernel)
theorem z_x112_s {J : aH → Prop} (hJ : z_jl J) {X : aX} : z_spec J z_D s_P X z_x112 := z_ctx_ok (z_hlen hJ) (fun H0 C S => z_clq_ok (z_hlen hJ) (z_cons (z_x47_s hJ) (z_nil)) _ H0 C S) z_x112_ok
/-- $Text.parseGiven 14 73 -/
def z_x113 : zQ := ((86, 3, 3, 2), [(0, ([(0, 2), (1, 1538), (1, 1539)], [(1, 0, 1), (1, 0, 40), (1, 0, 40)], [(0, 1, 0), (0, 2, 0)], [some (.inl (.ref 14)), some (.inl (.ref 73)), some (.inr (0, 0))]), [(0, 0, 1), (0, 0, 0)])], [([(1, 1538), (2, 1)], [(1, 0, 40), (1, 0, 40)], [(1, 0, 0)], [some (.inl (.int 0))]),
  ([(1, 1538), (2, 2), (2, 1)], [(1, 1, 40), (1, 1, 40), (1, 0, 39)], [(2, 0, (-1)), (2, 1, (-1)), (0, 1, 0)], [some (.inl (.int 1))])], [1538, 9344, 9472, 9600])
set_option maxRecDepth 100000 in
theorem z_x113_ok : z_chk z_D s_P (z_clq z_D z_x113.2.2.2 s_P [z_x112]) 3000 z_x113 = true := z_chk2_ok (by decide +kernel)
theorem z_x113_s {J : aH → Prop} (hJ : z_jl J) {X : aX} : z_spec J z_D s_P X z_x113 := z_ctx_ok (z_hlen hJ) (fun H0 C S => z_clq_ok (z_hlen hJ) (z_cons (z_x112_s hJ) (z_nil)) _ H0 C S) z_x113_ok
/-- $Text.parseTerm 14 73 -/
def z_x114 : zQ := ((81, 4, 3, 2), [(0, ([(0, 2), (1, 1538), (1, 1539)], [(1, 0, 1), (1, 0, 40), (1, 0, 40)], [(0, 1, 0), (0, 2, 0)], [some (.inl (.ref 14)), some (.inl (.ref 73)), some (.inr (0, 0))]), [(0, 0, 1), (0, 0, 0)])], [([(1, 1538), (2, 1)], [(1, 0, 40), (1, 0, 40)], [], [some (.inl (.int 0))]),
  ([(1, 1538), (2, 2), (2, 1)], [(1, 0, 40), (1, 1, 40), (1, 0, 39)], [(2, 1, (-1)), (0, 1, 0)], [some (.inl (.int 1))])], [1538, 9344, 9472, 9600, 9728, 9856])
set_option maxRecDepth 100000 in
theorem z_x114_ok : z_chk z_D s_P (z_clq z_D z_x114.2.2.2 s_P [z_x113, z_x111]) 3000 z_x114 = true := z_chk2_ok (by decide +kernel)
theorem z_x114_s {J : aH → Prop} (hJ : z_jl J) {X : aX} : z_spec J z_D s_P X z_x114 := z_ctx_ok (z_hlen hJ) (fun H0 C S => z_clq_ok (z_hlen hJ) (z_cons (z_x113_s hJ) (z_cons (z_x111_s hJ) (z_nil))) _ H0 C S) z_x114_ok
/-- $Text.parseFirst 14 73 -/
def z_x115 : zQ := ((80, 5, 3, 2), [(0, ([(1, 1538), (1, 9090), (1, 1539)], [(1, 0, 0), (1, 61, 61), (1, 0, 40)], [], [some (.inl (.ref 14)), some (.inl (.ref 73)), none, none]), [(0, 0, 1), (0, 0, 0)])], [([(1, 9090)], [(1, 61, 61)], [], [some (.inl (.int 0))]),
  ([(1, 1538), (2, 2), (1, 9090)], [(1, 1, 40), (1, 1, 40), (1, 60, 126)], [(0, 1, 0)], [some (.inl (.int 1))])], [1538, 9090, 9344, 9472, 9600, 9728, 9856])
set_option maxRecDepth 100000 in
theorem z_x115_ok : z_chk z_D s_P (z_clq z_D z_x115.2.2.2 s_P [z_x114]) 3000 z_x115 = true := z_chk2_ok (by decide +kernel)
theorem z_x115_s {J : aH → Prop} (hJ : z_jl J) {X : aX} : z_spec J z_D s_P X z_x115 := z_ctx_ok (z_hlen hJ) (fun H0 C S => z_clq_ok (z_hlen hJ) (z_cons (z_x114_s hJ) (z_nil)) _ H0 C S) z_x115_ok
/-- $Text.parseSecond 14 73 -/
def z_x116 : zQ := ((90, 5, 3, 2), [(0, ([(1, 1538), (1, 1539), (1, 9090)], [(1, 1, 40), (1, 1, 40), (1, 60, 126)], [], [some (.inl (.ref 14)), some (.inl (.ref 73))]), [(0, 0, 1), (0, 0, 0)])], [([(1, 1538), (2, 1), (2, 2), (2, 0)], [(1, 0, 40), (1, 1, 40), (1, 60, 126), (1, 1, 40)], [], [some (.inl (.int 0))]),
  ([(1, 1538), (2, 1), (2, 2), (2, 0)], [(1, 0, 40), (1, 2, 40), (1, 60, 126), (1, 1, 39)], [(3, 1, (-1)), (0, 1, 0)], [some (.inl (.int 1))])], [1538, 9344, 9472, 9600, 9728, 9856])
set_option maxRecDepth 100000 in
theorem z_x116_ok : z_chk z_D s_P (z_clq z_D z_x116.2.2.2 s_P [z_x114, z_x113]) 3000 z_x116 = true := z_chk2_ok (by decide +kernel)
theorem z_x116_s {J : aH → Prop} (hJ : z_jl J) {X : aX} : z_spec J z_D s_P X z_x116 := z_ctx_ok (z_hlen hJ) (fun H0 C S => z_clq_ok (z_hlen hJ) (z_cons (z_x114_s hJ) (z_cons (z_x113_s hJ) (z_nil))) _ H0 C S) z_x116_ok
/-- $Text.parse 14 73 -/
def z_x117 : zQ := ((78, 6, 2, 2), [(0, ([(0, 1), (0, 2)], [(1, 0, 60), (1, 0, 10)], [], [some (.inl (.ref 14)), some (.inr (0, 0)), some (.inr (1, 0)), some (.inl (.ref 73)), none]), [(0, 0, 1), (0, 0, 0)])], [([(0, 0), (1, 1538), (1, 9089), (1, 9090)], [(1, 0, 40), (1, 0, 40), (1, 0, 0), (1, 60, 127)], [(0, 1, 0)], [some (.inr (0, 0))]),
  ([(1, 1538), (1, 1539), (1, 9089), (1, 9090)], [(1, 0, 40), (1, 2, 40), (1, 2, 40), (1, 60, 126)], [(0, 1, 0), (1, 0, 0)], [some (.inl (.int (-1)))])], [1538, 1539, 1540, 9089, 9090, 9216, 9344, 9472, 9600, 9728, 9856])
set_option maxRecDepth 100000 in
theorem z_x117_ok : z_chk z_D s_P (z_clq z_D z_x117.2.2.2 s_P [z_x116, z_x115, z_x110]) 3000 z_x117 = true := z_chk2_ok (by decide +kernel)
theorem z_x117_s {J : aH → Prop} (hJ : z_jl J) {X : aX} : z_spec J z_D s_P X z_x117 := z_ctx_ok (z_hlen hJ) (fun H0 C S => z_clq_ok (z_hlen hJ) (z_cons (z_x116_s hJ) (z_cons (z_x115_s hJ) (z_cons (z_x110_s hJ) (z_nil)))) _ H0 C S) z_x117_ok
/-- $Saying.clear 80 -/
def z_x118 : zQ := ((79, 0, 0, 2), [(0, ([], [], [], [some (.inl (.ref 80)), none]), [(0, 0, 2), (0, 0, 0)]),
  (13, ([(0, 1), (1, 9985), (1, 9986)], [(1, 0, 4), (1, 0, 0), (1, 61, 61)], [], [some (.inl (.ref 80)), some (.inr (0, 0))]), [(0, 0, 1), (1, 0, 4)])], [([(1, 9985), (1, 9986)], [(1, 0, 0), (1, 61, 61)], [], [])], [9985, 9986, 10240, 10368, 10496])
set_option maxRecDepth 100000 in
theorem z_x118_ok : z_chk z_D s_P (z_clq z_D z_x118.2.2.2 s_P []) 3000 z_x118 = true := z_chk2_ok (by decide +kernel)
theorem z_x118_s {J : aH → Prop} (hJ : z_jl J) {X : aX} : z_spec J z_D s_P X z_x118 := z_ctx_ok (z_hlen hJ) (fun H0 C S => z_clq_ok (z_hlen hJ) (z_nil) _ H0 C S) z_x118_ok
/-- $Text.parseRate 14 80 -/
def z_x119 : zQ := ((84, 2, 3, 2), [(0, ([(0, 2), (1, 1538), (1, 1539)], [(1, 0, 1), (1, 0, 39), (1, 1, 40)], [(0, 1, 0), (0, 2, (-1)), (1, 2, (-1))], [some (.inl (.ref 14)), some (.inl (.ref 80)), some (.inr (0, 0))]), [(0, 0, 1), (0, 0, 0)])], [([(1, 1538), (2, 2), (2, 1)], [(1, 0, 40), (1, 1, 40), (1, 0, 39)], [(2, 1, (-1)), (0, 1, 0)], [some (.inl (.int 0))]),
  ([(1, 1538), (2, 2), (2, 1)], [(1, 0, 40), (1, 2, 40), (1, 0, 39)], [(2, 1, (-1)), (0, 1, 0)], [some (.inl (.int 1))])], [1538, 10624, 10752])
set_option maxRecDepth 100000 in
theorem z_x119_ok : z_chk z_D s_P (z_clq z_D z_x119.2.2.2 s_P [z_x45]) 3000 z_x119 = true := z_chk2_ok (by decide +kernel)
theorem z_x119_s {J : aH → Prop} (hJ : z_jl J) {X : aX} : z_spec J z_D s_P X z_x119 := z_ctx_ok (z_hlen hJ) (fun H0 C S => z_clq_ok (z_hlen hJ) (z_cons (z_x45_s hJ) (z_nil)) _ H0 C S) z_x119_ok
/-- $Text.parseEvent 14 80 -/
def z_x120 : zQ := ((87, 2, 4, 2), [(0, ([(0, 2), (1, 1538), (1, 1539), (1, 1540)], [(1, 0, 3), (1, 0, 40), (1, 0, 40), (1, 0, 10)], [(0, 1, 2), (0, 2, 2)], [some (.inl (.ref 14)), some (.inl (.ref 80)), some (.inr (0, 0)), none, none]), [(0, 0, 2), (0, 0, 0)]),
  (12, ([(0, 2), (0, 3), (1, 1538), (1, 1539), (2, 1), (2, 2), (2, 3), (1, 1540)], [(1, 0, 3), (1, 0, 5), (1, 0, 40), (1, 0, 40), (1, 0, 40), (1, 0, 40), (1, 0, 10), (1, 0, 10)], [(0, 4, 2), (0, 2, 2), (0, 3, 2), (1, 2, 0), (1, 3, 0), (4, 2, 0), (3, 5, 0), (5, 3, 0), (7, 6, 0), (6, 7, 0)], [some (.inl (.ref 14)), some (.inl (.ref 80)), some (.inr (0, 0)), some (.inr (1, 0)), none]), [(0, 0, 1), (1, 2, 40)])], [([(1, 1538), (2, 1)], [(1, 0, 40), (1, 0, 40)], [(1, 0, 0)], [some (.inl (.int 0))]),
  ([(1, 1538), (2, 2), (2, 3), (2, 1)], [(1, 1, 40), (1, 1, 40), (1, 1, 10), (1, 0, 39)], [(3, 0, (-1)), (0, 1, 0)], [some (.inl (.int 1))])], [1538, 10240, 10368, 10496])
set_option maxRecDepth 100000 in
theorem z_x120_ok : z_chk z_D s_P (z_clq z_D z_x120.2.2.2 s_P [z_x47]) 3000 z_x120 = true := z_chk2_ok (by decide +kernel)
theorem z_x120_s {J : aH → Prop} (hJ : z_jl J) {X : aX} : z_spec J z_D s_P X z_x120 := z_ctx_ok (z_hlen hJ) (fun H0 C S => z_clq_ok (z_hlen hJ) (z_cons (z_x47_s hJ) (z_nil)) _ H0 C S) z_x120_ok
/-- $Text.parseGiven 14 80 -/
def z_x121 : zQ := ((86, 3, 3, 2), [(0, ([(0, 2), (1, 1538), (1, 1539)], [(1, 0, 1), (1, 0, 40), (1, 0, 40)], [(0, 1, 0), (0, 2, 0)], [some (.inl (.ref 14)), some (.inl (.ref 80)), some (.inr (0, 0))]), [(0, 0, 1), (0, 0, 0)])], [([(1, 1538), (2, 1)], [(1, 0, 40), (1, 0, 40)], [(1, 0, 0)], [some (.inl (.int 0))]),
  ([(1, 1538), (2, 2), (2, 1)], [(1, 1, 40), (1, 1, 40), (1, 0, 39)], [(2, 0, (-1)), (2, 1, (-1)), (0, 1, 0)], [some (.inl (.int 1))])], [1538, 10240, 10368, 10496])
set_option maxRecDepth 100000 in
theorem z_x121_ok : z_chk z_D s_P (z_clq z_D z_x121.2.2.2 s_P [z_x120]) 3000 z_x121 = true := z_chk2_ok (by decide +kernel)
theorem z_x121_s {J : aH → Prop} (hJ : z_jl J) {X : aX} : z_spec J z_D s_P X z_x121 := z_ctx_ok (z_hlen hJ) (fun H0 C S => z_clq_ok (z_hlen hJ) (z_cons (z_x120_s hJ) (z_nil)) _ H0 C S) z_x121_ok
/-- $Text.parseTerm 14 80 -/
def z_x122 : zQ := ((81, 4, 3, 2), [(0, ([(0, 2), (1, 1538), (1, 1539)], [(1, 0, 1), (1, 0, 40), (1, 0, 40)], [(0, 1, 0), (0, 2, 0)], [some (.inl (.ref 14)), some (.inl (.ref 80)), some (.inr (0, 0))]), [(0, 0, 1), (0, 0, 0)])], [([(1, 1538), (2, 1)], [(1, 0, 40), (1, 0, 40)], [], [some (.inl (.int 0))]),
  ([(1, 1538), (2, 2), (2, 1)], [(1, 0, 40), (1, 1, 40), (1, 0, 39)], [(2, 1, (-1)), (0, 1, 0)], [some (.inl (.int 1))])], [1538, 10240, 10368, 10496, 10624, 10752])
set_option maxRecDepth 100000 in
theorem z_x122_ok : z_chk z_D s_P (z_clq z_D z_x122.2.2.2 s_P [z_x121, z_x119]) 3000 z_x122 = true := z_chk2_ok (by decide +kernel)
theorem z_x122_s {J : aH → Prop} (hJ : z_jl J) {X : aX} : z_spec J z_D s_P X z_x122 := z_ctx_ok (z_hlen hJ) (fun H0 C S => z_clq_ok (z_hlen hJ) (z_cons (z_x121_s hJ) (z_cons (z_x119_s hJ) (z_nil))) _ H0 C S) z_x122_ok
/-- $Text.parseFirst 14 80 -/
def z_x123 : zQ := ((80, 5, 3, 2), [(0, ([(1, 1538), (1, 9986), (1, 1539)], [(1, 0, 0), (1, 61, 61), (1, 0, 40)], [], [some (.inl (.ref 14)), some (.inl (.ref 80)), none, none]), [(0, 0, 1), (0, 0, 0)])], [([(1, 9986)], [(1, 61, 61)], [], [some (.inl (.int 0))]),
  ([(1, 1538), (2, 2), (1, 9986)], [(1, 1, 40), (1, 1, 40), (1, 60, 126)], [(0, 1, 0)], [some (.inl (.int 1))])], [1538, 9986, 10240, 10368, 10496, 10624, 10752])
set_option maxRecDepth 100000 in
theorem z_x123_ok : z_chk z_D s_P (z_clq z_D z_x123.2.2.2 s_P [z_x122]) 3000 z_x123 = true := z_chk2_ok (by decide +kernel)
theorem z_x123_s {J : aH → Prop} (hJ : z_jl J) {X : aX} : z_spec J z_D s_P X z_x123 := z_ctx_ok (z_hlen hJ) (fun H0 C S => z_clq_ok (z_hlen hJ) (z_cons (z_x122_s hJ) (z_nil)) _ H0 C S) z_x123_ok
/-- $Text.parseSecond 14 80 -/
def z_x124 : zQ := ((90, 5, 3, 2), [(0, ([(1, 1538), (1, 1539), (1, 9986)], [(1, 1, 40), (1, 1, 40), (1, 60, 126)], [], [some (.inl (.ref 14)), some (.inl (.ref 80))]), [(0, 0, 1), (0, 0, 0)])], [([(1, 1538), (2, 1), (2, 2), (2, 0)], [(1, 0, 40), (1, 1, 40), (1, 60, 126), (1, 1, 40)], [], [some (.inl (.int 0))]),
  ([(1, 1538), (2, 1), (2, 2), (2, 0)], [(1, 0, 40), (1, 2, 40), (1, 60, 126), (1, 1, 39)], [(3, 1, (-1)), (0, 1, 0)], [some (.inl (.int 1))])], [1538, 10240, 10368, 10496, 10624, 10752])
set_option maxRecDepth 100000 in
theorem z_x124_ok : z_chk z_D s_P (z_clq z_D z_x124.2.2.2 s_P [z_x122, z_x121]) 3000 z_x124 = true := z_chk2_ok (by decide +kernel)
theorem z_x124_s {J : aH → Prop} (hJ : z_jl J) {X : aX} : z_spec J z_D s_P X z_x124 := z_ctx_ok (z_hlen hJ) (fun H0 C S => z_clq_ok (z_hlen hJ) (z_cons (z_x122_s hJ) (z_cons (z_x121_s hJ) (z_nil))) _ H0 C S) z_x124_ok
/-- $Text.parse 14 80 -/
def z_x125 : zQ := ((78, 6, 2, 2), [(0, ([(0, 1), (0, 2)], [(1, 0, 60), (1, 0, 10)], [], [some (.inl (.ref 14)), some (.inr (0, 0)), some (.inr (1, 0)), some (.inl (.ref 80)), none]), [(0, 0, 1), (0, 0, 0)])], [([(0, 0), (1, 1538), (1, 9985), (1, 9986)], [(1, 0, 40), (1, 0, 40), (1, 0, 0), (1, 60, 127)], [(0, 1, 0)], [some (.inr (0, 0))]),
  ([(1, 1538), (1, 1539), (1, 9985), (1, 9986)], [(1, 0, 40), (1, 2, 40), (1, 2, 40), (1, 60, 126)], [(0, 1, 0), (1, 0, 0)], [some (.inl (.int (-1)))])], [1538, 1539, 1540, 9985, 9986, 10112, 10240, 10368, 10496, 10624, 10752])
set_option maxRecDepth 100000 in
theorem z_x125_ok : z_chk z_D s_P (z_clq z_D z_x125.2.2.2 s_P [z_x124, z_x123, z_x118]) 3000 z_x125 = true := z_chk2_ok (by decide +kernel)
theorem z_x125_s {J : aH → Prop} (hJ : z_jl J) {X : aX} : z_spec J z_D s_P X z_x125 := z_ctx_ok (z_hlen hJ) (fun H0 C S => z_clq_ok (z_hlen hJ) (z_cons (z_x124_s hJ) (z_cons (z_x123_s hJ) (z_cons (z_x118_s hJ) (z_nil)))) _ H0 C S) z_x125_ok
/-- $Saying.clear 87 -/
def z_x126 : zQ := ((79, 0, 0, 2), [(0, ([], [], [], [some (.inl (.ref 87)), none]), [(0, 0, 2), (0, 0, 0)]),
  (13, ([(0, 1), (1, 10881), (1, 10882)], [(1, 0, 4), (1, 0, 0), (1, 61, 61)], [], [some (.inl (.ref 87)), some (.inr (0, 0))]), [(0, 0, 1), (1, 0, 4)])], [([(1, 10881), (1, 10882)], [(1, 0, 0), (1, 61, 61)], [], [])], [10881, 10882, 11136, 11264, 11392])
set_option maxRecDepth 100000 in
theorem z_x126_ok : z_chk z_D s_P (z_clq z_D z_x126.2.2.2 s_P []) 3000 z_x126 = true := z_chk2_ok (by decide +kernel)
theorem z_x126_s {J : aH → Prop} (hJ : z_jl J) {X : aX} : z_spec J z_D s_P X z_x126 := z_ctx_ok (z_hlen hJ) (fun H0 C S => z_clq_ok (z_hlen hJ) (z_nil) _ H0 C S) z_x126_ok
/-- $Text.parseRate 14 87 -/
def z_x127 : zQ := ((84, 2, 3, 2), [(0, ([(0, 2), (1, 1538), (1, 1539)], [(1, 0, 1), (1, 0, 39), (1, 1, 40)], [(0, 1, 0), (0, 2, (-1)), (1, 2, (-1))], [some (.inl (.ref 14)), some (.inl (.ref 87)), some (.inr (0, 0))]), [(0, 0, 1), (0, 0, 0)])], [([(1, 1538), (2, 2), (2, 1)], [(1, 0, 40), (1, 1, 40), (1, 0, 39)], [(2, 1, (-1)), (0, 1, 0)], [some (.inl (.int 0))]),
  ([(1, 1538), (2, 2), (2, 1)], [(1, 0, 40), (1, 2, 40), (1, 0, 39)], [(2, 1, (-1)), (0, 1, 0)], [some (.inl (.int 1))])], [1538, 11520, 11648])
set_option maxRecDepth 100000 in
theorem z_x127_ok : z_chk z_D s_P (z_clq z_D z_x127.2.2.2 s_P [z_x45]) 3000 z_x127 = true := z_chk2_ok (by decide +kernel)
theorem z_x127_s {J : aH → Prop} (hJ : z_jl J) {X : aX} : z_spec J z_D s_P X z_x127 := z_ctx_ok (z_hlen hJ) (fun H0 C S => z_clq_ok (z_hlen hJ) (z_cons (z_x45_s hJ) (z_nil)) _ H0 C S) z_x127_ok
/-- $Text.parseEvent 14 87 -/
def z_x128 : zQ := ((87, 2, 4, 2), [(0, ([(0, 2), (1, 1538), (1, 1539), (1, 1540)], [(1, 0, 3), (1, 0, 40), (1, 0, 40), (1, 0, 10)], [(0, 1, 2), (0, 2, 2)], [some (.inl (.ref 14)), some (.inl (.ref 87)), some (.inr (0, 0)), none, none]), [(0, 0, 2), (0, 0, 0)]),
  (12, ([(0, 2), (0, 3), (1, 1538), (1, 1539), (2, 1), (2, 2), (2, 3), (1, 1540)], [(1, 0, 3), (1, 0, 5), (1, 0, 40), (1, 0, 40), (1, 0, 40), (1, 0, 40), (1, 0, 10), (1, 0, 10)], [(0, 4, 2), (0, 2, 2), (0, 3, 2), (1, 2, 0), (1, 3, 0), (4, 2, 0), (3, 5, 0), (5, 3, 0), (7, 6, 0), (6, 7, 0)], [some (.inl (.ref 14)), some (.inl (.ref 87)), some (.inr (0, 0)), some (.inr (1, 0)), none]), [(0, 0, 1), (1, 2, 40)])], [([(1, 1538), (2, 1)], [(1, 0, 40), (1, 0, 40)], [(1, 0, 0)], [some (.inl (.int 0))]),
  ([(1, 1538), (2, 2), (2, 3), (2, 1)], [(1, 1, 40), (1, 1, 40), (1, 1, 10), (1, 0, 39)], [(3, 0, (-1)), (0, 1, 0)], [some (.inl (.int 1))])], [1538, 11136, 11264, 11392])
set_option maxRecDepth 100000 in
theorem z_x128_ok : z_chk z_D s_P (z_clq z_D z_x128.2.2.2 s_P [z_x47]) 3000 z_x128 = true := z_chk2_ok (by decide +kernel)
theorem z_x128_s {J : aH → Prop} (hJ : z_jl J) {X : aX} : z_spec J z_D s_P X z_x128 := z_ctx_ok (z_hlen hJ) (fun H0 C S => z_clq_ok (z_hlen hJ) (z_cons (z_x47_s hJ) (z_nil)) _ H0 C S) z_x128_ok
/-- $Text.parseGiven 14 87 -/
def z_x129 : zQ := ((86, 3, 3, 2), [(0, ([(0, 2), (1, 1538), (1, 1539)], [(1, 0, 1), (1, 0, 40), (1, 0, 40)], [(0, 1, 0), (0, 2, 0)], [some (.inl (.ref 14)), some (.inl (.ref 87)), some (.inr (0, 0))]), [(0, 0, 1), (0, 0, 0)])], [([(1, 1538), (2, 1)], [(1, 0, 40), (1, 0, 40)], [(1, 0, 0)], [some (.inl (.int 0))]),
  ([(1, 1538), (2, 2), (2, 1)], [(1, 1, 40), (1, 1, 40), (1, 0, 39)], [(2, 0, (-1)), (2, 1, (-1)), (0, 1, 0)], [some (.inl (.int 1))])], [1538, 11136, 11264, 11392])
set_option maxRecDepth 100000 in
theorem z_x129_ok : z_chk z_D s_P (z_clq z_D z_x129.2.2.2 s_P [z_x128]) 3000 z_x129 = true := z_chk2_ok (by decide +kernel)
theorem z_x129_s {J : aH → Prop} (hJ : z_jl J) {X : aX} : z_spec J z_D s_P X z_x129 := z_ctx_ok (z_hlen hJ) (fun H0 C S => z_clq_ok (z_hlen hJ) (z_cons (z_x128_s hJ) (z_nil)) _ H0 C S) z_x129_ok
