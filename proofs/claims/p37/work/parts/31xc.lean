/-! ===== v2: contexts of the class (laid by wip/tools/print5.py) ===== -/
/-- $Sets.readAny 101 45 (4,) -/
def z_x260 : zQ := ((98, 6, 3, 2), [(0, ([(0, 2), (1, 5505), (1, 12676)], [(1, 4, 4), (1, 4, 40), (1, 4, 40)], [], [some (.inl (.ref 101)), some (.inl (.ref 45)), some (.inr (0, 0))]), [(0, 0, 2), (0, 0, 0)]),
  (6, ([(0, 2), (1, 5505), (1, 12676), (2, 2), (2, 1)], [(1, 4, 4), (1, 4, 40), (1, 5, 42), (1, 4, 40), (1, 4, 40)], [(3, 2, (-1)), (1, 4, 0), (4, 1, 0)], [some (.inl (.ref 101)), some (.inl (.ref 45)), some (.inr (0, 0))]), [(0, 0, 1), (1, 2, 40)])], [([(2, 1), (1, 12676), (2, 2)], [(1, 4, 40), (1, 5, 42), (1, 4, 40)], [(2, 1, (-1))], [])], [12674, 12676, 12928, 13056, 13184, 13312, 13440, 13568, 13696, 13824, 13952, 14080, 14208, 14336, 14464, 14592, 14720, 14848])
set_option maxRecDepth 100000 in
theorem z_x260_ok : z_chk z_D s_P (z_clq z_D z_x260.2.2.2 s_P [z_x259, z_x144]) 3000 z_x260 = true := z_chk2_ok (by decide +kernel)
theorem z_x260_s {J : aH → Prop} (hJ : z_jl J) {X : aX} : z_spec J z_D s_P X z_x260 := z_ctx_ok (z_hlen hJ) (fun H0 C S => z_clq_ok (z_hlen hJ) (z_cons (z_x259_s hJ) (z_cons (z_x144_s hJ) (z_nil))) _ H0 C S) z_x260_ok
/-- $Sets.readThing 101 45 (3,) -/
def z_x261 : zQ := ((100, 7, 4, 2), [(0, ([(0, 2), (1, 5505), (1, 12676), (1, 12674)], [(1, 3, 3), (1, 3, 40), (1, 3, 40), (1, 0, 16)], [], [some (.inl (.ref 101)), some (.inl (.ref 45)), some (.inr (0, 0)), none]), [(0, 0, 2), (0, 0, 0)]),
  (2, ([(0, 2), (0, 3), (1, 5505), (1, 12674), (1, 12676), (2, 3), (2, 2), (2, 1)], [(1, 3, 3), (1, 0, 1), (1, 3, 40), (1, 0, 16), (1, 3, 40), (1, 0, 16), (1, 3, 40), (1, 3, 40)], [(5, 3, 0), (6, 4, 0), (3, 5, 0), (2, 7, 0), (7, 2, 0)], [some (.inl (.ref 101)), some (.inl (.ref 45)), some (.inr (0, 0)), some (.inr (1, 0))]), [(0, 0, 1), (1, 4, 40)])], [([(2, 1), (1, 12676), (2, 2)], [(1, 3, 40), (1, 4, 47), (1, 3, 40)], [(2, 1, (-1))], [])], [12674, 12676, 12928, 13056, 13184, 13312, 13440, 13568, 13696, 13824, 13952, 14080, 14208, 14336, 14464, 14592, 14720, 14848])
set_option maxRecDepth 100000 in
theorem z_x261_ok : z_chk z_D s_P (z_clq z_D z_x261.2.2.2 s_P [z_x260, z_x146, z_x145]) 3000 z_x261 = true := z_chk2_ok (by decide +kernel)
theorem z_x261_s {J : aH → Prop} (hJ : z_jl J) {X : aX} : z_spec J z_D s_P X z_x261 := z_ctx_ok (z_hlen hJ) (fun H0 C S => z_clq_ok (z_hlen hJ) (z_cons (z_x260_s hJ) (z_cons (z_x146_s hJ) (z_cons (z_x145_s hJ) (z_nil)))) _ H0 C S) z_x261_ok
/-- $Sets.readAll 101 45 (3,) -/
def z_x262 : zQ := ((99, 8, 3, 2), [(0, ([(0, 2), (1, 5505), (1, 12676)], [(1, 3, 3), (1, 3, 40), (1, 3, 40)], [], [some (.inl (.ref 101)), some (.inl (.ref 45)), some (.inr (0, 0))]), [(0, 0, 2), (0, 0, 0)]),
  (6, ([(0, 2), (1, 5505), (1, 12676), (2, 2), (2, 1)], [(1, 3, 3), (1, 3, 40), (1, 4, 47), (1, 3, 40), (1, 3, 40)], [(3, 2, (-1)), (1, 4, 0), (4, 1, 0)], [some (.inl (.ref 101)), some (.inl (.ref 45)), some (.inr (0, 0))]), [(0, 0, 1), (1, 2, 40)])], [([(2, 1), (1, 12676), (2, 2)], [(1, 3, 40), (1, 4, 47), (1, 3, 40)], [(2, 1, (-1))], [])], [12674, 12676, 12928, 13056, 13184, 13312, 13440, 13568, 13696, 13824, 13952, 14080, 14208, 14336, 14464, 14592, 14720, 14848])
set_option maxRecDepth 100000 in
theorem z_x262_ok : z_chk z_D s_P (z_clq z_D z_x262.2.2.2 s_P [z_x261, z_x148]) 3000 z_x262 = true := z_chk2_ok (by decide +kernel)
theorem z_x262_s {J : aH → Prop} (hJ : z_jl J) {X : aX} : z_spec J z_D s_P X z_x262 := z_ctx_ok (z_hlen hJ) (fun H0 C S => z_clq_ok (z_hlen hJ) (z_cons (z_x261_s hJ) (z_cons (z_x148_s hJ) (z_nil))) _ H0 C S) z_x262_ok
/-- $Sets.readAny 101 45 (3,) -/
def z_x263 : zQ := ((98, 9, 3, 2), [(0, ([(0, 2), (1, 5505), (1, 12676)], [(1, 3, 3), (1, 3, 40), (1, 3, 40)], [], [some (.inl (.ref 101)), some (.inl (.ref 45)), some (.inr (0, 0))]), [(0, 0, 2), (0, 0, 0)]),
  (6, ([(0, 2), (1, 5505), (1, 12676), (2, 2), (2, 1)], [(1, 3, 3), (1, 3, 40), (1, 4, 47), (1, 3, 40), (1, 3, 40)], [(3, 2, (-1)), (1, 4, 0), (4, 1, 0)], [some (.inl (.ref 101)), some (.inl (.ref 45)), some (.inr (0, 0))]), [(0, 0, 1), (1, 2, 40)])], [([(2, 1), (1, 12676), (2, 2)], [(1, 3, 40), (1, 4, 47), (1, 3, 40)], [(2, 1, (-1))], [])], [12674, 12676, 12928, 13056, 13184, 13312, 13440, 13568, 13696, 13824, 13952, 14080, 14208, 14336, 14464, 14592, 14720, 14848])
set_option maxRecDepth 100000 in
theorem z_x263_ok : z_chk z_D s_P (z_clq z_D z_x263.2.2.2 s_P [z_x262, z_x144]) 3000 z_x263 = true := z_chk2_ok (by decide +kernel)
theorem z_x263_s {J : aH → Prop} (hJ : z_jl J) {X : aX} : z_spec J z_D s_P X z_x263 := z_ctx_ok (z_hlen hJ) (fun H0 C S => z_clq_ok (z_hlen hJ) (z_cons (z_x262_s hJ) (z_cons (z_x144_s hJ) (z_nil))) _ H0 C S) z_x263_ok
/-- $Sets.readThing 101 45 (2,) -/
def z_x264 : zQ := ((100, 10, 4, 2), [(0, ([(0, 2), (1, 5505), (1, 12676), (1, 12674)], [(1, 2, 2), (1, 2, 40), (1, 2, 40), (1, 0, 16)], [], [some (.inl (.ref 101)), some (.inl (.ref 45)), some (.inr (0, 0)), none]), [(0, 0, 2), (0, 0, 0)]),
  (2, ([(0, 2), (0, 3), (1, 5505), (1, 12674), (1, 12676), (2, 3), (2, 2), (2, 1)], [(1, 2, 2), (1, 0, 1), (1, 2, 40), (1, 0, 16), (1, 2, 40), (1, 0, 16), (1, 2, 40), (1, 2, 40)], [(1, 4, (-2)), (5, 3, 0), (6, 4, 0), (3, 5, 0), (2, 7, 0), (7, 2, 0)], [some (.inl (.ref 101)), some (.inl (.ref 45)), some (.inr (0, 0)), some (.inr (1, 0))]), [(0, 0, 1), (1, 4, 40)])], [([(2, 1), (1, 12676), (2, 2)], [(1, 2, 40), (1, 3, 48), (1, 2, 40)], [(2, 1, (-1))], [])], [12674, 12676, 12928, 13056, 13184, 13312, 13440, 13568, 13696, 13824, 13952, 14080, 14208, 14336, 14464, 14592, 14720, 14848])
set_option maxRecDepth 100000 in
theorem z_x264_ok : z_chk z_D s_P (z_clq z_D z_x264.2.2.2 s_P [z_x263, z_x146, z_x145]) 3000 z_x264 = true := z_chk2_ok (by decide +kernel)
theorem z_x264_s {J : aH → Prop} (hJ : z_jl J) {X : aX} : z_spec J z_D s_P X z_x264 := z_ctx_ok (z_hlen hJ) (fun H0 C S => z_clq_ok (z_hlen hJ) (z_cons (z_x263_s hJ) (z_cons (z_x146_s hJ) (z_cons (z_x145_s hJ) (z_nil)))) _ H0 C S) z_x264_ok
/-- $Sets.readAll 101 45 (2,) -/
def z_x265 : zQ := ((99, 11, 3, 2), [(0, ([(0, 2), (1, 5505), (1, 12676)], [(1, 2, 2), (1, 2, 40), (1, 2, 40)], [], [some (.inl (.ref 101)), some (.inl (.ref 45)), some (.inr (0, 0))]), [(0, 0, 2), (0, 0, 0)]),
  (6, ([(0, 2), (1, 5505), (1, 12676), (2, 2), (2, 1)], [(1, 2, 2), (1, 2, 40), (1, 3, 48), (1, 2, 40), (1, 2, 40)], [(3, 2, (-1)), (1, 4, 0), (4, 1, 0)], [some (.inl (.ref 101)), some (.inl (.ref 45)), some (.inr (0, 0))]), [(0, 0, 1), (1, 2, 40)])], [([(2, 1), (1, 12676), (2, 2)], [(1, 2, 40), (1, 3, 48), (1, 2, 40)], [(2, 1, (-1))], [])], [12674, 12676, 12928, 13056, 13184, 13312, 13440, 13568, 13696, 13824, 13952, 14080, 14208, 14336, 14464, 14592, 14720, 14848])
set_option maxRecDepth 100000 in
theorem z_x265_ok : z_chk z_D s_P (z_clq z_D z_x265.2.2.2 s_P [z_x264, z_x148]) 3000 z_x265 = true := z_chk2_ok (by decide +kernel)
theorem z_x265_s {J : aH → Prop} (hJ : z_jl J) {X : aX} : z_spec J z_D s_P X z_x265 := z_ctx_ok (z_hlen hJ) (fun H0 C S => z_clq_ok (z_hlen hJ) (z_cons (z_x264_s hJ) (z_cons (z_x148_s hJ) (z_nil))) _ H0 C S) z_x265_ok
/-- $Sets.readAny 101 45 (2,) -/
def z_x266 : zQ := ((98, 12, 3, 2), [(0, ([(0, 2), (1, 5505), (1, 12676)], [(1, 2, 2), (1, 2, 40), (1, 2, 40)], [], [some (.inl (.ref 101)), some (.inl (.ref 45)), some (.inr (0, 0))]), [(0, 0, 2), (0, 0, 0)]),
  (6, ([(0, 2), (1, 5505), (1, 12676), (2, 2), (2, 1)], [(1, 2, 2), (1, 2, 40), (1, 3, 48), (1, 2, 40), (1, 2, 40)], [(3, 2, (-1)), (1, 4, 0), (4, 1, 0)], [some (.inl (.ref 101)), some (.inl (.ref 45)), some (.inr (0, 0))]), [(0, 0, 1), (1, 2, 40)])], [([(2, 1), (1, 12676), (2, 2)], [(1, 2, 40), (1, 3, 48), (1, 2, 40)], [(2, 1, (-1))], [])], [12674, 12676, 12928, 13056, 13184, 13312, 13440, 13568, 13696, 13824, 13952, 14080, 14208, 14336, 14464, 14592, 14720, 14848])
set_option maxRecDepth 100000 in
theorem z_x266_ok : z_chk z_D s_P (z_clq z_D z_x266.2.2.2 s_P [z_x265, z_x144]) 3000 z_x266 = true := z_chk2_ok (by decide +kernel)
theorem z_x266_s {J : aH → Prop} (hJ : z_jl J) {X : aX} : z_spec J z_D s_P X z_x266 := z_ctx_ok (z_hlen hJ) (fun H0 C S => z_clq_ok (z_hlen hJ) (z_cons (z_x265_s hJ) (z_cons (z_x144_s hJ) (z_nil))) _ H0 C S) z_x266_ok
/-- $Sets.readThing 101 45 (1,) -/
def z_x267 : zQ := ((100, 13, 4, 2), [(0, ([(0, 2), (1, 5505), (1, 12676), (1, 12674)], [(1, 1, 1), (1, 1, 40), (1, 1, 40), (1, 0, 16)], [], [some (.inl (.ref 101)), some (.inl (.ref 45)), some (.inr (0, 0)), none]), [(0, 0, 2), (0, 0, 0)]),
  (2, ([(0, 2), (0, 3), (1, 5505), (1, 12674), (1, 12676), (2, 3), (2, 2), (2, 1)], [(1, 1, 1), (1, 0, 1), (1, 1, 40), (1, 0, 16), (1, 1, 40), (1, 0, 16), (1, 1, 40), (1, 1, 40)], [(1, 4, (-1)), (5, 3, 0), (6, 4, 0), (3, 5, 0), (2, 7, 0), (7, 2, 0)], [some (.inl (.ref 101)), some (.inl (.ref 45)), some (.inr (0, 0)), some (.inr (1, 0))]), [(0, 0, 1), (1, 4, 40)])], [([(2, 1), (1, 12676), (2, 2)], [(1, 1, 40), (1, 2, 59), (1, 1, 40)], [(2, 1, (-1))], [])], [12674, 12676, 12928, 13056, 13184, 13312, 13440, 13568, 13696, 13824, 13952, 14080, 14208, 14336, 14464, 14592, 14720, 14848])
set_option maxRecDepth 100000 in
theorem z_x267_ok : z_chk z_D s_P (z_clq z_D z_x267.2.2.2 s_P [z_x266, z_x146, z_x145]) 3000 z_x267 = true := z_chk2_ok (by decide +kernel)
theorem z_x267_s {J : aH → Prop} (hJ : z_jl J) {X : aX} : z_spec J z_D s_P X z_x267 := z_ctx_ok (z_hlen hJ) (fun H0 C S => z_clq_ok (z_hlen hJ) (z_cons (z_x266_s hJ) (z_cons (z_x146_s hJ) (z_cons (z_x145_s hJ) (z_nil)))) _ H0 C S) z_x267_ok
/-- $Sets.readAll 101 45 (1,) -/
def z_x268 : zQ := ((99, 14, 3, 2), [(0, ([(0, 2), (1, 5505), (1, 12676)], [(1, 1, 1), (1, 1, 40), (1, 1, 40)], [], [some (.inl (.ref 101)), some (.inl (.ref 45)), some (.inr (0, 0))]), [(0, 0, 2), (0, 0, 0)]),
  (6, ([(0, 2), (1, 5505), (1, 12676), (2, 2), (2, 1)], [(1, 1, 1), (1, 1, 40), (1, 2, 59), (1, 1, 40), (1, 1, 40)], [(3, 2, (-1)), (1, 4, 0), (4, 1, 0)], [some (.inl (.ref 101)), some (.inl (.ref 45)), some (.inr (0, 0))]), [(0, 0, 1), (1, 2, 40)])], [([(2, 1), (1, 12676), (2, 2)], [(1, 1, 40), (1, 2, 59), (1, 1, 40)], [(2, 1, (-1))], [])], [12674, 12676, 12928, 13056, 13184, 13312, 13440, 13568, 13696, 13824, 13952, 14080, 14208, 14336, 14464, 14592, 14720, 14848])
set_option maxRecDepth 100000 in
theorem z_x268_ok : z_chk z_D s_P (z_clq z_D z_x268.2.2.2 s_P [z_x267, z_x148]) 3000 z_x268 = true := z_chk2_ok (by decide +kernel)
theorem z_x268_s {J : aH → Prop} (hJ : z_jl J) {X : aX} : z_spec J z_D s_P X z_x268 := z_ctx_ok (z_hlen hJ) (fun H0 C S => z_clq_ok (z_hlen hJ) (z_cons (z_x267_s hJ) (z_cons (z_x148_s hJ) (z_nil))) _ H0 C S) z_x268_ok
/-- $Sets.readAny 101 45 (1,) -/
def z_x269 : zQ := ((98, 15, 3, 2), [(0, ([(0, 2), (1, 5505), (1, 12676)], [(1, 1, 1), (1, 1, 40), (1, 1, 40)], [], [some (.inl (.ref 101)), some (.inl (.ref 45)), some (.inr (0, 0))]), [(0, 0, 2), (0, 0, 0)]),
  (6, ([(0, 2), (1, 5505), (1, 12676), (2, 2), (2, 1)], [(1, 1, 1), (1, 1, 40), (1, 2, 59), (1, 1, 40), (1, 1, 40)], [(3, 2, (-1)), (1, 4, 0), (4, 1, 0)], [some (.inl (.ref 101)), some (.inl (.ref 45)), some (.inr (0, 0))]), [(0, 0, 1), (1, 2, 40)])], [([(2, 1), (1, 12676), (2, 2)], [(1, 1, 40), (1, 2, 59), (1, 1, 40)], [(2, 1, (-1))], [])], [12674, 12676, 12928, 13056, 13184, 13312, 13440, 13568, 13696, 13824, 13952, 14080, 14208, 14336, 14464, 14592, 14720, 14848])
set_option maxRecDepth 100000 in
theorem z_x269_ok : z_chk z_D s_P (z_clq z_D z_x269.2.2.2 s_P [z_x268, z_x144]) 3000 z_x269 = true := z_chk2_ok (by decide +kernel)
theorem z_x269_s {J : aH → Prop} (hJ : z_jl J) {X : aX} : z_spec J z_D s_P X z_x269 := z_ctx_ok (z_hlen hJ) (fun H0 C S => z_clq_ok (z_hlen hJ) (z_cons (z_x268_s hJ) (z_cons (z_x144_s hJ) (z_nil))) _ H0 C S) z_x269_ok
/-- $Sets.readThing 101 45 (0,) -/
def z_x270 : zQ := ((100, 16, 3, 2), [(0, ([(0, 2), (1, 12676), (1, 12674)], [(1, 0, 0), (1, (-1), 40), (1, 0, 16)], [], [some (.inl (.ref 101)), some (.inl (.ref 45)), some (.inr (0, 0)), none]), [(0, 0, 2), (0, 0, 0)]),
  (2, ([(0, 2), (0, 3), (1, 12674), (1, 12676), (2, 2), (2, 1)], [(1, 0, 0), (1, 0, 1), (1, 0, 16), (1, (-1), 40), (1, 0, 16), (1, (-1), 40)], [(1, 3, 1), (4, 2, 0), (5, 3, 0), (2, 4, 0)], [some (.inl (.ref 101)), some (.inl (.ref 45)), some (.inr (0, 0)), some (.inr (1, 0))]), [(0, 0, 1), (1, 3, 40)])], [([(1, 12676), (2, 1)], [(1, 0, 60), (1, (-1), 40)], [(1, 0, (-1))], [])], [12674, 12676, 12928, 13056, 13184, 13312, 13440, 13568, 13696, 13824, 13952, 14080, 14208, 14336, 14464, 14592, 14720, 14848])
set_option maxRecDepth 100000 in
theorem z_x270_ok : z_chk z_D s_P (z_clq z_D z_x270.2.2.2 s_P [z_x269, z_x146, z_x145]) 3000 z_x270 = true := z_chk2_ok (by decide +kernel)
theorem z_x270_s {J : aH → Prop} (hJ : z_jl J) {X : aX} : z_spec J z_D s_P X z_x270 := z_ctx_ok (z_hlen hJ) (fun H0 C S => z_clq_ok (z_hlen hJ) (z_cons (z_x269_s hJ) (z_cons (z_x146_s hJ) (z_cons (z_x145_s hJ) (z_nil)))) _ H0 C S) z_x270_ok
/-- $Sets.readAll 101 45 (0,) -/
def z_x271 : zQ := ((99, 17, 2, 2), [(0, ([(0, 2), (1, 12676)], [(1, 0, 0), (1, (-1), 40)], [], [some (.inl (.ref 101)), some (.inl (.ref 45)), some (.inr (0, 0))]), [(0, 0, 2), (0, 0, 0)]),
  (6, ([(0, 2), (1, 12676), (2, 1)], [(1, 0, 0), (1, 0, 60), (1, (-1), 40)], [(2, 1, (-1))], [some (.inl (.ref 101)), some (.inl (.ref 45)), some (.inr (0, 0))]), [(0, 0, 1), (1, 1, 40)])], [([(1, 12676), (2, 1)], [(1, 0, 60), (1, (-1), 40)], [(1, 0, (-1))], [])], [12674, 12676, 12928, 13056, 13184, 13312, 13440, 13568, 13696, 13824, 13952, 14080, 14208, 14336, 14464, 14592, 14720, 14848])
set_option maxRecDepth 100000 in
theorem z_x271_ok : z_chk z_D s_P (z_clq z_D z_x271.2.2.2 s_P [z_x270, z_x148]) 3000 z_x271 = true := z_chk2_ok (by decide +kernel)
theorem z_x271_s {J : aH → Prop} (hJ : z_jl J) {X : aX} : z_spec J z_D s_P X z_x271 := z_ctx_ok (z_hlen hJ) (fun H0 C S => z_clq_ok (z_hlen hJ) (z_cons (z_x270_s hJ) (z_cons (z_x148_s hJ) (z_nil))) _ H0 C S) z_x271_ok
/-- $Sets.readAny 101 45 (0,) -/
def z_x272 : zQ := ((98, 18, 2, 2), [(0, ([(0, 2), (1, 12676)], [(1, 0, 0), (1, (-1), 40)], [], [some (.inl (.ref 101)), some (.inl (.ref 45)), some (.inr (0, 0))]), [(0, 0, 2), (0, 0, 0)]),
  (6, ([(0, 2), (1, 12676), (2, 1)], [(1, 0, 0), (1, 0, 60), (1, (-1), 40)], [(2, 1, (-1))], [some (.inl (.ref 101)), some (.inl (.ref 45)), some (.inr (0, 0))]), [(0, 0, 1), (1, 1, 40)])], [([(1, 12676), (2, 1)], [(1, 0, 60), (1, (-1), 40)], [(1, 0, (-1))], [])], [12674, 12676, 12928, 13056, 13184, 13312, 13440, 13568, 13696, 13824, 13952, 14080, 14208, 14336, 14464, 14592, 14720, 14848])
set_option maxRecDepth 100000 in
theorem z_x272_ok : z_chk z_D s_P (z_clq z_D z_x272.2.2.2 s_P [z_x271, z_x144]) 3000 z_x272 = true := z_chk2_ok (by decide +kernel)
theorem z_x272_s {J : aH → Prop} (hJ : z_jl J) {X : aX} : z_spec J z_D s_P X z_x272 := z_ctx_ok (z_hlen hJ) (fun H0 C S => z_clq_ok (z_hlen hJ) (z_cons (z_x271_s hJ) (z_cons (z_x144_s hJ) (z_nil))) _ H0 C S) z_x272_ok
/-- $Sets.weighEvent 101 3 45 -/
def z_x273 : zQ := ((107, 19, 1, 2), [(0, ([(0, 3)], [(1, (-1), 40)], [], [some (.inl (.ref 101)), some (.inl (.ref 3)), some (.inl (.ref 45)), some (.inr (0, 0))]), [(0, 0, 1), (0, 0, 0)])], [([(0, 0), (1, 12676)], [(1, (-2147483648), 2147483647), (1, 0, 60)], [], [some (.inr (0, 0))])], [12674, 12676, 12928, 13056, 13184, 13312, 13440, 13568, 13696, 13824, 13952, 14080, 14208, 14336, 14464, 14592, 14720, 14848])
set_option maxRecDepth 100000 in
theorem z_x273_ok : z_chk z_D s_P (z_clq z_D z_x273.2.2.2 s_P [z_x272, z_x143]) 3000 z_x273 = true := z_chk2_ok (by decide +kernel)
theorem z_x273_s {J : aH → Prop} (hJ : z_jl J) {X : aX} : z_spec J z_D s_P X z_x273 := z_ctx_ok (z_hlen hJ) (fun H0 C S => z_clq_ok (z_hlen hJ) (z_cons (z_x272_s hJ) (z_cons (z_x143_s hJ) (z_nil))) _ H0 C S) z_x273_ok
/-- $Sets.findProduct 101 3 45 153 -/
def z_x274 : zQ := ((110, 17, 2, 2), [(0, ([(0, 3), (0, 4)], [(1, (-1), 40), (1, (-2147483648), 2147483647)], [], [some (.inl (.ref 101)), some (.inl (.ref 3)), some (.inl (.ref 45)), some (.inr (0, 0)), some (.inr (1, 0)), some (.inl (.ref 153)), none]), [(0, 0, 2), (0, 0, 0)]),
  (15, ([(0, 3), (0, 4), (0, 6), (1, 12676)], [(1, (-1), 40), (1, (-2147483648), 2147483647), (1, 0, 40), (1, (-1), 40)], [(0, 3, 0), (2, 3, 1)], [some (.inl (.ref 101)), some (.inl (.ref 3)), some (.inl (.ref 45)), some (.inr (0, 0)), some (.inr (1, 0)), some (.inl (.ref 153)), some (.inr (2, 0))]), [(0, 0, 1), (1, 2, 40)])], [([(1, 12676)], [(1, 0, 60)], [], [some (.inl (.int (-9)))]),
  ([(1, 12676)], [(1, 0, 60)], [], [some (.inl (.int 0))])], [12674, 12676, 12928, 13056, 13184, 13312, 13440, 13568, 13696, 13824, 13952, 14080, 14208, 14336, 14464, 14592, 14720, 14848, 14976, 14977, 19328, 19329])
set_option maxRecDepth 100000 in
theorem z_x274_ok : z_chk z_D s_P (z_clq z_D z_x274.2.2.2 s_P [z_x270, z_x167, z_x143, z_x38, z_x13]) 3000 z_x274 = true := z_chk2_ok (by decide +kernel)
theorem z_x274_s {J : aH → Prop} (hJ : z_jl J) {X : aX} : z_spec J z_D s_P X z_x274 := z_ctx_ok (z_hlen hJ) (fun H0 C S => z_clq_ok (z_hlen hJ) (z_cons (z_x270_s hJ) (z_cons (z_x167_s hJ) (z_cons (z_x143_s hJ) (z_cons (z_x38_s hJ) (z_cons (z_x13_s hJ) (z_nil)))))) _ H0 C S) z_x274_ok
/-- $Sets.weighGiven 101 3 45 -/
def z_x275 : zQ := ((95, 19, 1, 2), [(0, ([(0, 3)], [(1, (-1), 40)], [], [some (.inl (.ref 101)), some (.inl (.ref 3)), some (.inl (.ref 45)), some (.inr (0, 0))]), [(0, 0, 1), (0, 0, 0)])], [([(0, 0)], [(1, (-2147483648), 2147483647)], [], [some (.inr (0, 0))])], [12674, 12675, 12676, 12928, 13056, 13184, 13312, 13440, 13568, 13696, 13824, 13952, 14080, 14208, 14336, 14464, 14592, 14720, 14848])
set_option maxRecDepth 100000 in
theorem z_x275_ok : z_chk z_D s_P (z_clq z_D z_x275.2.2.2 s_P [z_x272, z_x169, z_x143]) 3000 z_x275 = true := z_chk2_ok (by decide +kernel)
theorem z_x275_s {J : aH → Prop} (hJ : z_jl J) {X : aX} : z_spec J z_D s_P X z_x275 := z_ctx_ok (z_hlen hJ) (fun H0 C S => z_clq_ok (z_hlen hJ) (z_cons (z_x272_s hJ) (z_cons (z_x169_s hJ) (z_cons (z_x143_s hJ) (z_nil)))) _ H0 C S) z_x275_ok
/-- $Sets.findTerm 101 3 45 153 -/
def z_x276 : zQ := ((108, 20, 2, 2), [(0, ([(0, 3), (0, 4)], [(1, 0, 1), (1, 0, 4)], [], [some (.inl (.ref 101)), some (.inl (.ref 3)), some (.inl (.ref 45)), some (.inr (0, 0)), some (.inr (1, 0)), some (.inl (.ref 153)), none, none, none, none, none, none]), [(0, 0, 1), (0, 0, 0)])], [([], [], [], [some (.inl (.int 0))]),
  ([], [], [], [some (.inl (.int (-2)))]),
  ([(1, 12676)], [(1, 0, 60)], [], [some (.inl (.int (-9)))])], [12674, 12675, 12676, 12928, 13056, 13184, 13312, 13440, 13568, 13696, 13824, 13952, 14080, 14208, 14336, 14464, 14592, 14720, 14848, 14976, 14977, 19328, 19329])
set_option maxRecDepth 100000 in
theorem z_x276_ok : z_chk z_D s_P (z_clq z_D z_x276.2.2.2 s_P [z_x275, z_x274, z_x273, z_x13]) 3000 z_x276 = true := z_chk2_ok (by decide +kernel)
theorem z_x276_s {J : aH → Prop} (hJ : z_jl J) {X : aX} : z_spec J z_D s_P X z_x276 := z_ctx_ok (z_hlen hJ) (fun H0 C S => z_clq_ok (z_hlen hJ) (z_cons (z_x275_s hJ) (z_cons (z_x274_s hJ) (z_cons (z_x273_s hJ) (z_cons (z_x13_s hJ) (z_nil))))) _ H0 C S) z_x276_ok
/-- $Sets.findProduct 101 3 45 154 -/
def z_x277 : zQ := ((110, 17, 2, 2), [(0, ([(0, 3), (0, 4)], [(1, (-1), 40), (1, (-2147483648), 2147483647)], [], [some (.inl (.ref 101)), some (.inl (.ref 3)), some (.inl (.ref 45)), some (.inr (0, 0)), some (.inr (1, 0)), some (.inl (.ref 154)), none]), [(0, 0, 2), (0, 0, 0)]),
  (15, ([(0, 3), (0, 4), (0, 6), (1, 12676)], [(1, (-1), 40), (1, (-2147483648), 2147483647), (1, 0, 40), (1, (-1), 40)], [(0, 3, 0), (2, 3, 1)], [some (.inl (.ref 101)), some (.inl (.ref 3)), some (.inl (.ref 45)), some (.inr (0, 0)), some (.inr (1, 0)), some (.inl (.ref 154)), some (.inr (2, 0))]), [(0, 0, 1), (1, 2, 40)])], [([(1, 12676)], [(1, 0, 60)], [], [some (.inl (.int (-9)))]),
  ([(1, 12676)], [(1, 0, 60)], [], [some (.inl (.int 0))])], [12674, 12676, 12928, 13056, 13184, 13312, 13440, 13568, 13696, 13824, 13952, 14080, 14208, 14336, 14464, 14592, 14720, 14848, 14976, 14977, 19456, 19457])
set_option maxRecDepth 100000 in
theorem z_x277_ok : z_chk z_D s_P (z_clq z_D z_x277.2.2.2 s_P [z_x270, z_x172, z_x167, z_x143, z_x24]) 3000 z_x277 = true := z_chk2_ok (by decide +kernel)
theorem z_x277_s {J : aH → Prop} (hJ : z_jl J) {X : aX} : z_spec J z_D s_P X z_x277 := z_ctx_ok (z_hlen hJ) (fun H0 C S => z_clq_ok (z_hlen hJ) (z_cons (z_x270_s hJ) (z_cons (z_x172_s hJ) (z_cons (z_x167_s hJ) (z_cons (z_x143_s hJ) (z_cons (z_x24_s hJ) (z_nil)))))) _ H0 C S) z_x277_ok
/-- $Sets.findTerm 101 3 45 154 -/
def z_x278 : zQ := ((108, 20, 2, 2), [(0, ([(0, 3), (0, 4)], [(1, 1, 1), (1, 0, 4)], [], [some (.inl (.ref 101)), some (.inl (.ref 3)), some (.inl (.ref 45)), some (.inr (0, 0)), some (.inr (1, 0)), some (.inl (.ref 154)), none, none, none, none, none, none]), [(0, 0, 1), (0, 0, 0)])], [([], [], [], [some (.inl (.int 0))]),
  ([], [], [], [some (.inl (.int (-2)))]),
  ([(1, 12676)], [(1, 0, 60)], [], [some (.inl (.int (-9)))])], [12674, 12675, 12676, 12928, 13056, 13184, 13312, 13440, 13568, 13696, 13824, 13952, 14080, 14208, 14336, 14464, 14592, 14720, 14848, 14976, 14977, 19456, 19457])
set_option maxRecDepth 100000 in
theorem z_x278_ok : z_chk z_D s_P (z_clq z_D z_x278.2.2.2 s_P [z_x277, z_x275, z_x273, z_x24]) 3000 z_x278 = true := z_chk2_ok (by decide +kernel)
theorem z_x278_s {J : aH → Prop} (hJ : z_jl J) {X : aX} : z_spec J z_D s_P X z_x278 := z_ctx_ok (z_hlen hJ) (fun H0 C S => z_clq_ok (z_hlen hJ) (z_cons (z_x277_s hJ) (z_cons (z_x275_s hJ) (z_cons (z_x273_s hJ) (z_cons (z_x24_s hJ) (z_nil))))) _ H0 C S) z_x278_ok
/-- $Sets.findBeside 101 3 45 -/
def z_x279 : zQ := ((94, 20, 0, 2), [(0, ([], [], [], [some (.inl (.ref 101)), some (.inl (.ref 3)), some (.inl (.ref 45)), none, none, none, none, none, none, none, none]), [(0, 0, 1), (0, 0, 0)])], [([], [], [], [some (.inl (.int (-2)))]),
  ([(1, 12674), (1, 12676)], [(1, 0, 15), (1, 0, 60)], [], [some (.inl (.int 0))]),
  ([(1, 12674), (1, 12676)], [(1, 0, 15), (1, 0, 60)], [], [some (.inl (.int 1))])], [12674, 12675, 12676, 12928, 13056, 13184, 13312, 13440, 13568, 13696, 13824, 13952, 14080, 14208, 14336, 14464, 14592, 14720, 14848])
set_option maxRecDepth 100000 in
theorem z_x279_ok : z_chk z_D s_P (z_clq z_D z_x279.2.2.2 s_P [z_x275, z_x273, z_x272, z_x148, z_x143]) 3000 z_x279 = true := z_chk2_ok (by decide +kernel)
theorem z_x279_s {J : aH → Prop} (hJ : z_jl J) {X : aX} : z_spec J z_D s_P X z_x279 := z_ctx_ok (z_hlen hJ) (fun H0 C S => z_clq_ok (z_hlen hJ) (z_cons (z_x275_s hJ) (z_cons (z_x273_s hJ) (z_cons (z_x272_s hJ) (z_cons (z_x148_s hJ) (z_cons (z_x143_s hJ) (z_nil)))))) _ H0 C S) z_x279_ok
/-- .judge 2 45 -/
def z_x280 : zQ := ((93, 21, 1, 2), [(0, ([(0, 2)], [(1, 0, 4)], [], [some (.inl (.ref 2)), some (.inl (.ref 45)), some (.inr (0, 0)), none]), [(0, 0, 1), (0, 0, 0)])], [([(1, 143)], [(1, 1, 1)], [], [some (.inl (.int 1))]),
  ([(1, 143)], [(1, 1, 1)], [], [some (.inl (.int 0))]),
  ([(1, 143)], [(1, 1, 1)], [], [some (.inl (.int (-2)))]),
  ([(1, 143), (1, 12676)], [(1, 1, 1), (1, 0, 60)], [], [some (.inl (.int (-9)))])], [143, 1152, 12674, 12675, 12676, 12928, 13056, 13184, 13312, 13440, 13568, 13696, 13824, 13952, 14080, 14208, 14336, 14464, 14592, 14720, 14848, 14976, 14977, 19328, 19329, 19456, 19457])
set_option maxRecDepth 100000 in
theorem z_x280_ok : z_chk z_D s_P (z_clq z_D z_x280.2.2.2 s_P [z_x279, z_x278, z_x276, z_x27, z_x9]) 3000 z_x280 = true := z_chk2_ok (by decide +kernel)
theorem z_x280_s {J : aH → Prop} (hJ : z_jl J) {X : aX} : z_spec J z_D s_P X z_x280 := z_ctx_ok (z_hlen hJ) (fun H0 C S => z_clq_ok (z_hlen hJ) (z_cons (z_x279_s hJ) (z_cons (z_x278_s hJ) (z_cons (z_x276_s hJ) (z_cons (z_x27_s hJ) (z_cons (z_x9_s hJ) (z_nil)))))) _ H0 C S) z_x280_ok
/-- $Sets.readThing 101 52 (5,) -/
def z_x281 : zQ := ((100, 1, 4, 2), [(0, ([(0, 2), (1, 6401), (1, 12676), (1, 12674)], [(1, 5, 5), (1, 5, 40), (1, 5, 40), (1, 0, 16)], [], [some (.inl (.ref 101)), some (.inl (.ref 52)), some (.inr (0, 0)), none]), [(0, 0, 2), (0, 0, 0)]),
  (2, ([(0, 2), (0, 3), (1, 6401), (1, 12674), (1, 12676), (2, 3), (2, 2), (2, 1)], [(1, 5, 5), (1, 0, 1), (1, 5, 40), (1, 0, 16), (1, 5, 40), (1, 0, 16), (1, 5, 40), (1, 5, 40)], [(5, 3, 0), (6, 4, 0), (3, 5, 0), (2, 7, 0), (7, 2, 0)], [some (.inl (.ref 101)), some (.inl (.ref 52)), some (.inr (0, 0)), some (.inr (1, 0))]), [(0, 0, 1), (1, 4, 40)])], [([(2, 1), (1, 12674), (1, 12676), (2, 3), (2, 2)], [(1, 5, 40), (1, 0, 16), (1, 6, 41), (1, 0, 16), (1, 5, 40)], [(3, 1, 0), (4, 2, (-1)), (1, 3, 1)], [])], [12674, 12676, 12928, 13056, 13184, 13312, 13440, 13568, 13696, 13824, 13952, 14080, 14208, 14336, 14464, 14592, 14720, 14848])
set_option maxRecDepth 100000 in
theorem z_x281_ok : z_chk z_D s_P (z_clq z_D z_x281.2.2.2 s_P [z_x146, z_x145]) 3000 z_x281 = true := z_chk2_ok (by decide +kernel)
theorem z_x281_s {J : aH → Prop} (hJ : z_jl J) {X : aX} : z_spec J z_D s_P X z_x281 := z_ctx_ok (z_hlen hJ) (fun H0 C S => z_clq_ok (z_hlen hJ) (z_cons (z_x146_s hJ) (z_cons (z_x145_s hJ) (z_nil))) _ H0 C S) z_x281_ok
/-- $Sets.readAll 101 52 (5,) -/
def z_x282 : zQ := ((99, 2, 3, 2), [(0, ([(0, 2), (1, 6401), (1, 12676)], [(1, 5, 5), (1, 5, 40), (1, 5, 40)], [], [some (.inl (.ref 101)), some (.inl (.ref 52)), some (.inr (0, 0))]), [(0, 0, 2), (0, 0, 0)]),
  (6, ([(0, 2), (1, 6401), (1, 12676), (2, 2), (2, 1)], [(1, 5, 5), (1, 5, 40), (1, 6, 41), (1, 5, 40), (1, 5, 40)], [(3, 2, (-1)), (1, 4, 0), (4, 1, 0)], [some (.inl (.ref 101)), some (.inl (.ref 52)), some (.inr (0, 0))]), [(0, 0, 1), (1, 2, 40)])], [([(2, 1), (1, 12676), (2, 2)], [(1, 5, 40), (1, 6, 41), (1, 5, 40)], [(2, 1, (-1))], [])], [12674, 12676, 12928, 13056, 13184, 13312, 13440, 13568, 13696, 13824, 13952, 14080, 14208, 14336, 14464, 14592, 14720, 14848])
set_option maxRecDepth 100000 in
theorem z_x282_ok : z_chk z_D s_P (z_clq z_D z_x282.2.2.2 s_P [z_x281, z_x148]) 3000 z_x282 = true := z_chk2_ok (by decide +kernel)
theorem z_x282_s {J : aH → Prop} (hJ : z_jl J) {X : aX} : z_spec J z_D s_P X z_x282 := z_ctx_ok (z_hlen hJ) (fun H0 C S => z_clq_ok (z_hlen hJ) (z_cons (z_x281_s hJ) (z_cons (z_x148_s hJ) (z_nil))) _ H0 C S) z_x282_ok
/-- $Sets.readAny 101 52 (5,) -/
def z_x283 : zQ := ((98, 3, 3, 2), [(0, ([(0, 2), (1, 6401), (1, 12676)], [(1, 5, 5), (1, 5, 40), (1, 5, 40)], [], [some (.inl (.ref 101)), some (.inl (.ref 52)), some (.inr (0, 0))]), [(0, 0, 2), (0, 0, 0)]),
  (6, ([(0, 2), (1, 6401), (1, 12676), (2, 2), (2, 1)], [(1, 5, 5), (1, 5, 40), (1, 6, 41), (1, 5, 40), (1, 5, 40)], [(3, 2, (-1)), (1, 4, 0), (4, 1, 0)], [some (.inl (.ref 101)), some (.inl (.ref 52)), some (.inr (0, 0))]), [(0, 0, 1), (1, 2, 40)])], [([(2, 1), (1, 12676), (2, 2)], [(1, 5, 40), (1, 6, 41), (1, 5, 40)], [(2, 1, (-1))], [])], [12674, 12676, 12928, 13056, 13184, 13312, 13440, 13568, 13696, 13824, 13952, 14080, 14208, 14336, 14464, 14592, 14720, 14848])
set_option maxRecDepth 100000 in
theorem z_x283_ok : z_chk z_D s_P (z_clq z_D z_x283.2.2.2 s_P [z_x282, z_x144]) 3000 z_x283 = true := z_chk2_ok (by decide +kernel)
theorem z_x283_s {J : aH → Prop} (hJ : z_jl J) {X : aX} : z_spec J z_D s_P X z_x283 := z_ctx_ok (z_hlen hJ) (fun H0 C S => z_clq_ok (z_hlen hJ) (z_cons (z_x282_s hJ) (z_cons (z_x144_s hJ) (z_nil))) _ H0 C S) z_x283_ok
/-- $Sets.readThing 101 52 (4,) -/
def z_x284 : zQ := ((100, 4, 4, 2), [(0, ([(0, 2), (1, 6401), (1, 12676), (1, 12674)], [(1, 4, 4), (1, 4, 40), (1, 4, 40), (1, 0, 16)], [], [some (.inl (.ref 101)), some (.inl (.ref 52)), some (.inr (0, 0)), none]), [(0, 0, 2), (0, 0, 0)]),
  (2, ([(0, 2), (0, 3), (1, 6401), (1, 12674), (1, 12676), (2, 3), (2, 2), (2, 1)], [(1, 4, 4), (1, 0, 1), (1, 4, 40), (1, 0, 16), (1, 4, 40), (1, 0, 16), (1, 4, 40), (1, 4, 40)], [(5, 3, 0), (6, 4, 0), (3, 5, 0), (2, 7, 0), (7, 2, 0)], [some (.inl (.ref 101)), some (.inl (.ref 52)), some (.inr (0, 0)), some (.inr (1, 0))]), [(0, 0, 1), (1, 4, 40)])], [([(2, 1), (1, 12676), (2, 2)], [(1, 4, 40), (1, 5, 42), (1, 4, 40)], [(2, 1, (-1))], [])], [12674, 12676, 12928, 13056, 13184, 13312, 13440, 13568, 13696, 13824, 13952, 14080, 14208, 14336, 14464, 14592, 14720, 14848])
set_option maxRecDepth 100000 in
theorem z_x284_ok : z_chk z_D s_P (z_clq z_D z_x284.2.2.2 s_P [z_x283, z_x146, z_x145]) 3000 z_x284 = true := z_chk2_ok (by decide +kernel)
theorem z_x284_s {J : aH → Prop} (hJ : z_jl J) {X : aX} : z_spec J z_D s_P X z_x284 := z_ctx_ok (z_hlen hJ) (fun H0 C S => z_clq_ok (z_hlen hJ) (z_cons (z_x283_s hJ) (z_cons (z_x146_s hJ) (z_cons (z_x145_s hJ) (z_nil)))) _ H0 C S) z_x284_ok
/-- $Sets.readAll 101 52 (4,) -/
def z_x285 : zQ := ((99, 5, 3, 2), [(0, ([(0, 2), (1, 6401), (1, 12676)], [(1, 4, 4), (1, 4, 40), (1, 4, 40)], [], [some (.inl (.ref 101)), some (.inl (.ref 52)), some (.inr (0, 0))]), [(0, 0, 2), (0, 0, 0)]),
  (6, ([(0, 2), (1, 6401), (1, 12676), (2, 2), (2, 1)], [(1, 4, 4), (1, 4, 40), (1, 5, 42), (1, 4, 40), (1, 4, 40)], [(3, 2, (-1)), (1, 4, 0), (4, 1, 0)], [some (.inl (.ref 101)), some (.inl (.ref 52)), some (.inr (0, 0))]), [(0, 0, 1), (1, 2, 40)])], [([(2, 1), (1, 12676), (2, 2)], [(1, 4, 40), (1, 5, 42), (1, 4, 40)], [(2, 1, (-1))], [])], [12674, 12676, 12928, 13056, 13184, 13312, 13440, 13568, 13696, 13824, 13952, 14080, 14208, 14336, 14464, 14592, 14720, 14848])
set_option maxRecDepth 100000 in
theorem z_x285_ok : z_chk z_D s_P (z_clq z_D z_x285.2.2.2 s_P [z_x284, z_x148]) 3000 z_x285 = true := z_chk2_ok (by decide +kernel)
theorem z_x285_s {J : aH → Prop} (hJ : z_jl J) {X : aX} : z_spec J z_D s_P X z_x285 := z_ctx_ok (z_hlen hJ) (fun H0 C S => z_clq_ok (z_hlen hJ) (z_cons (z_x284_s hJ) (z_cons (z_x148_s hJ) (z_nil))) _ H0 C S) z_x285_ok
/-- $Sets.readAny 101 52 (4,) -/
def z_x286 : zQ := ((98, 6, 3, 2), [(0, ([(0, 2), (1, 6401), (1, 12676)], [(1, 4, 4), (1, 4, 40), (1, 4, 40)], [], [some (.inl (.ref 101)), some (.inl (.ref 52)), some (.inr (0, 0))]), [(0, 0, 2), (0, 0, 0)]),
  (6, ([(0, 2), (1, 6401), (1, 12676), (2, 2), (2, 1)], [(1, 4, 4), (1, 4, 40), (1, 5, 42), (1, 4, 40), (1, 4, 40)], [(3, 2, (-1)), (1, 4, 0), (4, 1, 0)], [some (.inl (.ref 101)), some (.inl (.ref 52)), some (.inr (0, 0))]), [(0, 0, 1), (1, 2, 40)])], [([(2, 1), (1, 12676), (2, 2)], [(1, 4, 40), (1, 5, 42), (1, 4, 40)], [(2, 1, (-1))], [])], [12674, 12676, 12928, 13056, 13184, 13312, 13440, 13568, 13696, 13824, 13952, 14080, 14208, 14336, 14464, 14592, 14720, 14848])
set_option maxRecDepth 100000 in
theorem z_x286_ok : z_chk z_D s_P (z_clq z_D z_x286.2.2.2 s_P [z_x285, z_x144]) 3000 z_x286 = true := z_chk2_ok (by decide +kernel)
theorem z_x286_s {J : aH → Prop} (hJ : z_jl J) {X : aX} : z_spec J z_D s_P X z_x286 := z_ctx_ok (z_hlen hJ) (fun H0 C S => z_clq_ok (z_hlen hJ) (z_cons (z_x285_s hJ) (z_cons (z_x144_s hJ) (z_nil))) _ H0 C S) z_x286_ok
/-- $Sets.readThing 101 52 (3,) -/
def z_x287 : zQ := ((100, 7, 4, 2), [(0, ([(0, 2), (1, 6401), (1, 12676), (1, 12674)], [(1, 3, 3), (1, 3, 40), (1, 3, 40), (1, 0, 16)], [], [some (.inl (.ref 101)), some (.inl (.ref 52)), some (.inr (0, 0)), none]), [(0, 0, 2), (0, 0, 0)]),
  (2, ([(0, 2), (0, 3), (1, 6401), (1, 12674), (1, 12676), (2, 3), (2, 2), (2, 1)], [(1, 3, 3), (1, 0, 1), (1, 3, 40), (1, 0, 16), (1, 3, 40), (1, 0, 16), (1, 3, 40), (1, 3, 40)], [(5, 3, 0), (6, 4, 0), (3, 5, 0), (2, 7, 0), (7, 2, 0)], [some (.inl (.ref 101)), some (.inl (.ref 52)), some (.inr (0, 0)), some (.inr (1, 0))]), [(0, 0, 1), (1, 4, 40)])], [([(2, 1), (1, 12676), (2, 2)], [(1, 3, 40), (1, 4, 47), (1, 3, 40)], [(2, 1, (-1))], [])], [12674, 12676, 12928, 13056, 13184, 13312, 13440, 13568, 13696, 13824, 13952, 14080, 14208, 14336, 14464, 14592, 14720, 14848])
set_option maxRecDepth 100000 in
theorem z_x287_ok : z_chk z_D s_P (z_clq z_D z_x287.2.2.2 s_P [z_x286, z_x146, z_x145]) 3000 z_x287 = true := z_chk2_ok (by decide +kernel)
theorem z_x287_s {J : aH → Prop} (hJ : z_jl J) {X : aX} : z_spec J z_D s_P X z_x287 := z_ctx_ok (z_hlen hJ) (fun H0 C S => z_clq_ok (z_hlen hJ) (z_cons (z_x286_s hJ) (z_cons (z_x146_s hJ) (z_cons (z_x145_s hJ) (z_nil)))) _ H0 C S) z_x287_ok
/-- $Sets.readAll 101 52 (3,) -/
def z_x288 : zQ := ((99, 8, 3, 2), [(0, ([(0, 2), (1, 6401), (1, 12676)], [(1, 3, 3), (1, 3, 40), (1, 3, 40)], [], [some (.inl (.ref 101)), some (.inl (.ref 52)), some (.inr (0, 0))]), [(0, 0, 2), (0, 0, 0)]),
  (6, ([(0, 2), (1, 6401), (1, 12676), (2, 2), (2, 1)], [(1, 3, 3), (1, 3, 40), (1, 4, 47), (1, 3, 40), (1, 3, 40)], [(3, 2, (-1)), (1, 4, 0), (4, 1, 0)], [some (.inl (.ref 101)), some (.inl (.ref 52)), some (.inr (0, 0))]), [(0, 0, 1), (1, 2, 40)])], [([(2, 1), (1, 12676), (2, 2)], [(1, 3, 40), (1, 4, 47), (1, 3, 40)], [(2, 1, (-1))], [])], [12674, 12676, 12928, 13056, 13184, 13312, 13440, 13568, 13696, 13824, 13952, 14080, 14208, 14336, 14464, 14592, 14720, 14848])
set_option maxRecDepth 100000 in
theorem z_x288_ok : z_chk z_D s_P (z_clq z_D z_x288.2.2.2 s_P [z_x287, z_x148]) 3000 z_x288 = true := z_chk2_ok (by decide +kernel)
theorem z_x288_s {J : aH → Prop} (hJ : z_jl J) {X : aX} : z_spec J z_D s_P X z_x288 := z_ctx_ok (z_hlen hJ) (fun H0 C S => z_clq_ok (z_hlen hJ) (z_cons (z_x287_s hJ) (z_cons (z_x148_s hJ) (z_nil))) _ H0 C S) z_x288_ok
/-- $Sets.readAny 101 52 (3,) -/
def z_x289 : zQ := ((98, 9, 3, 2), [(0, ([(0, 2), (1, 6401), (1, 12676)], [(1, 3, 3), (1, 3, 40), (1, 3, 40)], [], [some (.inl (.ref 101)), some (.inl (.ref 52)), some (.inr (0, 0))]), [(0, 0, 2), (0, 0, 0)]),
  (6, ([(0, 2), (1, 6401), (1, 12676), (2, 2), (2, 1)], [(1, 3, 3), (1, 3, 40), (1, 4, 47), (1, 3, 40), (1, 3, 40)], [(3, 2, (-1)), (1, 4, 0), (4, 1, 0)], [some (.inl (.ref 101)), some (.inl (.ref 52)), some (.inr (0, 0))]), [(0, 0, 1), (1, 2, 40)])], [([(2, 1), (1, 12676), (2, 2)], [(1, 3, 40), (1, 4, 47), (1, 3, 40)], [(2, 1, (-1))], [])], [12674, 12676, 12928, 13056, 13184, 13312, 13440, 13568, 13696, 13824, 13952, 14080, 14208, 14336, 14464, 14592, 14720, 14848])
set_option maxRecDepth 100000 in
theorem z_x289_ok : z_chk z_D s_P (z_clq z_D z_x289.2.2.2 s_P [z_x288, z_x144]) 3000 z_x289 = true := z_chk2_ok (by decide +kernel)
theorem z_x289_s {J : aH → Prop} (hJ : z_jl J) {X : aX} : z_spec J z_D s_P X z_x289 := z_ctx_ok (z_hlen hJ) (fun H0 C S => z_clq_ok (z_hlen hJ) (z_cons (z_x288_s hJ) (z_cons (z_x144_s hJ) (z_nil))) _ H0 C S) z_x289_ok
/-- $Sets.readThing 101 52 (2,) -/
def z_x290 : zQ := ((100, 10, 4, 2), [(0, ([(0, 2), (1, 6401), (1, 12676), (1, 12674)], [(1, 2, 2), (1, 2, 40), (1, 2, 40), (1, 0, 16)], [], [some (.inl (.ref 101)), some (.inl (.ref 52)), some (.inr (0, 0)), none]), [(0, 0, 2), (0, 0, 0)]),
  (2, ([(0, 2), (0, 3), (1, 6401), (1, 12674), (1, 12676), (2, 3), (2, 2), (2, 1)], [(1, 2, 2), (1, 0, 1), (1, 2, 40), (1, 0, 16), (1, 2, 40), (1, 0, 16), (1, 2, 40), (1, 2, 40)], [(1, 4, (-2)), (5, 3, 0), (6, 4, 0), (3, 5, 0), (2, 7, 0), (7, 2, 0)], [some (.inl (.ref 101)), some (.inl (.ref 52)), some (.inr (0, 0)), some (.inr (1, 0))]), [(0, 0, 1), (1, 4, 40)])], [([(2, 1), (1, 12676), (2, 2)], [(1, 2, 40), (1, 3, 48), (1, 2, 40)], [(2, 1, (-1))], [])], [12674, 12676, 12928, 13056, 13184, 13312, 13440, 13568, 13696, 13824, 13952, 14080, 14208, 14336, 14464, 14592, 14720, 14848])
set_option maxRecDepth 100000 in
theorem z_x290_ok : z_chk z_D s_P (z_clq z_D z_x290.2.2.2 s_P [z_x289, z_x146, z_x145]) 3000 z_x290 = true := z_chk2_ok (by decide +kernel)
theorem z_x290_s {J : aH → Prop} (hJ : z_jl J) {X : aX} : z_spec J z_D s_P X z_x290 := z_ctx_ok (z_hlen hJ) (fun H0 C S => z_clq_ok (z_hlen hJ) (z_cons (z_x289_s hJ) (z_cons (z_x146_s hJ) (z_cons (z_x145_s hJ) (z_nil)))) _ H0 C S) z_x290_ok
/-- $Sets.readAll 101 52 (2,) -/
def z_x291 : zQ := ((99, 11, 3, 2), [(0, ([(0, 2), (1, 6401), (1, 12676)], [(1, 2, 2), (1, 2, 40), (1, 2, 40)], [], [some (.inl (.ref 101)), some (.inl (.ref 52)), some (.inr (0, 0))]), [(0, 0, 2), (0, 0, 0)]),
  (6, ([(0, 2), (1, 6401), (1, 12676), (2, 2), (2, 1)], [(1, 2, 2), (1, 2, 40), (1, 3, 48), (1, 2, 40), (1, 2, 40)], [(3, 2, (-1)), (1, 4, 0), (4, 1, 0)], [some (.inl (.ref 101)), some (.inl (.ref 52)), some (.inr (0, 0))]), [(0, 0, 1), (1, 2, 40)])], [([(2, 1), (1, 12676), (2, 2)], [(1, 2, 40), (1, 3, 48), (1, 2, 40)], [(2, 1, (-1))], [])], [12674, 12676, 12928, 13056, 13184, 13312, 13440, 13568, 13696, 13824, 13952, 14080, 14208, 14336, 14464, 14592, 14720, 14848])
set_option maxRecDepth 100000 in
theorem z_x291_ok : z_chk z_D s_P (z_clq z_D z_x291.2.2.2 s_P [z_x290, z_x148]) 3000 z_x291 = true := z_chk2_ok (by decide +kernel)
theorem z_x291_s {J : aH → Prop} (hJ : z_jl J) {X : aX} : z_spec J z_D s_P X z_x291 := z_ctx_ok (z_hlen hJ) (fun H0 C S => z_clq_ok (z_hlen hJ) (z_cons (z_x290_s hJ) (z_cons (z_x148_s hJ) (z_nil))) _ H0 C S) z_x291_ok
/-- $Sets.readAny 101 52 (2,) -/
def z_x292 : zQ := ((98, 12, 3, 2), [(0, ([(0, 2), (1, 6401), (1, 12676)], [(1, 2, 2), (1, 2, 40), (1, 2, 40)], [], [some (.inl (.ref 101)), some (.inl (.ref 52)), some (.inr (0, 0))]), [(0, 0, 2), (0, 0, 0)]),
  (6, ([(0, 2), (1, 6401), (1, 12676), (2, 2), (2, 1)], [(1, 2, 2), (1, 2, 40), (1, 3, 48), (1, 2, 40), (1, 2, 40)], [(3, 2, (-1)), (1, 4, 0), (4, 1, 0)], [some (.inl (.ref 101)), some (.inl (.ref 52)), some (.inr (0, 0))]), [(0, 0, 1), (1, 2, 40)])], [([(2, 1), (1, 12676), (2, 2)], [(1, 2, 40), (1, 3, 48), (1, 2, 40)], [(2, 1, (-1))], [])], [12674, 12676, 12928, 13056, 13184, 13312, 13440, 13568, 13696, 13824, 13952, 14080, 14208, 14336, 14464, 14592, 14720, 14848])
set_option maxRecDepth 100000 in
theorem z_x292_ok : z_chk z_D s_P (z_clq z_D z_x292.2.2.2 s_P [z_x291, z_x144]) 3000 z_x292 = true := z_chk2_ok (by decide +kernel)
theorem z_x292_s {J : aH → Prop} (hJ : z_jl J) {X : aX} : z_spec J z_D s_P X z_x292 := z_ctx_ok (z_hlen hJ) (fun H0 C S => z_clq_ok (z_hlen hJ) (z_cons (z_x291_s hJ) (z_cons (z_x144_s hJ) (z_nil))) _ H0 C S) z_x292_ok
/-- $Sets.readThing 101 52 (1,) -/
def z_x293 : zQ := ((100, 13, 4, 2), [(0, ([(0, 2), (1, 6401), (1, 12676), (1, 12674)], [(1, 1, 1), (1, 1, 40), (1, 1, 40), (1, 0, 16)], [], [some (.inl (.ref 101)), some (.inl (.ref 52)), some (.inr (0, 0)), none]), [(0, 0, 2), (0, 0, 0)]),
  (2, ([(0, 2), (0, 3), (1, 6401), (1, 12674), (1, 12676), (2, 3), (2, 2), (2, 1)], [(1, 1, 1), (1, 0, 1), (1, 1, 40), (1, 0, 16), (1, 1, 40), (1, 0, 16), (1, 1, 40), (1, 1, 40)], [(1, 4, (-1)), (5, 3, 0), (6, 4, 0), (3, 5, 0), (2, 7, 0), (7, 2, 0)], [some (.inl (.ref 101)), some (.inl (.ref 52)), some (.inr (0, 0)), some (.inr (1, 0))]), [(0, 0, 1), (1, 4, 40)])], [([(2, 1), (1, 12676), (2, 2)], [(1, 1, 40), (1, 2, 59), (1, 1, 40)], [(2, 1, (-1))], [])], [12674, 12676, 12928, 13056, 13184, 13312, 13440, 13568, 13696, 13824, 13952, 14080, 14208, 14336, 14464, 14592, 14720, 14848])
set_option maxRecDepth 100000 in
theorem z_x293_ok : z_chk z_D s_P (z_clq z_D z_x293.2.2.2 s_P [z_x292, z_x146, z_x145]) 3000 z_x293 = true := z_chk2_ok (by decide +kernel)
theorem z_x293_s {J : aH → Prop} (hJ : z_jl J) {X : aX} : z_spec J z_D s_P X z_x293 := z_ctx_ok (z_hlen hJ) (fun H0 C S => z_clq_ok (z_hlen hJ) (z_cons (z_x292_s hJ) (z_cons (z_x146_s hJ) (z_cons (z_x145_s hJ) (z_nil)))) _ H0 C S) z_x293_ok
/-- $Sets.readAll 101 52 (1,) -/
def z_x294 : zQ := ((99, 14, 3, 2), [(0, ([(0, 2), (1, 6401), (1, 12676)], [(1, 1, 1), (1, 1, 40), (1, 1, 40)], [], [some (.inl (.ref 101)), some (.inl (.ref 52)), some (.inr (0, 0))]), [(0, 0, 2), (0, 0, 0)]),
  (6, ([(0, 2), (1, 6401), (1, 12676), (2, 2), (2, 1)], [(1, 1, 1), (1, 1, 40), (1, 2, 59), (1, 1, 40), (1, 1, 40)], [(3, 2, (-1)), (1, 4, 0), (4, 1, 0)], [some (.inl (.ref 101)), some (.inl (.ref 52)), some (.inr (0, 0))]), [(0, 0, 1), (1, 2, 40)])], [([(2, 1), (1, 12676), (2, 2)], [(1, 1, 40), (1, 2, 59), (1, 1, 40)], [(2, 1, (-1))], [])], [12674, 12676, 12928, 13056, 13184, 13312, 13440, 13568, 13696, 13824, 13952, 14080, 14208, 14336, 14464, 14592, 14720, 14848])
set_option maxRecDepth 100000 in
theorem z_x294_ok : z_chk z_D s_P (z_clq z_D z_x294.2.2.2 s_P [z_x293, z_x148]) 3000 z_x294 = true := z_chk2_ok (by decide +kernel)
theorem z_x294_s {J : aH → Prop} (hJ : z_jl J) {X : aX} : z_spec J z_D s_P X z_x294 := z_ctx_ok (z_hlen hJ) (fun H0 C S => z_clq_ok (z_hlen hJ) (z_cons (z_x293_s hJ) (z_cons (z_x148_s hJ) (z_nil))) _ H0 C S) z_x294_ok
/-- $Sets.readAny 101 52 (1,) -/
def z_x295 : zQ := ((98, 15, 3, 2), [(0, ([(0, 2), (1, 6401), (1, 12676)], [(1, 1, 1), (1, 1, 40), (1, 1, 40)], [], [some (.inl (.ref 101)), some (.inl (.ref 52)), some (.inr (0, 0))]), [(0, 0, 2), (0, 0, 0)]),
  (6, ([(0, 2), (1, 6401), (1, 12676), (2, 2), (2, 1)], [(1, 1, 1), (1, 1, 40), (1, 2, 59), (1, 1, 40), (1, 1, 40)], [(3, 2, (-1)), (1, 4, 0), (4, 1, 0)], [some (.inl (.ref 101)), some (.inl (.ref 52)), some (.inr (0, 0))]), [(0, 0, 1), (1, 2, 40)])], [([(2, 1), (1, 12676), (2, 2)], [(1, 1, 40), (1, 2, 59), (1, 1, 40)], [(2, 1, (-1))], [])], [12674, 12676, 12928, 13056, 13184, 13312, 13440, 13568, 13696, 13824, 13952, 14080, 14208, 14336, 14464, 14592, 14720, 14848])
set_option maxRecDepth 100000 in
theorem z_x295_ok : z_chk z_D s_P (z_clq z_D z_x295.2.2.2 s_P [z_x294, z_x144]) 3000 z_x295 = true := z_chk2_ok (by decide +kernel)
theorem z_x295_s {J : aH → Prop} (hJ : z_jl J) {X : aX} : z_spec J z_D s_P X z_x295 := z_ctx_ok (z_hlen hJ) (fun H0 C S => z_clq_ok (z_hlen hJ) (z_cons (z_x294_s hJ) (z_cons (z_x144_s hJ) (z_nil))) _ H0 C S) z_x295_ok
/-- $Sets.readThing 101 52 (0,) -/
def z_x296 : zQ := ((100, 16, 3, 2), [(0, ([(0, 2), (1, 12676), (1, 12674)], [(1, 0, 0), (1, (-1), 40), (1, 0, 16)], [], [some (.inl (.ref 101)), some (.inl (.ref 52)), some (.inr (0, 0)), none]), [(0, 0, 2), (0, 0, 0)]),
  (2, ([(0, 2), (0, 3), (1, 12674), (1, 12676), (2, 2), (2, 1)], [(1, 0, 0), (1, 0, 1), (1, 0, 16), (1, (-1), 40), (1, 0, 16), (1, (-1), 40)], [(1, 3, 1), (4, 2, 0), (5, 3, 0), (2, 4, 0)], [some (.inl (.ref 101)), some (.inl (.ref 52)), some (.inr (0, 0)), some (.inr (1, 0))]), [(0, 0, 1), (1, 3, 40)])], [([(1, 12676), (2, 1)], [(1, 0, 60), (1, (-1), 40)], [(1, 0, (-1))], [])], [12674, 12676, 12928, 13056, 13184, 13312, 13440, 13568, 13696, 13824, 13952, 14080, 14208, 14336, 14464, 14592, 14720, 14848])
set_option maxRecDepth 100000 in
theorem z_x296_ok : z_chk z_D s_P (z_clq z_D z_x296.2.2.2 s_P [z_x295, z_x146, z_x145]) 3000 z_x296 = true := z_chk2_ok (by decide +kernel)
theorem z_x296_s {J : aH → Prop} (hJ : z_jl J) {X : aX} : z_spec J z_D s_P X z_x296 := z_ctx_ok (z_hlen hJ) (fun H0 C S => z_clq_ok (z_hlen hJ) (z_cons (z_x295_s hJ) (z_cons (z_x146_s hJ) (z_cons (z_x145_s hJ) (z_nil)))) _ H0 C S) z_x296_ok
/-- $Sets.readAll 101 52 (0,) -/
def z_x297 : zQ := ((99, 17, 2, 2), [(0, ([(0, 2), (1, 12676)], [(1, 0, 0), (1, (-1), 40)], [], [some (.inl (.ref 101)), some (.inl (.ref 52)), some (.inr (0, 0))]), [(0, 0, 2), (0, 0, 0)]),
  (6, ([(0, 2), (1, 12676), (2, 1)], [(1, 0, 0), (1, 0, 60), (1, (-1), 40)], [(2, 1, (-1))], [some (.inl (.ref 101)), some (.inl (.ref 52)), some (.inr (0, 0))]), [(0, 0, 1), (1, 1, 40)])], [([(1, 12676), (2, 1)], [(1, 0, 60), (1, (-1), 40)], [(1, 0, (-1))], [])], [12674, 12676, 12928, 13056, 13184, 13312, 13440, 13568, 13696, 13824, 13952, 14080, 14208, 14336, 14464, 14592, 14720, 14848])
set_option maxRecDepth 100000 in
theorem z_x297_ok : z_chk z_D s_P (z_clq z_D z_x297.2.2.2 s_P [z_x296, z_x148]) 3000 z_x297 = true := z_chk2_ok (by decide +kernel)
theorem z_x297_s {J : aH → Prop} (hJ : z_jl J) {X : aX} : z_spec J z_D s_P X z_x297 := z_ctx_ok (z_hlen hJ) (fun H0 C S => z_clq_ok (z_hlen hJ) (z_cons (z_x296_s hJ) (z_cons (z_x148_s hJ) (z_nil))) _ H0 C S) z_x297_ok
/-- $Sets.readAny 101 52 (0,) -/
def z_x298 : zQ := ((98, 18, 2, 2), [(0, ([(0, 2), (1, 12676)], [(1, 0, 0), (1, (-1), 40)], [], [some (.inl (.ref 101)), some (.inl (.ref 52)), some (.inr (0, 0))]), [(0, 0, 2), (0, 0, 0)]),
  (6, ([(0, 2), (1, 12676), (2, 1)], [(1, 0, 0), (1, 0, 60), (1, (-1), 40)], [(2, 1, (-1))], [some (.inl (.ref 101)), some (.inl (.ref 52)), some (.inr (0, 0))]), [(0, 0, 1), (1, 1, 40)])], [([(1, 12676), (2, 1)], [(1, 0, 60), (1, (-1), 40)], [(1, 0, (-1))], [])], [12674, 12676, 12928, 13056, 13184, 13312, 13440, 13568, 13696, 13824, 13952, 14080, 14208, 14336, 14464, 14592, 14720, 14848])
set_option maxRecDepth 100000 in
theorem z_x298_ok : z_chk z_D s_P (z_clq z_D z_x298.2.2.2 s_P [z_x297, z_x144]) 3000 z_x298 = true := z_chk2_ok (by decide +kernel)
theorem z_x298_s {J : aH → Prop} (hJ : z_jl J) {X : aX} : z_spec J z_D s_P X z_x298 := z_ctx_ok (z_hlen hJ) (fun H0 C S => z_clq_ok (z_hlen hJ) (z_cons (z_x297_s hJ) (z_cons (z_x144_s hJ) (z_nil))) _ H0 C S) z_x298_ok
/-- $Sets.weighEvent 101 3 52 -/
def z_x299 : zQ := ((107, 19, 1, 2), [(0, ([(0, 3)], [(1, (-1), 40)], [], [some (.inl (.ref 101)), some (.inl (.ref 3)), some (.inl (.ref 52)), some (.inr (0, 0))]), [(0, 0, 1), (0, 0, 0)])], [([(0, 0), (1, 12676)], [(1, (-2147483648), 2147483647), (1, 0, 60)], [], [some (.inr (0, 0))])], [12674, 12676, 12928, 13056, 13184, 13312, 13440, 13568, 13696, 13824, 13952, 14080, 14208, 14336, 14464, 14592, 14720, 14848])
set_option maxRecDepth 100000 in
theorem z_x299_ok : z_chk z_D s_P (z_clq z_D z_x299.2.2.2 s_P [z_x298, z_x143]) 3000 z_x299 = true := z_chk2_ok (by decide +kernel)
theorem z_x299_s {J : aH → Prop} (hJ : z_jl J) {X : aX} : z_spec J z_D s_P X z_x299 := z_ctx_ok (z_hlen hJ) (fun H0 C S => z_clq_ok (z_hlen hJ) (z_cons (z_x298_s hJ) (z_cons (z_x143_s hJ) (z_nil))) _ H0 C S) z_x299_ok
/-- $Sets.findProduct 101 3 52 153 -/
def z_x300 : zQ := ((110, 17, 2, 2), [(0, ([(0, 3), (0, 4)], [(1, (-1), 40), (1, (-2147483648), 2147483647)], [], [some (.inl (.ref 101)), some (.inl (.ref 3)), some (.inl (.ref 52)), some (.inr (0, 0)), some (.inr (1, 0)), some (.inl (.ref 153)), none]), [(0, 0, 2), (0, 0, 0)]),
  (15, ([(0, 3), (0, 4), (0, 6), (1, 12676)], [(1, (-1), 40), (1, (-2147483648), 2147483647), (1, 0, 40), (1, (-1), 40)], [(0, 3, 0), (2, 3, 1)], [some (.inl (.ref 101)), some (.inl (.ref 3)), some (.inl (.ref 52)), some (.inr (0, 0)), some (.inr (1, 0)), some (.inl (.ref 153)), some (.inr (2, 0))]), [(0, 0, 1), (1, 2, 40)])], [([(1, 12676)], [(1, 0, 60)], [], [some (.inl (.int (-9)))]),
  ([(1, 12676)], [(1, 0, 60)], [], [some (.inl (.int 0))])], [12674, 12676, 12928, 13056, 13184, 13312, 13440, 13568, 13696, 13824, 13952, 14080, 14208, 14336, 14464, 14592, 14720, 14848, 14976, 14977, 19328, 19329])
set_option maxRecDepth 100000 in
theorem z_x300_ok : z_chk z_D s_P (z_clq z_D z_x300.2.2.2 s_P [z_x296, z_x167, z_x143, z_x38, z_x13]) 3000 z_x300 = true := z_chk2_ok (by decide +kernel)
theorem z_x300_s {J : aH → Prop} (hJ : z_jl J) {X : aX} : z_spec J z_D s_P X z_x300 := z_ctx_ok (z_hlen hJ) (fun H0 C S => z_clq_ok (z_hlen hJ) (z_cons (z_x296_s hJ) (z_cons (z_x167_s hJ) (z_cons (z_x143_s hJ) (z_cons (z_x38_s hJ) (z_cons (z_x13_s hJ) (z_nil)))))) _ H0 C S) z_x300_ok
/-- $Sets.weighGiven 101 3 52 -/
def z_x301 : zQ := ((95, 19, 1, 2), [(0, ([(0, 3)], [(1, (-1), 40)], [], [some (.inl (.ref 101)), some (.inl (.ref 3)), some (.inl (.ref 52)), some (.inr (0, 0))]), [(0, 0, 1), (0, 0, 0)])], [([(0, 0)], [(1, (-2147483648), 2147483647)], [], [some (.inr (0, 0))])], [12674, 12675, 12676, 12928, 13056, 13184, 13312, 13440, 13568, 13696, 13824, 13952, 14080, 14208, 14336, 14464, 14592, 14720, 14848])
set_option maxRecDepth 100000 in
theorem z_x301_ok : z_chk z_D s_P (z_clq z_D z_x301.2.2.2 s_P [z_x298, z_x169, z_x143]) 3000 z_x301 = true := z_chk2_ok (by decide +kernel)
theorem z_x301_s {J : aH → Prop} (hJ : z_jl J) {X : aX} : z_spec J z_D s_P X z_x301 := z_ctx_ok (z_hlen hJ) (fun H0 C S => z_clq_ok (z_hlen hJ) (z_cons (z_x298_s hJ) (z_cons (z_x169_s hJ) (z_cons (z_x143_s hJ) (z_nil)))) _ H0 C S) z_x301_ok
/-- $Sets.findTerm 101 3 52 153 -/
def z_x302 : zQ := ((108, 20, 2, 2), [(0, ([(0, 3), (0, 4)], [(1, 0, 1), (1, 0, 4)], [], [some (.inl (.ref 101)), some (.inl (.ref 3)), some (.inl (.ref 52)), some (.inr (0, 0)), some (.inr (1, 0)), some (.inl (.ref 153)), none, none, none, none, none, none]), [(0, 0, 1), (0, 0, 0)])], [([], [], [], [some (.inl (.int 0))]),
  ([], [], [], [some (.inl (.int (-2)))]),
  ([(1, 12676)], [(1, 0, 60)], [], [some (.inl (.int (-9)))])], [12674, 12675, 12676, 12928, 13056, 13184, 13312, 13440, 13568, 13696, 13824, 13952, 14080, 14208, 14336, 14464, 14592, 14720, 14848, 14976, 14977, 19328, 19329])
set_option maxRecDepth 100000 in
theorem z_x302_ok : z_chk z_D s_P (z_clq z_D z_x302.2.2.2 s_P [z_x301, z_x300, z_x299, z_x13]) 3000 z_x302 = true := z_chk2_ok (by decide +kernel)
theorem z_x302_s {J : aH → Prop} (hJ : z_jl J) {X : aX} : z_spec J z_D s_P X z_x302 := z_ctx_ok (z_hlen hJ) (fun H0 C S => z_clq_ok (z_hlen hJ) (z_cons (z_x301_s hJ) (z_cons (z_x300_s hJ) (z_cons (z_x299_s hJ) (z_cons (z_x13_s hJ) (z_nil))))) _ H0 C S) z_x302_ok
/-- $Sets.findProduct 101 3 52 154 -/
def z_x303 : zQ := ((110, 17, 2, 2), [(0, ([(0, 3), (0, 4)], [(1, (-1), 40), (1, (-2147483648), 2147483647)], [], [some (.inl (.ref 101)), some (.inl (.ref 3)), some (.inl (.ref 52)), some (.inr (0, 0)), some (.inr (1, 0)), some (.inl (.ref 154)), none]), [(0, 0, 2), (0, 0, 0)]),
  (15, ([(0, 3), (0, 4), (0, 6), (1, 12676)], [(1, (-1), 40), (1, (-2147483648), 2147483647), (1, 0, 40), (1, (-1), 40)], [(0, 3, 0), (2, 3, 1)], [some (.inl (.ref 101)), some (.inl (.ref 3)), some (.inl (.ref 52)), some (.inr (0, 0)), some (.inr (1, 0)), some (.inl (.ref 154)), some (.inr (2, 0))]), [(0, 0, 1), (1, 2, 40)])], [([(1, 12676)], [(1, 0, 60)], [], [some (.inl (.int (-9)))]),
  ([(1, 12676)], [(1, 0, 60)], [], [some (.inl (.int 0))])], [12674, 12676, 12928, 13056, 13184, 13312, 13440, 13568, 13696, 13824, 13952, 14080, 14208, 14336, 14464, 14592, 14720, 14848, 14976, 14977, 19456, 19457])
set_option maxRecDepth 100000 in
theorem z_x303_ok : z_chk z_D s_P (z_clq z_D z_x303.2.2.2 s_P [z_x296, z_x172, z_x167, z_x143, z_x24]) 3000 z_x303 = true := z_chk2_ok (by decide +kernel)
theorem z_x303_s {J : aH → Prop} (hJ : z_jl J) {X : aX} : z_spec J z_D s_P X z_x303 := z_ctx_ok (z_hlen hJ) (fun H0 C S => z_clq_ok (z_hlen hJ) (z_cons (z_x296_s hJ) (z_cons (z_x172_s hJ) (z_cons (z_x167_s hJ) (z_cons (z_x143_s hJ) (z_cons (z_x24_s hJ) (z_nil)))))) _ H0 C S) z_x303_ok
/-- $Sets.findTerm 101 3 52 154 -/
def z_x304 : zQ := ((108, 20, 2, 2), [(0, ([(0, 3), (0, 4)], [(1, 1, 1), (1, 0, 4)], [], [some (.inl (.ref 101)), some (.inl (.ref 3)), some (.inl (.ref 52)), some (.inr (0, 0)), some (.inr (1, 0)), some (.inl (.ref 154)), none, none, none, none, none, none]), [(0, 0, 1), (0, 0, 0)])], [([], [], [], [some (.inl (.int 0))]),
  ([], [], [], [some (.inl (.int (-2)))]),
  ([(1, 12676)], [(1, 0, 60)], [], [some (.inl (.int (-9)))])], [12674, 12675, 12676, 12928, 13056, 13184, 13312, 13440, 13568, 13696, 13824, 13952, 14080, 14208, 14336, 14464, 14592, 14720, 14848, 14976, 14977, 19456, 19457])
set_option maxRecDepth 100000 in
theorem z_x304_ok : z_chk z_D s_P (z_clq z_D z_x304.2.2.2 s_P [z_x303, z_x301, z_x299, z_x24]) 3000 z_x304 = true := z_chk2_ok (by decide +kernel)
theorem z_x304_s {J : aH → Prop} (hJ : z_jl J) {X : aX} : z_spec J z_D s_P X z_x304 := z_ctx_ok (z_hlen hJ) (fun H0 C S => z_clq_ok (z_hlen hJ) (z_cons (z_x303_s hJ) (z_cons (z_x301_s hJ) (z_cons (z_x299_s hJ) (z_cons (z_x24_s hJ) (z_nil))))) _ H0 C S) z_x304_ok
/-- $Sets.findBeside 101 3 52 -/
def z_x305 : zQ := ((94, 20, 0, 2), [(0, ([], [], [], [some (.inl (.ref 101)), some (.inl (.ref 3)), some (.inl (.ref 52)), none, none, none, none, none, none, none, none]), [(0, 0, 1), (0, 0, 0)])], [([], [], [], [some (.inl (.int (-2)))]),
  ([(1, 12674), (1, 12676)], [(1, 0, 15), (1, 0, 60)], [], [some (.inl (.int 0))]),
  ([(1, 12674), (1, 12676)], [(1, 0, 15), (1, 0, 60)], [], [some (.inl (.int 1))])], [12674, 12675, 12676, 12928, 13056, 13184, 13312, 13440, 13568, 13696, 13824, 13952, 14080, 14208, 14336, 14464, 14592, 14720, 14848])
set_option maxRecDepth 100000 in
theorem z_x305_ok : z_chk z_D s_P (z_clq z_D z_x305.2.2.2 s_P [z_x301, z_x299, z_x298, z_x148, z_x143]) 3000 z_x305 = true := z_chk2_ok (by decide +kernel)
theorem z_x305_s {J : aH → Prop} (hJ : z_jl J) {X : aX} : z_spec J z_D s_P X z_x305 := z_ctx_ok (z_hlen hJ) (fun H0 C S => z_clq_ok (z_hlen hJ) (z_cons (z_x301_s hJ) (z_cons (z_x299_s hJ) (z_cons (z_x298_s hJ) (z_cons (z_x148_s hJ) (z_cons (z_x143_s hJ) (z_nil)))))) _ H0 C S) z_x305_ok
/-- .judge 2 52 -/
def z_x306 : zQ := ((93, 21, 1, 2), [(0, ([(0, 2)], [(1, 0, 4)], [], [some (.inl (.ref 2)), some (.inl (.ref 52)), some (.inr (0, 0)), none]), [(0, 0, 1), (0, 0, 0)])], [([(1, 143)], [(1, 1, 1)], [], [some (.inl (.int 1))]),
  ([(1, 143)], [(1, 1, 1)], [], [some (.inl (.int 0))]),
  ([(1, 143)], [(1, 1, 1)], [], [some (.inl (.int (-2)))]),
  ([(1, 143), (1, 12676)], [(1, 1, 1), (1, 0, 60)], [], [some (.inl (.int (-9)))])], [143, 1152, 12674, 12675, 12676, 12928, 13056, 13184, 13312, 13440, 13568, 13696, 13824, 13952, 14080, 14208, 14336, 14464, 14592, 14720, 14848, 14976, 14977, 19328, 19329, 19456, 19457])
set_option maxRecDepth 100000 in
theorem z_x306_ok : z_chk z_D s_P (z_clq z_D z_x306.2.2.2 s_P [z_x305, z_x304, z_x302, z_x27, z_x9]) 3000 z_x306 = true := z_chk2_ok (by decide +kernel)
theorem z_x306_s {J : aH → Prop} (hJ : z_jl J) {X : aX} : z_spec J z_D s_P X z_x306 := z_ctx_ok (z_hlen hJ) (fun H0 C S => z_clq_ok (z_hlen hJ) (z_cons (z_x305_s hJ) (z_cons (z_x304_s hJ) (z_cons (z_x302_s hJ) (z_cons (z_x27_s hJ) (z_cons (z_x9_s hJ) (z_nil)))))) _ H0 C S) z_x306_ok
/-- $Sets.readThing 101 59 (5,) -/
def z_x307 : zQ := ((100, 1, 4, 2), [(0, ([(0, 2), (1, 7297), (1, 12676), (1, 12674)], [(1, 5, 5), (1, 5, 40), (1, 5, 40), (1, 0, 16)], [], [some (.inl (.ref 101)), some (.inl (.ref 59)), some (.inr (0, 0)), none]), [(0, 0, 2), (0, 0, 0)]),
  (2, ([(0, 2), (0, 3), (1, 7297), (1, 12674), (1, 12676), (2, 3), (2, 2), (2, 1)], [(1, 5, 5), (1, 0, 1), (1, 5, 40), (1, 0, 16), (1, 5, 40), (1, 0, 16), (1, 5, 40), (1, 5, 40)], [(5, 3, 0), (6, 4, 0), (3, 5, 0), (2, 7, 0), (7, 2, 0)], [some (.inl (.ref 101)), some (.inl (.ref 59)), some (.inr (0, 0)), some (.inr (1, 0))]), [(0, 0, 1), (1, 4, 40)])], [([(2, 1), (1, 12674), (1, 12676), (2, 3), (2, 2)], [(1, 5, 40), (1, 0, 16), (1, 6, 41), (1, 0, 16), (1, 5, 40)], [(3, 1, 0), (4, 2, (-1)), (1, 3, 1)], [])], [12674, 12676, 12928, 13056, 13184, 13312, 13440, 13568, 13696, 13824, 13952, 14080, 14208, 14336, 14464, 14592, 14720, 14848])
set_option maxRecDepth 100000 in
theorem z_x307_ok : z_chk z_D s_P (z_clq z_D z_x307.2.2.2 s_P [z_x146, z_x145]) 3000 z_x307 = true := z_chk2_ok (by decide +kernel)
theorem z_x307_s {J : aH → Prop} (hJ : z_jl J) {X : aX} : z_spec J z_D s_P X z_x307 := z_ctx_ok (z_hlen hJ) (fun H0 C S => z_clq_ok (z_hlen hJ) (z_cons (z_x146_s hJ) (z_cons (z_x145_s hJ) (z_nil))) _ H0 C S) z_x307_ok
/-- $Sets.readAll 101 59 (5,) -/
def z_x308 : zQ := ((99, 2, 3, 2), [(0, ([(0, 2), (1, 7297), (1, 12676)], [(1, 5, 5), (1, 5, 40), (1, 5, 40)], [], [some (.inl (.ref 101)), some (.inl (.ref 59)), some (.inr (0, 0))]), [(0, 0, 2), (0, 0, 0)]),
  (6, ([(0, 2), (1, 7297), (1, 12676), (2, 2), (2, 1)], [(1, 5, 5), (1, 5, 40), (1, 6, 41), (1, 5, 40), (1, 5, 40)], [(3, 2, (-1)), (1, 4, 0), (4, 1, 0)], [some (.inl (.ref 101)), some (.inl (.ref 59)), some (.inr (0, 0))]), [(0, 0, 1), (1, 2, 40)])], [([(2, 1), (1, 12676), (2, 2)], [(1, 5, 40), (1, 6, 41), (1, 5, 40)], [(2, 1, (-1))], [])], [12674, 12676, 12928, 13056, 13184, 13312, 13440, 13568, 13696, 13824, 13952, 14080, 14208, 14336, 14464, 14592, 14720, 14848])
set_option maxRecDepth 100000 in
theorem z_x308_ok : z_chk z_D s_P (z_clq z_D z_x308.2.2.2 s_P [z_x307, z_x148]) 3000 z_x308 = true := z_chk2_ok (by decide +kernel)
theorem z_x308_s {J : aH → Prop} (hJ : z_jl J) {X : aX} : z_spec J z_D s_P X z_x308 := z_ctx_ok (z_hlen hJ) (fun H0 C S => z_clq_ok (z_hlen hJ) (z_cons (z_x307_s hJ) (z_cons (z_x148_s hJ) (z_nil))) _ H0 C S) z_x308_ok
/-- $Sets.readAny 101 59 (5,) -/
def z_x309 : zQ := ((98, 3, 3, 2), [(0, ([(0, 2), (1, 7297), (1, 12676)], [(1, 5, 5), (1, 5, 40), (1, 5, 40)], [], [some (.inl (.ref 101)), some (.inl (.ref 59)), some (.inr (0, 0))]), [(0, 0, 2), (0, 0, 0)]),
  (6, ([(0, 2), (1, 7297), (1, 12676), (2, 2), (2, 1)], [(1, 5, 5), (1, 5, 40), (1, 6, 41), (1, 5, 40), (1, 5, 40)], [(3, 2, (-1)), (1, 4, 0), (4, 1, 0)], [some (.inl (.ref 101)), some (.inl (.ref 59)), some (.inr (0, 0))]), [(0, 0, 1), (1, 2, 40)])], [([(2, 1), (1, 12676), (2, 2)], [(1, 5, 40), (1, 6, 41), (1, 5, 40)], [(2, 1, (-1))], [])], [12674, 12676, 12928, 13056, 13184, 13312, 13440, 13568, 13696, 13824, 13952, 14080, 14208, 14336, 14464, 14592, 14720, 14848])
set_option maxRecDepth 100000 in
theorem z_x309_ok : z_chk z_D s_P (z_clq z_D z_x309.2.2.2 s_P [z_x308, z_x144]) 3000 z_x309 = true := z_chk2_ok (by decide +kernel)
theorem z_x309_s {J : aH → Prop} (hJ : z_jl J) {X : aX} : z_spec J z_D s_P X z_x309 := z_ctx_ok (z_hlen hJ) (fun H0 C S => z_clq_ok (z_hlen hJ) (z_cons (z_x308_s hJ) (z_cons (z_x144_s hJ) (z_nil))) _ H0 C S) z_x309_ok
/-- $Sets.readThing 101 59 (4,) -/
def z_x310 : zQ := ((100, 4, 4, 2), [(0, ([(0, 2), (1, 7297), (1, 12676), (1, 12674)], [(1, 4, 4), (1, 4, 40), (1, 4, 40), (1, 0, 16)], [], [some (.inl (.ref 101)), some (.inl (.ref 59)), some (.inr (0, 0)), none]), [(0, 0, 2), (0, 0, 0)]),
  (2, ([(0, 2), (0, 3), (1, 7297), (1, 12674), (1, 12676), (2, 3), (2, 2), (2, 1)], [(1, 4, 4), (1, 0, 1), (1, 4, 40), (1, 0, 16), (1, 4, 40), (1, 0, 16), (1, 4, 40), (1, 4, 40)], [(5, 3, 0), (6, 4, 0), (3, 5, 0), (2, 7, 0), (7, 2, 0)], [some (.inl (.ref 101)), some (.inl (.ref 59)), some (.inr (0, 0)), some (.inr (1, 0))]), [(0, 0, 1), (1, 4, 40)])], [([(2, 1), (1, 12676), (2, 2)], [(1, 4, 40), (1, 5, 42), (1, 4, 40)], [(2, 1, (-1))], [])], [12674, 12676, 12928, 13056, 13184, 13312, 13440, 13568, 13696, 13824, 13952, 14080, 14208, 14336, 14464, 14592, 14720, 14848])
set_option maxRecDepth 100000 in
theorem z_x310_ok : z_chk z_D s_P (z_clq z_D z_x310.2.2.2 s_P [z_x309, z_x146, z_x145]) 3000 z_x310 = true := z_chk2_ok (by decide +kernel)
theorem z_x310_s {J : aH → Prop} (hJ : z_jl J) {X : aX} : z_spec J z_D s_P X z_x310 := z_ctx_ok (z_hlen hJ) (fun H0 C S => z_clq_ok (z_hlen hJ) (z_cons (z_x309_s hJ) (z_cons (z_x146_s hJ) (z_cons (z_x145_s hJ) (z_nil)))) _ H0 C S) z_x310_ok
/-- $Sets.readAll 101 59 (4,) -/
def z_x311 : zQ := ((99, 5, 3, 2), [(0, ([(0, 2), (1, 7297), (1, 12676)], [(1, 4, 4), (1, 4, 40), (1, 4, 40)], [], [some (.inl (.ref 101)), some (.inl (.ref 59)), some (.inr (0, 0))]), [(0, 0, 2), (0, 0, 0)]),
  (6, ([(0, 2), (1, 7297), (1, 12676), (2, 2), (2, 1)], [(1, 4, 4), (1, 4, 40), (1, 5, 42), (1, 4, 40), (1, 4, 40)], [(3, 2, (-1)), (1, 4, 0), (4, 1, 0)], [some (.inl (.ref 101)), some (.inl (.ref 59)), some (.inr (0, 0))]), [(0, 0, 1), (1, 2, 40)])], [([(2, 1), (1, 12676), (2, 2)], [(1, 4, 40), (1, 5, 42), (1, 4, 40)], [(2, 1, (-1))], [])], [12674, 12676, 12928, 13056, 13184, 13312, 13440, 13568, 13696, 13824, 13952, 14080, 14208, 14336, 14464, 14592, 14720, 14848])
set_option maxRecDepth 100000 in
theorem z_x311_ok : z_chk z_D s_P (z_clq z_D z_x311.2.2.2 s_P [z_x310, z_x148]) 3000 z_x311 = true := z_chk2_ok (by decide +kernel)
theorem z_x311_s {J : aH → Prop} (hJ : z_jl J) {X : aX} : z_spec J z_D s_P X z_x311 := z_ctx_ok (z_hlen hJ) (fun H0 C S => z_clq_ok (z_hlen hJ) (z_cons (z_x310_s hJ) (z_cons (z_x148_s hJ) (z_nil))) _ H0 C S) z_x311_ok
/-- $Sets.readAny 101 59 (4,) -/
def z_x312 : zQ := ((98, 6, 3, 2), [(0, ([(0, 2), (1, 7297), (1, 12676)], [(1, 4, 4), (1, 4, 40), (1, 4, 40)], [], [some (.inl (.ref 101)), some (.inl (.ref 59)), some (.inr (0, 0))]), [(0, 0, 2), (0, 0, 0)]),
  (6, ([(0, 2), (1, 7297), (1, 12676), (2, 2), (2, 1)], [(1, 4, 4), (1, 4, 40), (1, 5, 42), (1, 4, 40), (1, 4, 40)], [(3, 2, (-1)), (1, 4, 0), (4, 1, 0)], [some (.inl (.ref 101)), some (.inl (.ref 59)), some (.inr (0, 0))]), [(0, 0, 1), (1, 2, 40)])], [([(2, 1), (1, 12676), (2, 2)], [(1, 4, 40), (1, 5, 42), (1, 4, 40)], [(2, 1, (-1))], [])], [12674, 12676, 12928, 13056, 13184, 13312, 13440, 13568, 13696, 13824, 13952, 14080, 14208, 14336, 14464, 14592, 14720, 14848])
set_option maxRecDepth 100000 in
theorem z_x312_ok : z_chk z_D s_P (z_clq z_D z_x312.2.2.2 s_P [z_x311, z_x144]) 3000 z_x312 = true := z_chk2_ok (by decide +kernel)
theorem z_x312_s {J : aH → Prop} (hJ : z_jl J) {X : aX} : z_spec J z_D s_P X z_x312 := z_ctx_ok (z_hlen hJ) (fun H0 C S => z_clq_ok (z_hlen hJ) (z_cons (z_x311_s hJ) (z_cons (z_x144_s hJ) (z_nil))) _ H0 C S) z_x312_ok
/-- $Sets.readThing 101 59 (3,) -/
def z_x313 : zQ := ((100, 7, 4, 2), [(0, ([(0, 2), (1, 7297), (1, 12676), (1, 12674)], [(1, 3, 3), (1, 3, 40), (1, 3, 40), (1, 0, 16)], [], [some (.inl (.ref 101)), some (.inl (.ref 59)), some (.inr (0, 0)), none]), [(0, 0, 2), (0, 0, 0)]),
  (2, ([(0, 2), (0, 3), (1, 7297), (1, 12674), (1, 12676), (2, 3), (2, 2), (2, 1)], [(1, 3, 3), (1, 0, 1), (1, 3, 40), (1, 0, 16), (1, 3, 40), (1, 0, 16), (1, 3, 40), (1, 3, 40)], [(5, 3, 0), (6, 4, 0), (3, 5, 0), (2, 7, 0), (7, 2, 0)], [some (.inl (.ref 101)), some (.inl (.ref 59)), some (.inr (0, 0)), some (.inr (1, 0))]), [(0, 0, 1), (1, 4, 40)])], [([(2, 1), (1, 12676), (2, 2)], [(1, 3, 40), (1, 4, 47), (1, 3, 40)], [(2, 1, (-1))], [])], [12674, 12676, 12928, 13056, 13184, 13312, 13440, 13568, 13696, 13824, 13952, 14080, 14208, 14336, 14464, 14592, 14720, 14848])
set_option maxRecDepth 100000 in
theorem z_x313_ok : z_chk z_D s_P (z_clq z_D z_x313.2.2.2 s_P [z_x312, z_x146, z_x145]) 3000 z_x313 = true := z_chk2_ok (by decide +kernel)
theorem z_x313_s {J : aH → Prop} (hJ : z_jl J) {X : aX} : z_spec J z_D s_P X z_x313 := z_ctx_ok (z_hlen hJ) (fun H0 C S => z_clq_ok (z_hlen hJ) (z_cons (z_x312_s hJ) (z_cons (z_x146_s hJ) (z_cons (z_x145_s hJ) (z_nil)))) _ H0 C S) z_x313_ok
/-- $Sets.readAll 101 59 (3,) -/
def z_x314 : zQ := ((99, 8, 3, 2), [(0, ([(0, 2), (1, 7297), (1, 12676)], [(1, 3, 3), (1, 3, 40), (1, 3, 40)], [], [some (.inl (.ref 101)), some (.inl (.ref 59)), some (.inr (0, 0))]), [(0, 0, 2), (0, 0, 0)]),
  (6, ([(0, 2), (1, 7297), (1, 12676), (2, 2), (2, 1)], [(1, 3, 3), (1, 3, 40), (1, 4, 47), (1, 3, 40), (1, 3, 40)], [(3, 2, (-1)), (1, 4, 0), (4, 1, 0)], [some (.inl (.ref 101)), some (.inl (.ref 59)), some (.inr (0, 0))]), [(0, 0, 1), (1, 2, 40)])], [([(2, 1), (1, 12676), (2, 2)], [(1, 3, 40), (1, 4, 47), (1, 3, 40)], [(2, 1, (-1))], [])], [12674, 12676, 12928, 13056, 13184, 13312, 13440, 13568, 13696, 13824, 13952, 14080, 14208, 14336, 14464, 14592, 14720, 14848])
set_option maxRecDepth 100000 in
theorem z_x314_ok : z_chk z_D s_P (z_clq z_D z_x314.2.2.2 s_P [z_x313, z_x148]) 3000 z_x314 = true := z_chk2_ok (by decide +kernel)
theorem z_x314_s {J : aH → Prop} (hJ : z_jl J) {X : aX} : z_spec J z_D s_P X z_x314 := z_ctx_ok (z_hlen hJ) (fun H0 C S => z_clq_ok (z_hlen hJ) (z_cons (z_x313_s hJ) (z_cons (z_x148_s hJ) (z_nil))) _ H0 C S) z_x314_ok
/-- $Sets.readAny 101 59 (3,) -/
def z_x315 : zQ := ((98, 9, 3, 2), [(0, ([(0, 2), (1, 7297), (1, 12676)], [(1, 3, 3), (1, 3, 40), (1, 3, 40)], [], [some (.inl (.ref 101)), some (.inl (.ref 59)), some (.inr (0, 0))]), [(0, 0, 2), (0, 0, 0)]),
  (6, ([(0, 2), (1, 7297), (1, 12676), (2, 2), (2, 1)], [(1, 3, 3), (1, 3, 40), (1, 4, 47), (1, 3, 40), (1, 3, 40)], [(3, 2, (-1)), (1, 4, 0), (4, 1, 0)], [some (.inl (.ref 101)), some (.inl (.ref 59)), some (.inr (0, 0))]), [(0, 0, 1), (1, 2, 40)])], [([(2, 1), (1, 12676), (2, 2)], [(1, 3, 40), (1, 4, 47), (1, 3, 40)], [(2, 1, (-1))], [])], [12674, 12676, 12928, 13056, 13184, 13312, 13440, 13568, 13696, 13824, 13952, 14080, 14208, 14336, 14464, 14592, 14720, 14848])
set_option maxRecDepth 100000 in
theorem z_x315_ok : z_chk z_D s_P (z_clq z_D z_x315.2.2.2 s_P [z_x314, z_x144]) 3000 z_x315 = true := z_chk2_ok (by decide +kernel)
theorem z_x315_s {J : aH → Prop} (hJ : z_jl J) {X : aX} : z_spec J z_D s_P X z_x315 := z_ctx_ok (z_hlen hJ) (fun H0 C S => z_clq_ok (z_hlen hJ) (z_cons (z_x314_s hJ) (z_cons (z_x144_s hJ) (z_nil))) _ H0 C S) z_x315_ok
/-- $Sets.readThing 101 59 (2,) -/
def z_x316 : zQ := ((100, 10, 4, 2), [(0, ([(0, 2), (1, 7297), (1, 12676), (1, 12674)], [(1, 2, 2), (1, 2, 40), (1, 2, 40), (1, 0, 16)], [], [some (.inl (.ref 101)), some (.inl (.ref 59)), some (.inr (0, 0)), none]), [(0, 0, 2), (0, 0, 0)]),
  (2, ([(0, 2), (0, 3), (1, 7297), (1, 12674), (1, 12676), (2, 3), (2, 2), (2, 1)], [(1, 2, 2), (1, 0, 1), (1, 2, 40), (1, 0, 16), (1, 2, 40), (1, 0, 16), (1, 2, 40), (1, 2, 40)], [(1, 4, (-2)), (5, 3, 0), (6, 4, 0), (3, 5, 0), (2, 7, 0), (7, 2, 0)], [some (.inl (.ref 101)), some (.inl (.ref 59)), some (.inr (0, 0)), some (.inr (1, 0))]), [(0, 0, 1), (1, 4, 40)])], [([(2, 1), (1, 12676), (2, 2)], [(1, 2, 40), (1, 3, 48), (1, 2, 40)], [(2, 1, (-1))], [])], [12674, 12676, 12928, 13056, 13184, 13312, 13440, 13568, 13696, 13824, 13952, 14080, 14208, 14336, 14464, 14592, 14720, 14848])
set_option maxRecDepth 100000 in
theorem z_x316_ok : z_chk z_D s_P (z_clq z_D z_x316.2.2.2 s_P [z_x315, z_x146, z_x145]) 3000 z_x316 = true := z_chk2_ok (by decide +kernel)
theorem z_x316_s {J : aH → Prop} (hJ : z_jl J) {X : aX} : z_spec J z_D s_P X z_x316 := z_ctx_ok (z_hlen hJ) (fun H0 C S => z_clq_ok (z_hlen hJ) (z_cons (z_x315_s hJ) (z_cons (z_x146_s hJ) (z_cons (z_x145_s hJ) (z_nil)))) _ H0 C S) z_x316_ok
/-- $Sets.readAll 101 59 (2,) -/
def z_x317 : zQ := ((99, 11, 3, 2), [(0, ([(0, 2), (1, 7297), (1, 12676)], [(1, 2, 2), (1, 2, 40), (1, 2, 40)], [], [some (.inl (.ref 101)), some (.inl (.ref 59)), some (.inr (0, 0))]), [(0, 0, 2), (0, 0, 0)]),
  (6, ([(0, 2), (1, 7297), (1, 12676), (2, 2), (2, 1)], [(1, 2, 2), (1, 2, 40), (1, 3, 48), (1, 2, 40), (1, 2, 40)], [(3, 2, (-1)), (1, 4, 0), (4, 1, 0)], [some (.inl (.ref 101)), some (.inl (.ref 59)), some (.inr (0, 0))]), [(0, 0, 1), (1, 2, 40)])], [([(2, 1), (1, 12676), (2, 2)], [(1, 2, 40), (1, 3, 48), (1, 2, 40)], [(2, 1, (-1))], [])], [12674, 12676, 12928, 13056, 13184, 13312, 13440, 13568, 13696, 13824, 13952, 14080, 14208, 14336, 14464, 14592, 14720, 14848])
set_option maxRecDepth 100000 in
theorem z_x317_ok : z_chk z_D s_P (z_clq z_D z_x317.2.2.2 s_P [z_x316, z_x148]) 3000 z_x317 = true := z_chk2_ok (by decide +kernel)
theorem z_x317_s {J : aH → Prop} (hJ : z_jl J) {X : aX} : z_spec J z_D s_P X z_x317 := z_ctx_ok (z_hlen hJ) (fun H0 C S => z_clq_ok (z_hlen hJ) (z_cons (z_x316_s hJ) (z_cons (z_x148_s hJ) (z_nil))) _ H0 C S) z_x317_ok
/-- $Sets.readAny 101 59 (2,) -/
def z_x318 : zQ := ((98, 12, 3, 2), [(0, ([(0, 2), (1, 7297), (1, 12676)], [(1, 2, 2), (1, 2, 40), (1, 2, 40)], [], [some (.inl (.ref 101)), some (.inl (.ref 59)), some (.inr (0, 0))]), [(0, 0, 2), (0, 0, 0)]),
  (6, ([(0, 2), (1, 7297), (1, 12676), (2, 2), (2, 1)], [(1, 2, 2), (1, 2, 40), (1, 3, 48), (1, 2, 40), (1, 2, 40)], [(3, 2, (-1)), (1, 4, 0), (4, 1, 0)], [some (.inl (.ref 101)), some (.inl (.ref 59)), some (.inr (0, 0))]), [(0, 0, 1), (1, 2, 40)])], [([(2, 1), (1, 12676), (2, 2)], [(1, 2, 40), (1, 3, 48), (1, 2, 40)], [(2, 1, (-1))], [])], [12674, 12676, 12928, 13056, 13184, 13312, 13440, 13568, 13696, 13824, 13952, 14080, 14208, 14336, 14464, 14592, 14720, 14848])
set_option maxRecDepth 100000 in
theorem z_x318_ok : z_chk z_D s_P (z_clq z_D z_x318.2.2.2 s_P [z_x317, z_x144]) 3000 z_x318 = true := z_chk2_ok (by decide +kernel)
theorem z_x318_s {J : aH → Prop} (hJ : z_jl J) {X : aX} : z_spec J z_D s_P X z_x318 := z_ctx_ok (z_hlen hJ) (fun H0 C S => z_clq_ok (z_hlen hJ) (z_cons (z_x317_s hJ) (z_cons (z_x144_s hJ) (z_nil))) _ H0 C S) z_x318_ok
/-- $Sets.readThing 101 59 (1,) -/
def z_x319 : zQ := ((100, 13, 4, 2), [(0, ([(0, 2), (1, 7297), (1, 12676), (1, 12674)], [(1, 1, 1), (1, 1, 40), (1, 1, 40), (1, 0, 16)], [], [some (.inl (.ref 101)), some (.inl (.ref 59)), some (.inr (0, 0)), none]), [(0, 0, 2), (0, 0, 0)]),
  (2, ([(0, 2), (0, 3), (1, 7297), (1, 12674), (1, 12676), (2, 3), (2, 2), (2, 1)], [(1, 1, 1), (1, 0, 1), (1, 1, 40), (1, 0, 16), (1, 1, 40), (1, 0, 16), (1, 1, 40), (1, 1, 40)], [(1, 4, (-1)), (5, 3, 0), (6, 4, 0), (3, 5, 0), (2, 7, 0), (7, 2, 0)], [some (.inl (.ref 101)), some (.inl (.ref 59)), some (.inr (0, 0)), some (.inr (1, 0))]), [(0, 0, 1), (1, 4, 40)])], [([(2, 1), (1, 12676), (2, 2)], [(1, 1, 40), (1, 2, 59), (1, 1, 40)], [(2, 1, (-1))], [])], [12674, 12676, 12928, 13056, 13184, 13312, 13440, 13568, 13696, 13824, 13952, 14080, 14208, 14336, 14464, 14592, 14720, 14848])
set_option maxRecDepth 100000 in
theorem z_x319_ok : z_chk z_D s_P (z_clq z_D z_x319.2.2.2 s_P [z_x318, z_x146, z_x145]) 3000 z_x319 = true := z_chk2_ok (by decide +kernel)
theorem z_x319_s {J : aH → Prop} (hJ : z_jl J) {X : aX} : z_spec J z_D s_P X z_x319 := z_ctx_ok (z_hlen hJ) (fun H0 C S => z_clq_ok (z_hlen hJ) (z_cons (z_x318_s hJ) (z_cons (z_x146_s hJ) (z_cons (z_x145_s hJ) (z_nil)))) _ H0 C S) z_x319_ok
/-- $Sets.readAll 101 59 (1,) -/
def z_x320 : zQ := ((99, 14, 3, 2), [(0, ([(0, 2), (1, 7297), (1, 12676)], [(1, 1, 1), (1, 1, 40), (1, 1, 40)], [], [some (.inl (.ref 101)), some (.inl (.ref 59)), some (.inr (0, 0))]), [(0, 0, 2), (0, 0, 0)]),
  (6, ([(0, 2), (1, 7297), (1, 12676), (2, 2), (2, 1)], [(1, 1, 1), (1, 1, 40), (1, 2, 59), (1, 1, 40), (1, 1, 40)], [(3, 2, (-1)), (1, 4, 0), (4, 1, 0)], [some (.inl (.ref 101)), some (.inl (.ref 59)), some (.inr (0, 0))]), [(0, 0, 1), (1, 2, 40)])], [([(2, 1), (1, 12676), (2, 2)], [(1, 1, 40), (1, 2, 59), (1, 1, 40)], [(2, 1, (-1))], [])], [12674, 12676, 12928, 13056, 13184, 13312, 13440, 13568, 13696, 13824, 13952, 14080, 14208, 14336, 14464, 14592, 14720, 14848])
set_option maxRecDepth 100000 in
theorem z_x320_ok : z_chk z_D s_P (z_clq z_D z_x320.2.2.2 s_P [z_x319, z_x148]) 3000 z_x320 = true := z_chk2_ok (by decide +kernel)
theorem z_x320_s {J : aH → Prop} (hJ : z_jl J) {X : aX} : z_spec J z_D s_P X z_x320 := z_ctx_ok (z_hlen hJ) (fun H0 C S => z_clq_ok (z_hlen hJ) (z_cons (z_x319_s hJ) (z_cons (z_x148_s hJ) (z_nil))) _ H0 C S) z_x320_ok
/-- $Sets.readAny 101 59 (1,) -/
def z_x321 : zQ := ((98, 15, 3, 2), [(0, ([(0, 2), (1, 7297), (1, 12676)], [(1, 1, 1), (1, 1, 40), (1, 1, 40)], [], [some (.inl (.ref 101)), some (.inl (.ref 59)), some (.inr (0, 0))]), [(0, 0, 2), (0, 0, 0)]),
  (6, ([(0, 2), (1, 7297), (1, 12676), (2, 2), (2, 1)], [(1, 1, 1), (1, 1, 40), (1, 2, 59), (1, 1, 40), (1, 1, 40)], [(3, 2, (-1)), (1, 4, 0), (4, 1, 0)], [some (.inl (.ref 101)), some (.inl (.ref 59)), some (.inr (0, 0))]), [(0, 0, 1), (1, 2, 40)])], [([(2, 1), (1, 12676), (2, 2)], [(1, 1, 40), (1, 2, 59), (1, 1, 40)], [(2, 1, (-1))], [])], [12674, 12676, 12928, 13056, 13184, 13312, 13440, 13568, 13696, 13824, 13952, 14080, 14208, 14336, 14464, 14592, 14720, 14848])
set_option maxRecDepth 100000 in
theorem z_x321_ok : z_chk z_D s_P (z_clq z_D z_x321.2.2.2 s_P [z_x320, z_x144]) 3000 z_x321 = true := z_chk2_ok (by decide +kernel)
theorem z_x321_s {J : aH → Prop} (hJ : z_jl J) {X : aX} : z_spec J z_D s_P X z_x321 := z_ctx_ok (z_hlen hJ) (fun H0 C S => z_clq_ok (z_hlen hJ) (z_cons (z_x320_s hJ) (z_cons (z_x144_s hJ) (z_nil))) _ H0 C S) z_x321_ok
/-- $Sets.readThing 101 59 (0,) -/
def z_x322 : zQ := ((100, 16, 3, 2), [(0, ([(0, 2), (1, 12676), (1, 12674)], [(1, 0, 0), (1, (-1), 40), (1, 0, 16)], [], [some (.inl (.ref 101)), some (.inl (.ref 59)), some (.inr (0, 0)), none]), [(0, 0, 2), (0, 0, 0)]),
  (2, ([(0, 2), (0, 3), (1, 12674), (1, 12676), (2, 2), (2, 1)], [(1, 0, 0), (1, 0, 1), (1, 0, 16), (1, (-1), 40), (1, 0, 16), (1, (-1), 40)], [(1, 3, 1), (4, 2, 0), (5, 3, 0), (2, 4, 0)], [some (.inl (.ref 101)), some (.inl (.ref 59)), some (.inr (0, 0)), some (.inr (1, 0))]), [(0, 0, 1), (1, 3, 40)])], [([(1, 12676), (2, 1)], [(1, 0, 60), (1, (-1), 40)], [(1, 0, (-1))], [])], [12674, 12676, 12928, 13056, 13184, 13312, 13440, 13568, 13696, 13824, 13952, 14080, 14208, 14336, 14464, 14592, 14720, 14848])
set_option maxRecDepth 100000 in
theorem z_x322_ok : z_chk z_D s_P (z_clq z_D z_x322.2.2.2 s_P [z_x321, z_x146, z_x145]) 3000 z_x322 = true := z_chk2_ok (by decide +kernel)
theorem z_x322_s {J : aH → Prop} (hJ : z_jl J) {X : aX} : z_spec J z_D s_P X z_x322 := z_ctx_ok (z_hlen hJ) (fun H0 C S => z_clq_ok (z_hlen hJ) (z_cons (z_x321_s hJ) (z_cons (z_x146_s hJ) (z_cons (z_x145_s hJ) (z_nil)))) _ H0 C S) z_x322_ok
/-- $Sets.readAll 101 59 (0,) -/
def z_x323 : zQ := ((99, 17, 2, 2), [(0, ([(0, 2), (1, 12676)], [(1, 0, 0), (1, (-1), 40)], [], [some (.inl (.ref 101)), some (.inl (.ref 59)), some (.inr (0, 0))]), [(0, 0, 2), (0, 0, 0)]),
  (6, ([(0, 2), (1, 12676), (2, 1)], [(1, 0, 0), (1, 0, 60), (1, (-1), 40)], [(2, 1, (-1))], [some (.inl (.ref 101)), some (.inl (.ref 59)), some (.inr (0, 0))]), [(0, 0, 1), (1, 1, 40)])], [([(1, 12676), (2, 1)], [(1, 0, 60), (1, (-1), 40)], [(1, 0, (-1))], [])], [12674, 12676, 12928, 13056, 13184, 13312, 13440, 13568, 13696, 13824, 13952, 14080, 14208, 14336, 14464, 14592, 14720, 14848])
set_option maxRecDepth 100000 in
theorem z_x323_ok : z_chk z_D s_P (z_clq z_D z_x323.2.2.2 s_P [z_x322, z_x148]) 3000 z_x323 = true := z_chk2_ok (by decide +kernel)
theorem z_x323_s {J : aH → Prop} (hJ : z_jl J) {X : aX} : z_spec J z_D s_P X z_x323 := z_ctx_ok (z_hlen hJ) (fun H0 C S => z_clq_ok (z_hlen hJ) (z_cons (z_x322_s hJ) (z_cons (z_x148_s hJ) (z_nil))) _ H0 C S) z_x323_ok
/-- $Sets.readAny 101 59 (0,) -/
def z_x324 : zQ := ((98, 18, 2, 2), [(0, ([(0, 2), (1, 12676)], [(1, 0, 0), (1, (-1), 40)], [], [some (.inl (.ref 101)), some (.inl (.ref 59)), some (.inr (0, 0))]), [(0, 0, 2), (0, 0, 0)]),
  (6, ([(0, 2), (1, 12676), (2, 1)], [(1, 0, 0), (1, 0, 60), (1, (-1), 40)], [(2, 1, (-1))], [some (.inl (.ref 101)), some (.inl (.ref 59)), some (.inr (0, 0))]), [(0, 0, 1), (1, 1, 40)])], [([(1, 12676), (2, 1)], [(1, 0, 60), (1, (-1), 40)], [(1, 0, (-1))], [])], [12674, 12676, 12928, 13056, 13184, 13312, 13440, 13568, 13696, 13824, 13952, 14080, 14208, 14336, 14464, 14592, 14720, 14848])
set_option maxRecDepth 100000 in
theorem z_x324_ok : z_chk z_D s_P (z_clq z_D z_x324.2.2.2 s_P [z_x323, z_x144]) 3000 z_x324 = true := z_chk2_ok (by decide +kernel)
theorem z_x324_s {J : aH → Prop} (hJ : z_jl J) {X : aX} : z_spec J z_D s_P X z_x324 := z_ctx_ok (z_hlen hJ) (fun H0 C S => z_clq_ok (z_hlen hJ) (z_cons (z_x323_s hJ) (z_cons (z_x144_s hJ) (z_nil))) _ H0 C S) z_x324_ok
/-- $Sets.weighEvent 101 3 59 -/
def z_x325 : zQ := ((107, 19, 1, 2), [(0, ([(0, 3)], [(1, (-1), 40)], [], [some (.inl (.ref 101)), some (.inl (.ref 3)), some (.inl (.ref 59)), some (.inr (0, 0))]), [(0, 0, 1), (0, 0, 0)])], [([(0, 0), (1, 12676)], [(1, (-2147483648), 2147483647), (1, 0, 60)], [], [some (.inr (0, 0))])], [12674, 12676, 12928, 13056, 13184, 13312, 13440, 13568, 13696, 13824, 13952, 14080, 14208, 14336, 14464, 14592, 14720, 14848])
set_option maxRecDepth 100000 in
theorem z_x325_ok : z_chk z_D s_P (z_clq z_D z_x325.2.2.2 s_P [z_x324, z_x143]) 3000 z_x325 = true := z_chk2_ok (by decide +kernel)
theorem z_x325_s {J : aH → Prop} (hJ : z_jl J) {X : aX} : z_spec J z_D s_P X z_x325 := z_ctx_ok (z_hlen hJ) (fun H0 C S => z_clq_ok (z_hlen hJ) (z_cons (z_x324_s hJ) (z_cons (z_x143_s hJ) (z_nil))) _ H0 C S) z_x325_ok
/-- $Sets.findProduct 101 3 59 153 -/
def z_x326 : zQ := ((110, 17, 2, 2), [(0, ([(0, 3), (0, 4)], [(1, (-1), 40), (1, (-2147483648), 2147483647)], [], [some (.inl (.ref 101)), some (.inl (.ref 3)), some (.inl (.ref 59)), some (.inr (0, 0)), some (.inr (1, 0)), some (.inl (.ref 153)), none]), [(0, 0, 2), (0, 0, 0)]),
  (15, ([(0, 3), (0, 4), (0, 6), (1, 12676)], [(1, (-1), 40), (1, (-2147483648), 2147483647), (1, 0, 40), (1, (-1), 40)], [(0, 3, 0), (2, 3, 1)], [some (.inl (.ref 101)), some (.inl (.ref 3)), some (.inl (.ref 59)), some (.inr (0, 0)), some (.inr (1, 0)), some (.inl (.ref 153)), some (.inr (2, 0))]), [(0, 0, 1), (1, 2, 40)])], [([(1, 12676)], [(1, 0, 60)], [], [some (.inl (.int (-9)))]),
  ([(1, 12676)], [(1, 0, 60)], [], [some (.inl (.int 0))])], [12674, 12676, 12928, 13056, 13184, 13312, 13440, 13568, 13696, 13824, 13952, 14080, 14208, 14336, 14464, 14592, 14720, 14848, 14976, 14977, 19328, 19329])
set_option maxRecDepth 100000 in
theorem z_x326_ok : z_chk z_D s_P (z_clq z_D z_x326.2.2.2 s_P [z_x322, z_x167, z_x143, z_x38, z_x13]) 3000 z_x326 = true := z_chk2_ok (by decide +kernel)
theorem z_x326_s {J : aH → Prop} (hJ : z_jl J) {X : aX} : z_spec J z_D s_P X z_x326 := z_ctx_ok (z_hlen hJ) (fun H0 C S => z_clq_ok (z_hlen hJ) (z_cons (z_x322_s hJ) (z_cons (z_x167_s hJ) (z_cons (z_x143_s hJ) (z_cons (z_x38_s hJ) (z_cons (z_x13_s hJ) (z_nil)))))) _ H0 C S) z_x326_ok
/-- $Sets.weighGiven 101 3 59 -/
def z_x327 : zQ := ((95, 19, 1, 2), [(0, ([(0, 3)], [(1, (-1), 40)], [], [some (.inl (.ref 101)), some (.inl (.ref 3)), some (.inl (.ref 59)), some (.inr (0, 0))]), [(0, 0, 1), (0, 0, 0)])], [([(0, 0)], [(1, (-2147483648), 2147483647)], [], [some (.inr (0, 0))])], [12674, 12675, 12676, 12928, 13056, 13184, 13312, 13440, 13568, 13696, 13824, 13952, 14080, 14208, 14336, 14464, 14592, 14720, 14848])
set_option maxRecDepth 100000 in
theorem z_x327_ok : z_chk z_D s_P (z_clq z_D z_x327.2.2.2 s_P [z_x324, z_x169, z_x143]) 3000 z_x327 = true := z_chk2_ok (by decide +kernel)
theorem z_x327_s {J : aH → Prop} (hJ : z_jl J) {X : aX} : z_spec J z_D s_P X z_x327 := z_ctx_ok (z_hlen hJ) (fun H0 C S => z_clq_ok (z_hlen hJ) (z_cons (z_x324_s hJ) (z_cons (z_x169_s hJ) (z_cons (z_x143_s hJ) (z_nil)))) _ H0 C S) z_x327_ok
/-- $Sets.findTerm 101 3 59 153 -/
def z_x328 : zQ := ((108, 20, 2, 2), [(0, ([(0, 3), (0, 4)], [(1, 0, 1), (1, 0, 4)], [], [some (.inl (.ref 101)), some (.inl (.ref 3)), some (.inl (.ref 59)), some (.inr (0, 0)), some (.inr (1, 0)), some (.inl (.ref 153)), none, none, none, none, none, none]), [(0, 0, 1), (0, 0, 0)])], [([], [], [], [some (.inl (.int 0))]),
  ([], [], [], [some (.inl (.int (-2)))]),
  ([(1, 12676)], [(1, 0, 60)], [], [some (.inl (.int (-9)))])], [12674, 12675, 12676, 12928, 13056, 13184, 13312, 13440, 13568, 13696, 13824, 13952, 14080, 14208, 14336, 14464, 14592, 14720, 14848, 14976, 14977, 19328, 19329])
set_option maxRecDepth 100000 in
theorem z_x328_ok : z_chk z_D s_P (z_clq z_D z_x328.2.2.2 s_P [z_x327, z_x326, z_x325, z_x13]) 3000 z_x328 = true := z_chk2_ok (by decide +kernel)
theorem z_x328_s {J : aH → Prop} (hJ : z_jl J) {X : aX} : z_spec J z_D s_P X z_x328 := z_ctx_ok (z_hlen hJ) (fun H0 C S => z_clq_ok (z_hlen hJ) (z_cons (z_x327_s hJ) (z_cons (z_x326_s hJ) (z_cons (z_x325_s hJ) (z_cons (z_x13_s hJ) (z_nil))))) _ H0 C S) z_x328_ok
/-- $Sets.findProduct 101 3 59 154 -/
def z_x329 : zQ := ((110, 17, 2, 2), [(0, ([(0, 3), (0, 4)], [(1, (-1), 40), (1, (-2147483648), 2147483647)], [], [some (.inl (.ref 101)), some (.inl (.ref 3)), some (.inl (.ref 59)), some (.inr (0, 0)), some (.inr (1, 0)), some (.inl (.ref 154)), none]), [(0, 0, 2), (0, 0, 0)]),
  (15, ([(0, 3), (0, 4), (0, 6), (1, 12676)], [(1, (-1), 40), (1, (-2147483648), 2147483647), (1, 0, 40), (1, (-1), 40)], [(0, 3, 0), (2, 3, 1)], [some (.inl (.ref 101)), some (.inl (.ref 3)), some (.inl (.ref 59)), some (.inr (0, 0)), some (.inr (1, 0)), some (.inl (.ref 154)), some (.inr (2, 0))]), [(0, 0, 1), (1, 2, 40)])], [([(1, 12676)], [(1, 0, 60)], [], [some (.inl (.int (-9)))]),
  ([(1, 12676)], [(1, 0, 60)], [], [some (.inl (.int 0))])], [12674, 12676, 12928, 13056, 13184, 13312, 13440, 13568, 13696, 13824, 13952, 14080, 14208, 14336, 14464, 14592, 14720, 14848, 14976, 14977, 19456, 19457])
set_option maxRecDepth 100000 in
theorem z_x329_ok : z_chk z_D s_P (z_clq z_D z_x329.2.2.2 s_P [z_x322, z_x172, z_x167, z_x143, z_x24]) 3000 z_x329 = true := z_chk2_ok (by decide +kernel)
theorem z_x329_s {J : aH → Prop} (hJ : z_jl J) {X : aX} : z_spec J z_D s_P X z_x329 := z_ctx_ok (z_hlen hJ) (fun H0 C S => z_clq_ok (z_hlen hJ) (z_cons (z_x322_s hJ) (z_cons (z_x172_s hJ) (z_cons (z_x167_s hJ) (z_cons (z_x143_s hJ) (z_cons (z_x24_s hJ) (z_nil)))))) _ H0 C S) z_x329_ok
/-- $Sets.findTerm 101 3 59 154 -/
def z_x330 : zQ := ((108, 20, 2, 2), [(0, ([(0, 3), (0, 4)], [(1, 1, 1), (1, 0, 4)], [], [some (.inl (.ref 101)), some (.inl (.ref 3)), some (.inl (.ref 59)), some (.inr (0, 0)), some (.inr (1, 0)), some (.inl (.ref 154)), none, none, none, none, none, none]), [(0, 0, 1), (0, 0, 0)])], [([], [], [], [some (.inl (.int 0))]),
  ([], [], [], [some (.inl (.int (-2)))]),
  ([(1, 12676)], [(1, 0, 60)], [], [some (.inl (.int (-9)))])], [12674, 12675, 12676, 12928, 13056, 13184, 13312, 13440, 13568, 13696, 13824, 13952, 14080, 14208, 14336, 14464, 14592, 14720, 14848, 14976, 14977, 19456, 19457])
set_option maxRecDepth 100000 in
theorem z_x330_ok : z_chk z_D s_P (z_clq z_D z_x330.2.2.2 s_P [z_x329, z_x327, z_x325, z_x24]) 3000 z_x330 = true := z_chk2_ok (by decide +kernel)
theorem z_x330_s {J : aH → Prop} (hJ : z_jl J) {X : aX} : z_spec J z_D s_P X z_x330 := z_ctx_ok (z_hlen hJ) (fun H0 C S => z_clq_ok (z_hlen hJ) (z_cons (z_x329_s hJ) (z_cons (z_x327_s hJ) (z_cons (z_x325_s hJ) (z_cons (z_x24_s hJ) (z_nil))))) _ H0 C S) z_x330_ok
/-- $Sets.findBeside 101 3 59 -/
def z_x331 : zQ := ((94, 20, 0, 2), [(0, ([], [], [], [some (.inl (.ref 101)), some (.inl (.ref 3)), some (.inl (.ref 59)), none, none, none, none, none, none, none, none]), [(0, 0, 1), (0, 0, 0)])], [([], [], [], [some (.inl (.int (-2)))]),
  ([(1, 12674), (1, 12676)], [(1, 0, 15), (1, 0, 60)], [], [some (.inl (.int 0))]),
  ([(1, 12674), (1, 12676)], [(1, 0, 15), (1, 0, 60)], [], [some (.inl (.int 1))])], [12674, 12675, 12676, 12928, 13056, 13184, 13312, 13440, 13568, 13696, 13824, 13952, 14080, 14208, 14336, 14464, 14592, 14720, 14848])
set_option maxRecDepth 100000 in
theorem z_x331_ok : z_chk z_D s_P (z_clq z_D z_x331.2.2.2 s_P [z_x327, z_x325, z_x324, z_x148, z_x143]) 3000 z_x331 = true := z_chk2_ok (by decide +kernel)
theorem z_x331_s {J : aH → Prop} (hJ : z_jl J) {X : aX} : z_spec J z_D s_P X z_x331 := z_ctx_ok (z_hlen hJ) (fun H0 C S => z_clq_ok (z_hlen hJ) (z_cons (z_x327_s hJ) (z_cons (z_x325_s hJ) (z_cons (z_x324_s hJ) (z_cons (z_x148_s hJ) (z_cons (z_x143_s hJ) (z_nil)))))) _ H0 C S) z_x331_ok
/-- .judge 2 59 -/
def z_x332 : zQ := ((93, 21, 1, 2), [(0, ([(0, 2)], [(1, 0, 4)], [], [some (.inl (.ref 2)), some (.inl (.ref 59)), some (.inr (0, 0)), none]), [(0, 0, 1), (0, 0, 0)])], [([(1, 143)], [(1, 1, 1)], [], [some (.inl (.int 1))]),
  ([(1, 143)], [(1, 1, 1)], [], [some (.inl (.int 0))]),
  ([(1, 143)], [(1, 1, 1)], [], [some (.inl (.int (-2)))]),
  ([(1, 143), (1, 12676)], [(1, 1, 1), (1, 0, 60)], [], [some (.inl (.int (-9)))])], [143, 1152, 12674, 12675, 12676, 12928, 13056, 13184, 13312, 13440, 13568, 13696, 13824, 13952, 14080, 14208, 14336, 14464, 14592, 14720, 14848, 14976, 14977, 19328, 19329, 19456, 19457])
set_option maxRecDepth 100000 in
theorem z_x332_ok : z_chk z_D s_P (z_clq z_D z_x332.2.2.2 s_P [z_x331, z_x330, z_x328, z_x27, z_x9]) 3000 z_x332 = true := z_chk2_ok (by decide +kernel)
theorem z_x332_s {J : aH → Prop} (hJ : z_jl J) {X : aX} : z_spec J z_D s_P X z_x332 := z_ctx_ok (z_hlen hJ) (fun H0 C S => z_clq_ok (z_hlen hJ) (z_cons (z_x331_s hJ) (z_cons (z_x330_s hJ) (z_cons (z_x328_s hJ) (z_cons (z_x27_s hJ) (z_cons (z_x9_s hJ) (z_nil)))))) _ H0 C S) z_x332_ok
/-- $Sets.readThing 101 66 (5,) -/
def z_x333 : zQ := ((100, 1, 4, 2), [(0, ([(0, 2), (1, 8193), (1, 12676), (1, 12674)], [(1, 5, 5), (1, 5, 40), (1, 5, 40), (1, 0, 16)], [], [some (.inl (.ref 101)), some (.inl (.ref 66)), some (.inr (0, 0)), none]), [(0, 0, 2), (0, 0, 0)]),
  (2, ([(0, 2), (0, 3), (1, 8193), (1, 12674), (1, 12676), (2, 3), (2, 2), (2, 1)], [(1, 5, 5), (1, 0, 1), (1, 5, 40), (1, 0, 16), (1, 5, 40), (1, 0, 16), (1, 5, 40), (1, 5, 40)], [(5, 3, 0), (6, 4, 0), (3, 5, 0), (2, 7, 0), (7, 2, 0)], [some (.inl (.ref 101)), some (.inl (.ref 66)), some (.inr (0, 0)), some (.inr (1, 0))]), [(0, 0, 1), (1, 4, 40)])], [([(2, 1), (1, 12674), (1, 12676), (2, 3), (2, 2)], [(1, 5, 40), (1, 0, 16), (1, 6, 41), (1, 0, 16), (1, 5, 40)], [(3, 1, 0), (4, 2, (-1)), (1, 3, 1)], [])], [12674, 12676, 12928, 13056, 13184, 13312, 13440, 13568, 13696, 13824, 13952, 14080, 14208, 14336, 14464, 14592, 14720, 14848])
set_option maxRecDepth 100000 in
theorem z_x333_ok : z_chk z_D s_P (z_clq z_D z_x333.2.2.2 s_P [z_x146, z_x145]) 3000 z_x333 = true := z_chk2_ok (by decide +kernel)
theorem z_x333_s {J : aH → Prop} (hJ : z_jl J) {X : aX} : z_spec J z_D s_P X z_x333 := z_ctx_ok (z_hlen hJ) (fun H0 C S => z_clq_ok (z_hlen hJ) (z_cons (z_x146_s hJ) (z_cons (z_x145_s hJ) (z_nil))) _ H0 C S) z_x333_ok
/-- $Sets.readAll 101 66 (5,) -/
def z_x334 : zQ := ((99, 2, 3, 2), [(0, ([(0, 2), (1, 8193), (1, 12676)], [(1, 5, 5), (1, 5, 40), (1, 5, 40)], [], [some (.inl (.ref 101)), some (.inl (.ref 66)), some (.inr (0, 0))]), [(0, 0, 2), (0, 0, 0)]),
  (6, ([(0, 2), (1, 8193), (1, 12676), (2, 2), (2, 1)], [(1, 5, 5), (1, 5, 40), (1, 6, 41), (1, 5, 40), (1, 5, 40)], [(3, 2, (-1)), (1, 4, 0), (4, 1, 0)], [some (.inl (.ref 101)), some (.inl (.ref 66)), some (.inr (0, 0))]), [(0, 0, 1), (1, 2, 40)])], [([(2, 1), (1, 12676), (2, 2)], [(1, 5, 40), (1, 6, 41), (1, 5, 40)], [(2, 1, (-1))], [])], [12674, 12676, 12928, 13056, 13184, 13312, 13440, 13568, 13696, 13824, 13952, 14080, 14208, 14336, 14464, 14592, 14720, 14848])
set_option maxRecDepth 100000 in
theorem z_x334_ok : z_chk z_D s_P (z_clq z_D z_x334.2.2.2 s_P [z_x333, z_x148]) 3000 z_x334 = true := z_chk2_ok (by decide +kernel)
theorem z_x334_s {J : aH → Prop} (hJ : z_jl J) {X : aX} : z_spec J z_D s_P X z_x334 := z_ctx_ok (z_hlen hJ) (fun H0 C S => z_clq_ok (z_hlen hJ) (z_cons (z_x333_s hJ) (z_cons (z_x148_s hJ) (z_nil))) _ H0 C S) z_x334_ok
/-- $Sets.readAny 101 66 (5,) -/
def z_x335 : zQ := ((98, 3, 3, 2), [(0, ([(0, 2), (1, 8193), (1, 12676)], [(1, 5, 5), (1, 5, 40), (1, 5, 40)], [], [some (.inl (.ref 101)), some (.inl (.ref 66)), some (.inr (0, 0))]), [(0, 0, 2), (0, 0, 0)]),
  (6, ([(0, 2), (1, 8193), (1, 12676), (2, 2), (2, 1)], [(1, 5, 5), (1, 5, 40), (1, 6, 41), (1, 5, 40), (1, 5, 40)], [(3, 2, (-1)), (1, 4, 0), (4, 1, 0)], [some (.inl (.ref 101)), some (.inl (.ref 66)), some (.inr (0, 0))]), [(0, 0, 1), (1, 2, 40)])], [([(2, 1), (1, 12676), (2, 2)], [(1, 5, 40), (1, 6, 41), (1, 5, 40)], [(2, 1, (-1))], [])], [12674, 12676, 12928, 13056, 13184, 13312, 13440, 13568, 13696, 13824, 13952, 14080, 14208, 14336, 14464, 14592, 14720, 14848])
set_option maxRecDepth 100000 in
theorem z_x335_ok : z_chk z_D s_P (z_clq z_D z_x335.2.2.2 s_P [z_x334, z_x144]) 3000 z_x335 = true := z_chk2_ok (by decide +kernel)
theorem z_x335_s {J : aH → Prop} (hJ : z_jl J) {X : aX} : z_spec J z_D s_P X z_x335 := z_ctx_ok (z_hlen hJ) (fun H0 C S => z_clq_ok (z_hlen hJ) (z_cons (z_x334_s hJ) (z_cons (z_x144_s hJ) (z_nil))) _ H0 C S) z_x335_ok
/-- $Sets.readThing 101 66 (4,) -/
def z_x336 : zQ := ((100, 4, 4, 2), [(0, ([(0, 2), (1, 8193), (1, 12676), (1, 12674)], [(1, 4, 4), (1, 4, 40), (1, 4, 40), (1, 0, 16)], [], [some (.inl (.ref 101)), some (.inl (.ref 66)), some (.inr (0, 0)), none]), [(0, 0, 2), (0, 0, 0)]),
  (2, ([(0, 2), (0, 3), (1, 8193), (1, 12674), (1, 12676), (2, 3), (2, 2), (2, 1)], [(1, 4, 4), (1, 0, 1), (1, 4, 40), (1, 0, 16), (1, 4, 40), (1, 0, 16), (1, 4, 40), (1, 4, 40)], [(5, 3, 0), (6, 4, 0), (3, 5, 0), (2, 7, 0), (7, 2, 0)], [some (.inl (.ref 101)), some (.inl (.ref 66)), some (.inr (0, 0)), some (.inr (1, 0))]), [(0, 0, 1), (1, 4, 40)])], [([(2, 1), (1, 12676), (2, 2)], [(1, 4, 40), (1, 5, 42), (1, 4, 40)], [(2, 1, (-1))], [])], [12674, 12676, 12928, 13056, 13184, 13312, 13440, 13568, 13696, 13824, 13952, 14080, 14208, 14336, 14464, 14592, 14720, 14848])
set_option maxRecDepth 100000 in
theorem z_x336_ok : z_chk z_D s_P (z_clq z_D z_x336.2.2.2 s_P [z_x335, z_x146, z_x145]) 3000 z_x336 = true := z_chk2_ok (by decide +kernel)
theorem z_x336_s {J : aH → Prop} (hJ : z_jl J) {X : aX} : z_spec J z_D s_P X z_x336 := z_ctx_ok (z_hlen hJ) (fun H0 C S => z_clq_ok (z_hlen hJ) (z_cons (z_x335_s hJ) (z_cons (z_x146_s hJ) (z_cons (z_x145_s hJ) (z_nil)))) _ H0 C S) z_x336_ok
/-- $Sets.readAll 101 66 (4,) -/
def z_x337 : zQ := ((99, 5, 3, 2), [(0, ([(0, 2), (1, 8193), (1, 12676)], [(1, 4, 4), (1, 4, 40), (1, 4, 40)], [], [some (.inl (.ref 101)), some (.inl (.ref 66)), some (.inr (0, 0))]), [(0, 0, 2), (0, 0, 0)]),
  (6, ([(0, 2), (1, 8193), (1, 12676), (2, 2), (2, 1)], [(1, 4, 4), (1, 4, 40), (1, 5, 42), (1, 4, 40), (1, 4, 40)], [(3, 2, (-1)), (1, 4, 0), (4, 1, 0)], [some (.inl (.ref 101)), some (.inl (.ref 66)), some (.inr (0, 0))]), [(0, 0, 1), (1, 2, 40)])], [([(2, 1), (1, 12676), (2, 2)], [(1, 4, 40), (1, 5, 42), (1, 4, 40)], [(2, 1, (-1))], [])], [12674, 12676, 12928, 13056, 13184, 13312, 13440, 13568, 13696, 13824, 13952, 14080, 14208, 14336, 14464, 14592, 14720, 14848])
set_option maxRecDepth 100000 in
theorem z_x337_ok : z_chk z_D s_P (z_clq z_D z_x337.2.2.2 s_P [z_x336, z_x148]) 3000 z_x337 = true := z_chk2_ok (by decide +kernel)
theorem z_x337_s {J : aH → Prop} (hJ : z_jl J) {X : aX} : z_spec J z_D s_P X z_x337 := z_ctx_ok (z_hlen hJ) (fun H0 C S => z_clq_ok (z_hlen hJ) (z_cons (z_x336_s hJ) (z_cons (z_x148_s hJ) (z_nil))) _ H0 C S) z_x337_ok
/-- $Sets.readAny 101 66 (4,) -/
def z_x338 : zQ := ((98, 6, 3, 2), [(0, ([(0, 2), (1, 8193), (1, 12676)], [(1, 4, 4), (1, 4, 40), (1, 4, 40)], [], [some (.inl (.ref 101)), some (.inl (.ref 66)), some (.inr (0, 0))]), [(0, 0, 2), (0, 0, 0)]),
  (6, ([(0, 2), (1, 8193), (1, 12676), (2, 2), (2, 1)], [(1, 4, 4), (1, 4, 40), (1, 5, 42), (1, 4, 40), (1, 4, 40)], [(3, 2, (-1)), (1, 4, 0), (4, 1, 0)], [some (.inl (.ref 101)), some (.inl (.ref 66)), some (.inr (0, 0))]), [(0, 0, 1), (1, 2, 40)])], [([(2, 1), (1, 12676), (2, 2)], [(1, 4, 40), (1, 5, 42), (1, 4, 40)], [(2, 1, (-1))], [])], [12674, 12676, 12928, 13056, 13184, 13312, 13440, 13568, 13696, 13824, 13952, 14080, 14208, 14336, 14464, 14592, 14720, 14848])
set_option maxRecDepth 100000 in
theorem z_x338_ok : z_chk z_D s_P (z_clq z_D z_x338.2.2.2 s_P [z_x337, z_x144]) 3000 z_x338 = true := z_chk2_ok (by decide +kernel)
theorem z_x338_s {J : aH → Prop} (hJ : z_jl J) {X : aX} : z_spec J z_D s_P X z_x338 := z_ctx_ok (z_hlen hJ) (fun H0 C S => z_clq_ok (z_hlen hJ) (z_cons (z_x337_s hJ) (z_cons (z_x144_s hJ) (z_nil))) _ H0 C S) z_x338_ok
/-- $Sets.readThing 101 66 (3,) -/
def z_x339 : zQ := ((100, 7, 4, 2), [(0, ([(0, 2), (1, 8193), (1, 12676), (1, 12674)], [(1, 3, 3), (1, 3, 40), (1, 3, 40), (1, 0, 16)], [], [some (.inl (.ref 101)), some (.inl (.ref 66)), some (.inr (0, 0)), none]), [(0, 0, 2), (0, 0, 0)]),
  (2, ([(0, 2), (0, 3), (1, 8193), (1, 12674), (1, 12676), (2, 3), (2, 2), (2, 1)], [(1, 3, 3), (1, 0, 1), (1, 3, 40), (1, 0, 16), (1, 3, 40), (1, 0, 16), (1, 3, 40), (1, 3, 40)], [(5, 3, 0), (6, 4, 0), (3, 5, 0), (2, 7, 0), (7, 2, 0)], [some (.inl (.ref 101)), some (.inl (.ref 66)), some (.inr (0, 0)), some (.inr (1, 0))]), [(0, 0, 1), (1, 4, 40)])], [([(2, 1), (1, 12676), (2, 2)], [(1, 3, 40), (1, 4, 47), (1, 3, 40)], [(2, 1, (-1))], [])], [12674, 12676, 12928, 13056, 13184, 13312, 13440, 13568, 13696, 13824, 13952, 14080, 14208, 14336, 14464, 14592, 14720, 14848])
set_option maxRecDepth 100000 in
theorem z_x339_ok : z_chk z_D s_P (z_clq z_D z_x339.2.2.2 s_P [z_x338, z_x146, z_x145]) 3000 z_x339 = true := z_chk2_ok (by decide +kernel)
theorem z_x339_s {J : aH → Prop} (hJ : z_jl J) {X : aX} : z_spec J z_D s_P X z_x339 := z_ctx_ok (z_hlen hJ) (fun H0 C S => z_clq_ok (z_hlen hJ) (z_cons (z_x338_s hJ) (z_cons (z_x146_s hJ) (z_cons (z_x145_s hJ) (z_nil)))) _ H0 C S) z_x339_ok
/-- $Sets.readAll 101 66 (3,) -/
def z_x340 : zQ := ((99, 8, 3, 2), [(0, ([(0, 2), (1, 8193), (1, 12676)], [(1, 3, 3), (1, 3, 40), (1, 3, 40)], [], [some (.inl (.ref 101)), some (.inl (.ref 66)), some (.inr (0, 0))]), [(0, 0, 2), (0, 0, 0)]),
  (6, ([(0, 2), (1, 8193), (1, 12676), (2, 2), (2, 1)], [(1, 3, 3), (1, 3, 40), (1, 4, 47), (1, 3, 40), (1, 3, 40)], [(3, 2, (-1)), (1, 4, 0), (4, 1, 0)], [some (.inl (.ref 101)), some (.inl (.ref 66)), some (.inr (0, 0))]), [(0, 0, 1), (1, 2, 40)])], [([(2, 1), (1, 12676), (2, 2)], [(1, 3, 40), (1, 4, 47), (1, 3, 40)], [(2, 1, (-1))], [])], [12674, 12676, 12928, 13056, 13184, 13312, 13440, 13568, 13696, 13824, 13952, 14080, 14208, 14336, 14464, 14592, 14720, 14848])
set_option maxRecDepth 100000 in
theorem z_x340_ok : z_chk z_D s_P (z_clq z_D z_x340.2.2.2 s_P [z_x339, z_x148]) 3000 z_x340 = true := z_chk2_ok (by decide +kernel)
theorem z_x340_s {J : aH → Prop} (hJ : z_jl J) {X : aX} : z_spec J z_D s_P X z_x340 := z_ctx_ok (z_hlen hJ) (fun H0 C S => z_clq_ok (z_hlen hJ) (z_cons (z_x339_s hJ) (z_cons (z_x148_s hJ) (z_nil))) _ H0 C S) z_x340_ok
/-- $Sets.readAny 101 66 (3,) -/
def z_x341 : zQ := ((98, 9, 3, 2), [(0, ([(0, 2), (1, 8193), (1, 12676)], [(1, 3, 3), (1, 3, 40), (1, 3, 40)], [], [some (.inl (.ref 101)), some (.inl (.ref 66)), some (.inr (0, 0))]), [(0, 0, 2), (0, 0, 0)]),
  (6, ([(0, 2), (1, 8193), (1, 12676), (2, 2), (2, 1)], [(1, 3, 3), (1, 3, 40), (1, 4, 47), (1, 3, 40), (1, 3, 40)], [(3, 2, (-1)), (1, 4, 0), (4, 1, 0)], [some (.inl (.ref 101)), some (.inl (.ref 66)), some (.inr (0, 0))]), [(0, 0, 1), (1, 2, 40)])], [([(2, 1), (1, 12676), (2, 2)], [(1, 3, 40), (1, 4, 47), (1, 3, 40)], [(2, 1, (-1))], [])], [12674, 12676, 12928, 13056, 13184, 13312, 13440, 13568, 13696, 13824, 13952, 14080, 14208, 14336, 14464, 14592, 14720, 14848])
set_option maxRecDepth 100000 in
theorem z_x341_ok : z_chk z_D s_P (z_clq z_D z_x341.2.2.2 s_P [z_x340, z_x144]) 3000 z_x341 = true := z_chk2_ok (by decide +kernel)
theorem z_x341_s {J : aH → Prop} (hJ : z_jl J) {X : aX} : z_spec J z_D s_P X z_x341 := z_ctx_ok (z_hlen hJ) (fun H0 C S => z_clq_ok (z_hlen hJ) (z_cons (z_x340_s hJ) (z_cons (z_x144_s hJ) (z_nil))) _ H0 C S) z_x341_ok
/-- $Sets.readThing 101 66 (2,) -/
def z_x342 : zQ := ((100, 10, 4, 2), [(0, ([(0, 2), (1, 8193), (1, 12676), (1, 12674)], [(1, 2, 2), (1, 2, 40), (1, 2, 40), (1, 0, 16)], [], [some (.inl (.ref 101)), some (.inl (.ref 66)), some (.inr (0, 0)), none]), [(0, 0, 2), (0, 0, 0)]),
  (2, ([(0, 2), (0, 3), (1, 8193), (1, 12674), (1, 12676), (2, 3), (2, 2), (2, 1)], [(1, 2, 2), (1, 0, 1), (1, 2, 40), (1, 0, 16), (1, 2, 40), (1, 0, 16), (1, 2, 40), (1, 2, 40)], [(1, 4, (-2)), (5, 3, 0), (6, 4, 0), (3, 5, 0), (2, 7, 0), (7, 2, 0)], [some (.inl (.ref 101)), some (.inl (.ref 66)), some (.inr (0, 0)), some (.inr (1, 0))]), [(0, 0, 1), (1, 4, 40)])], [([(2, 1), (1, 12676), (2, 2)], [(1, 2, 40), (1, 3, 48), (1, 2, 40)], [(2, 1, (-1))], [])], [12674, 12676, 12928, 13056, 13184, 13312, 13440, 13568, 13696, 13824, 13952, 14080, 14208, 14336, 14464, 14592, 14720, 14848])
set_option maxRecDepth 100000 in
theorem z_x342_ok : z_chk z_D s_P (z_clq z_D z_x342.2.2.2 s_P [z_x341, z_x146, z_x145]) 3000 z_x342 = true := z_chk2_ok (by decide +kernel)
theorem z_x342_s {J : aH → Prop} (hJ : z_jl J) {X : aX} : z_spec J z_D s_P X z_x342 := z_ctx_ok (z_hlen hJ) (fun H0 C S => z_clq_ok (z_hlen hJ) (z_cons (z_x341_s hJ) (z_cons (z_x146_s hJ) (z_cons (z_x145_s hJ) (z_nil)))) _ H0 C S) z_x342_ok
/-- $Sets.readAll 101 66 (2,) -/
def z_x343 : zQ := ((99, 11, 3, 2), [(0, ([(0, 2), (1, 8193), (1, 12676)], [(1, 2, 2), (1, 2, 40), (1, 2, 40)], [], [some (.inl (.ref 101)), some (.inl (.ref 66)), some (.inr (0, 0))]), [(0, 0, 2), (0, 0, 0)]),
  (6, ([(0, 2), (1, 8193), (1, 12676), (2, 2), (2, 1)], [(1, 2, 2), (1, 2, 40), (1, 3, 48), (1, 2, 40), (1, 2, 40)], [(3, 2, (-1)), (1, 4, 0), (4, 1, 0)], [some (.inl (.ref 101)), some (.inl (.ref 66)), some (.inr (0, 0))]), [(0, 0, 1), (1, 2, 40)])], [([(2, 1), (1, 12676), (2, 2)], [(1, 2, 40), (1, 3, 48), (1, 2, 40)], [(2, 1, (-1))], [])], [12674, 12676, 12928, 13056, 13184, 13312, 13440, 13568, 13696, 13824, 13952, 14080, 14208, 14336, 14464, 14592, 14720, 14848])
set_option maxRecDepth 100000 in
theorem z_x343_ok : z_chk z_D s_P (z_clq z_D z_x343.2.2.2 s_P [z_x342, z_x148]) 3000 z_x343 = true := z_chk2_ok (by decide +kernel)
theorem z_x343_s {J : aH → Prop} (hJ : z_jl J) {X : aX} : z_spec J z_D s_P X z_x343 := z_ctx_ok (z_hlen hJ) (fun H0 C S => z_clq_ok (z_hlen hJ) (z_cons (z_x342_s hJ) (z_cons (z_x148_s hJ) (z_nil))) _ H0 C S) z_x343_ok
/-- $Sets.readAny 101 66 (2,) -/
def z_x344 : zQ := ((98, 12, 3, 2), [(0, ([(0, 2), (1, 8193), (1, 12676)], [(1, 2, 2), (1, 2, 40), (1, 2, 40)], [], [some (.inl (.ref 101)), some (.inl (.ref 66)), some (.inr (0, 0))]), [(0, 0, 2), (0, 0, 0)]),
  (6, ([(0, 2), (1, 8193), (1, 12676), (2, 2), (2, 1)], [(1, 2, 2), (1, 2, 40), (1, 3, 48), (1, 2, 40), (1, 2, 40)], [(3, 2, (-1)), (1, 4, 0), (4, 1, 0)], [some (.inl (.ref 101)), some (.inl (.ref 66)), some (.inr (0, 0))]), [(0, 0, 1), (1, 2, 40)])], [([(2, 1), (1, 12676), (2, 2)], [(1, 2, 40), (1, 3, 48), (1, 2, 40)], [(2, 1, (-1))], [])], [12674, 12676, 12928, 13056, 13184, 13312, 13440, 13568, 13696, 13824, 13952, 14080, 14208, 14336, 14464, 14592, 14720, 14848])
set_option maxRecDepth 100000 in
theorem z_x344_ok : z_chk z_D s_P (z_clq z_D z_x344.2.2.2 s_P [z_x343, z_x144]) 3000 z_x344 = true := z_chk2_ok (by decide +kernel)
theorem z_x344_s {J : aH → Prop} (hJ : z_jl J) {X : aX} : z_spec J z_D s_P X z_x344 := z_ctx_ok (z_hlen hJ) (fun H0 C S => z_clq_ok (z_hlen hJ) (z_cons (z_x343_s hJ) (z_cons (z_x144_s hJ) (z_nil))) _ H0 C S) z_x344_ok
/-- $Sets.readThing 101 66 (1,) -/
def z_x345 : zQ := ((100, 13, 4, 2), [(0, ([(0, 2), (1, 8193), (1, 12676), (1, 12674)], [(1, 1, 1), (1, 1, 40), (1, 1, 40), (1, 0, 16)], [], [some (.inl (.ref 101)), some (.inl (.ref 66)), some (.inr (0, 0)), none]), [(0, 0, 2), (0, 0, 0)]),
  (2, ([(0, 2), (0, 3), (1, 8193), (1, 12674), (1, 12676), (2, 3), (2, 2), (2, 1)], [(1, 1, 1), (1, 0, 1), (1, 1, 40), (1, 0, 16), (1, 1, 40), (1, 0, 16), (1, 1, 40), (1, 1, 40)], [(1, 4, (-1)), (5, 3, 0), (6, 4, 0), (3, 5, 0), (2, 7, 0), (7, 2, 0)], [some (.inl (.ref 101)), some (.inl (.ref 66)), some (.inr (0, 0)), some (.inr (1, 0))]), [(0, 0, 1), (1, 4, 40)])], [([(2, 1), (1, 12676), (2, 2)], [(1, 1, 40), (1, 2, 59), (1, 1, 40)], [(2, 1, (-1))], [])], [12674, 12676, 12928, 13056, 13184, 13312, 13440, 13568, 13696, 13824, 13952, 14080, 14208, 14336, 14464, 14592, 14720, 14848])
set_option maxRecDepth 100000 in
theorem z_x345_ok : z_chk z_D s_P (z_clq z_D z_x345.2.2.2 s_P [z_x344, z_x146, z_x145]) 3000 z_x345 = true := z_chk2_ok (by decide +kernel)
theorem z_x345_s {J : aH → Prop} (hJ : z_jl J) {X : aX} : z_spec J z_D s_P X z_x345 := z_ctx_ok (z_hlen hJ) (fun H0 C S => z_clq_ok (z_hlen hJ) (z_cons (z_x344_s hJ) (z_cons (z_x146_s hJ) (z_cons (z_x145_s hJ) (z_nil)))) _ H0 C S) z_x345_ok
/-- $Sets.readAll 101 66 (1,) -/
def z_x346 : zQ := ((99, 14, 3, 2), [(0, ([(0, 2), (1, 8193), (1, 12676)], [(1, 1, 1), (1, 1, 40), (1, 1, 40)], [], [some (.inl (.ref 101)), some (.inl (.ref 66)), some (.inr (0, 0))]), [(0, 0, 2), (0, 0, 0)]),
  (6, ([(0, 2), (1, 8193), (1, 12676), (2, 2), (2, 1)], [(1, 1, 1), (1, 1, 40), (1, 2, 59), (1, 1, 40), (1, 1, 40)], [(3, 2, (-1)), (1, 4, 0), (4, 1, 0)], [some (.inl (.ref 101)), some (.inl (.ref 66)), some (.inr (0, 0))]), [(0, 0, 1), (1, 2, 40)])], [([(2, 1), (1, 12676), (2, 2)], [(1, 1, 40), (1, 2, 59), (1, 1, 40)], [(2, 1, (-1))], [])], [12674, 12676, 12928, 13056, 13184, 13312, 13440, 13568, 13696, 13824, 13952, 14080, 14208, 14336, 14464, 14592, 14720, 14848])
set_option maxRecDepth 100000 in
theorem z_x346_ok : z_chk z_D s_P (z_clq z_D z_x346.2.2.2 s_P [z_x345, z_x148]) 3000 z_x346 = true := z_chk2_ok (by decide +kernel)
theorem z_x346_s {J : aH → Prop} (hJ : z_jl J) {X : aX} : z_spec J z_D s_P X z_x346 := z_ctx_ok (z_hlen hJ) (fun H0 C S => z_clq_ok (z_hlen hJ) (z_cons (z_x345_s hJ) (z_cons (z_x148_s hJ) (z_nil))) _ H0 C S) z_x346_ok
/-- $Sets.readAny 101 66 (1,) -/
def z_x347 : zQ := ((98, 15, 3, 2), [(0, ([(0, 2), (1, 8193), (1, 12676)], [(1, 1, 1), (1, 1, 40), (1, 1, 40)], [], [some (.inl (.ref 101)), some (.inl (.ref 66)), some (.inr (0, 0))]), [(0, 0, 2), (0, 0, 0)]),
  (6, ([(0, 2), (1, 8193), (1, 12676), (2, 2), (2, 1)], [(1, 1, 1), (1, 1, 40), (1, 2, 59), (1, 1, 40), (1, 1, 40)], [(3, 2, (-1)), (1, 4, 0), (4, 1, 0)], [some (.inl (.ref 101)), some (.inl (.ref 66)), some (.inr (0, 0))]), [(0, 0, 1), (1, 2, 40)])], [([(2, 1), (1, 12676), (2, 2)], [(1, 1, 40), (1, 2, 59), (1, 1, 40)], [(2, 1, (-1))], [])], [12674, 12676, 12928, 13056, 13184, 13312, 13440, 13568, 13696, 13824, 13952, 14080, 14208, 14336, 14464, 14592, 14720, 14848])
set_option maxRecDepth 100000 in
theorem z_x347_ok : z_chk z_D s_P (z_clq z_D z_x347.2.2.2 s_P [z_x346, z_x144]) 3000 z_x347 = true := z_chk2_ok (by decide +kernel)
theorem z_x347_s {J : aH → Prop} (hJ : z_jl J) {X : aX} : z_spec J z_D s_P X z_x347 := z_ctx_ok (z_hlen hJ) (fun H0 C S => z_clq_ok (z_hlen hJ) (z_cons (z_x346_s hJ) (z_cons (z_x144_s hJ) (z_nil))) _ H0 C S) z_x347_ok
/-- $Sets.readThing 101 66 (0,) -/
def z_x348 : zQ := ((100, 16, 3, 2), [(0, ([(0, 2), (1, 12676), (1, 12674)], [(1, 0, 0), (1, (-1), 40), (1, 0, 16)], [], [some (.inl (.ref 101)), some (.inl (.ref 66)), some (.inr (0, 0)), none]), [(0, 0, 2), (0, 0, 0)]),
  (2, ([(0, 2), (0, 3), (1, 12674), (1, 12676), (2, 2), (2, 1)], [(1, 0, 0), (1, 0, 1), (1, 0, 16), (1, (-1), 40), (1, 0, 16), (1, (-1), 40)], [(1, 3, 1), (4, 2, 0), (5, 3, 0), (2, 4, 0)], [some (.inl (.ref 101)), some (.inl (.ref 66)), some (.inr (0, 0)), some (.inr (1, 0))]), [(0, 0, 1), (1, 3, 40)])], [([(1, 12676), (2, 1)], [(1, 0, 60), (1, (-1), 40)], [(1, 0, (-1))], [])], [12674, 12676, 12928, 13056, 13184, 13312, 13440, 13568, 13696, 13824, 13952, 14080, 14208, 14336, 14464, 14592, 14720, 14848])
set_option maxRecDepth 100000 in
theorem z_x348_ok : z_chk z_D s_P (z_clq z_D z_x348.2.2.2 s_P [z_x347, z_x146, z_x145]) 3000 z_x348 = true := z_chk2_ok (by decide +kernel)
theorem z_x348_s {J : aH → Prop} (hJ : z_jl J) {X : aX} : z_spec J z_D s_P X z_x348 := z_ctx_ok (z_hlen hJ) (fun H0 C S => z_clq_ok (z_hlen hJ) (z_cons (z_x347_s hJ) (z_cons (z_x146_s hJ) (z_cons (z_x145_s hJ) (z_nil)))) _ H0 C S) z_x348_ok
/-- $Sets.readAll 101 66 (0,) -/
def z_x349 : zQ := ((99, 17, 2, 2), [(0, ([(0, 2), (1, 12676)], [(1, 0, 0), (1, (-1), 40)], [], [some (.inl (.ref 101)), some (.inl (.ref 66)), some (.inr (0, 0))]), [(0, 0, 2), (0, 0, 0)]),
  (6, ([(0, 2), (1, 12676), (2, 1)], [(1, 0, 0), (1, 0, 60), (1, (-1), 40)], [(2, 1, (-1))], [some (.inl (.ref 101)), some (.inl (.ref 66)), some (.inr (0, 0))]), [(0, 0, 1), (1, 1, 40)])], [([(1, 12676), (2, 1)], [(1, 0, 60), (1, (-1), 40)], [(1, 0, (-1))], [])], [12674, 12676, 12928, 13056, 13184, 13312, 13440, 13568, 13696, 13824, 13952, 14080, 14208, 14336, 14464, 14592, 14720, 14848])
set_option maxRecDepth 100000 in
theorem z_x349_ok : z_chk z_D s_P (z_clq z_D z_x349.2.2.2 s_P [z_x348, z_x148]) 3000 z_x349 = true := z_chk2_ok (by decide +kernel)
theorem z_x349_s {J : aH → Prop} (hJ : z_jl J) {X : aX} : z_spec J z_D s_P X z_x349 := z_ctx_ok (z_hlen hJ) (fun H0 C S => z_clq_ok (z_hlen hJ) (z_cons (z_x348_s hJ) (z_cons (z_x148_s hJ) (z_nil))) _ H0 C S) z_x349_ok
/-- $Sets.readAny 101 66 (0,) -/
def z_x350 : zQ := ((98, 18, 2, 2), [(0, ([(0, 2), (1, 12676)], [(1, 0, 0), (1, (-1), 40)], [], [some (.inl (.ref 101)), some (.inl (.ref 66)), some (.inr (0, 0))]), [(0, 0, 2), (0, 0, 0)]),
  (6, ([(0, 2), (1, 12676), (2, 1)], [(1, 0, 0), (1, 0, 60), (1, (-1), 40)], [(2, 1, (-1))], [some (.inl (.ref 101)), some (.inl (.ref 66)), some (.inr (0, 0))]), [(0, 0, 1), (1, 1, 40)])], [([(1, 12676), (2, 1)], [(1, 0, 60), (1, (-1), 40)], [(1, 0, (-1))], [])], [12674, 12676, 12928, 13056, 13184, 13312, 13440, 13568, 13696, 13824, 13952, 14080, 14208, 14336, 14464, 14592, 14720, 14848])
set_option maxRecDepth 100000 in
theorem z_x350_ok : z_chk z_D s_P (z_clq z_D z_x350.2.2.2 s_P [z_x349, z_x144]) 3000 z_x350 = true := z_chk2_ok (by decide +kernel)
theorem z_x350_s {J : aH → Prop} (hJ : z_jl J) {X : aX} : z_spec J z_D s_P X z_x350 := z_ctx_ok (z_hlen hJ) (fun H0 C S => z_clq_ok (z_hlen hJ) (z_cons (z_x349_s hJ) (z_cons (z_x144_s hJ) (z_nil))) _ H0 C S) z_x350_ok
/-- $Sets.weighEvent 101 3 66 -/
def z_x351 : zQ := ((107, 19, 1, 2), [(0, ([(0, 3)], [(1, (-1), 40)], [], [some (.inl (.ref 101)), some (.inl (.ref 3)), some (.inl (.ref 66)), some (.inr (0, 0))]), [(0, 0, 1), (0, 0, 0)])], [([(0, 0), (1, 12676)], [(1, (-2147483648), 2147483647), (1, 0, 60)], [], [some (.inr (0, 0))])], [12674, 12676, 12928, 13056, 13184, 13312, 13440, 13568, 13696, 13824, 13952, 14080, 14208, 14336, 14464, 14592, 14720, 14848])
set_option maxRecDepth 100000 in
theorem z_x351_ok : z_chk z_D s_P (z_clq z_D z_x351.2.2.2 s_P [z_x350, z_x143]) 3000 z_x351 = true := z_chk2_ok (by decide +kernel)
theorem z_x351_s {J : aH → Prop} (hJ : z_jl J) {X : aX} : z_spec J z_D s_P X z_x351 := z_ctx_ok (z_hlen hJ) (fun H0 C S => z_clq_ok (z_hlen hJ) (z_cons (z_x350_s hJ) (z_cons (z_x143_s hJ) (z_nil))) _ H0 C S) z_x351_ok
/-- $Sets.findProduct 101 3 66 153 -/
def z_x352 : zQ := ((110, 17, 2, 2), [(0, ([(0, 3), (0, 4)], [(1, (-1), 40), (1, (-2147483648), 2147483647)], [], [some (.inl (.ref 101)), some (.inl (.ref 3)), some (.inl (.ref 66)), some (.inr (0, 0)), some (.inr (1, 0)), some (.inl (.ref 153)), none]), [(0, 0, 2), (0, 0, 0)]),
  (15, ([(0, 3), (0, 4), (0, 6), (1, 12676)], [(1, (-1), 40), (1, (-2147483648), 2147483647), (1, 0, 40), (1, (-1), 40)], [(0, 3, 0), (2, 3, 1)], [some (.inl (.ref 101)), some (.inl (.ref 3)), some (.inl (.ref 66)), some (.inr (0, 0)), some (.inr (1, 0)), some (.inl (.ref 153)), some (.inr (2, 0))]), [(0, 0, 1), (1, 2, 40)])], [([(1, 12676)], [(1, 0, 60)], [], [some (.inl (.int (-9)))]),
  ([(1, 12676)], [(1, 0, 60)], [], [some (.inl (.int 0))])], [12674, 12676, 12928, 13056, 13184, 13312, 13440, 13568, 13696, 13824, 13952, 14080, 14208, 14336, 14464, 14592, 14720, 14848, 14976, 14977, 19328, 19329])
set_option maxRecDepth 100000 in
theorem z_x352_ok : z_chk z_D s_P (z_clq z_D z_x352.2.2.2 s_P [z_x348, z_x167, z_x143, z_x38, z_x13]) 3000 z_x352 = true := z_chk2_ok (by decide +kernel)
theorem z_x352_s {J : aH → Prop} (hJ : z_jl J) {X : aX} : z_spec J z_D s_P X z_x352 := z_ctx_ok (z_hlen hJ) (fun H0 C S => z_clq_ok (z_hlen hJ) (z_cons (z_x348_s hJ) (z_cons (z_x167_s hJ) (z_cons (z_x143_s hJ) (z_cons (z_x38_s hJ) (z_cons (z_x13_s hJ) (z_nil)))))) _ H0 C S) z_x352_ok
/-- $Sets.weighGiven 101 3 66 -/
def z_x353 : zQ := ((95, 19, 1, 2), [(0, ([(0, 3)], [(1, (-1), 40)], [], [some (.inl (.ref 101)), some (.inl (.ref 3)), some (.inl (.ref 66)), some (.inr (0, 0))]), [(0, 0, 1), (0, 0, 0)])], [([(0, 0)], [(1, (-2147483648), 2147483647)], [], [some (.inr (0, 0))])], [12674, 12675, 12676, 12928, 13056, 13184, 13312, 13440, 13568, 13696, 13824, 13952, 14080, 14208, 14336, 14464, 14592, 14720, 14848])
set_option maxRecDepth 100000 in
theorem z_x353_ok : z_chk z_D s_P (z_clq z_D z_x353.2.2.2 s_P [z_x350, z_x169, z_x143]) 3000 z_x353 = true := z_chk2_ok (by decide +kernel)
theorem z_x353_s {J : aH → Prop} (hJ : z_jl J) {X : aX} : z_spec J z_D s_P X z_x353 := z_ctx_ok (z_hlen hJ) (fun H0 C S => z_clq_ok (z_hlen hJ) (z_cons (z_x350_s hJ) (z_cons (z_x169_s hJ) (z_cons (z_x143_s hJ) (z_nil)))) _ H0 C S) z_x353_ok
/-- $Sets.findTerm 101 3 66 153 -/
def z_x354 : zQ := ((108, 20, 2, 2), [(0, ([(0, 3), (0, 4)], [(1, 0, 1), (1, 0, 4)], [], [some (.inl (.ref 101)), some (.inl (.ref 3)), some (.inl (.ref 66)), some (.inr (0, 0)), some (.inr (1, 0)), some (.inl (.ref 153)), none, none, none, none, none, none]), [(0, 0, 1), (0, 0, 0)])], [([], [], [], [some (.inl (.int 0))]),
  ([], [], [], [some (.inl (.int (-2)))]),
  ([(1, 12676)], [(1, 0, 60)], [], [some (.inl (.int (-9)))])], [12674, 12675, 12676, 12928, 13056, 13184, 13312, 13440, 13568, 13696, 13824, 13952, 14080, 14208, 14336, 14464, 14592, 14720, 14848, 14976, 14977, 19328, 19329])
set_option maxRecDepth 100000 in
theorem z_x354_ok : z_chk z_D s_P (z_clq z_D z_x354.2.2.2 s_P [z_x353, z_x352, z_x351, z_x13]) 3000 z_x354 = true := z_chk2_ok (by decide +kernel)
theorem z_x354_s {J : aH → Prop} (hJ : z_jl J) {X : aX} : z_spec J z_D s_P X z_x354 := z_ctx_ok (z_hlen hJ) (fun H0 C S => z_clq_ok (z_hlen hJ) (z_cons (z_x353_s hJ) (z_cons (z_x352_s hJ) (z_cons (z_x351_s hJ) (z_cons (z_x13_s hJ) (z_nil))))) _ H0 C S) z_x354_ok
/-- $Sets.findProduct 101 3 66 154 -/
def z_x355 : zQ := ((110, 17, 2, 2), [(0, ([(0, 3), (0, 4)], [(1, (-1), 40), (1, (-2147483648), 2147483647)], [], [some (.inl (.ref 101)), some (.inl (.ref 3)), some (.inl (.ref 66)), some (.inr (0, 0)), some (.inr (1, 0)), some (.inl (.ref 154)), none]), [(0, 0, 2), (0, 0, 0)]),
  (15, ([(0, 3), (0, 4), (0, 6), (1, 12676)], [(1, (-1), 40), (1, (-2147483648), 2147483647), (1, 0, 40), (1, (-1), 40)], [(0, 3, 0), (2, 3, 1)], [some (.inl (.ref 101)), some (.inl (.ref 3)), some (.inl (.ref 66)), some (.inr (0, 0)), some (.inr (1, 0)), some (.inl (.ref 154)), some (.inr (2, 0))]), [(0, 0, 1), (1, 2, 40)])], [([(1, 12676)], [(1, 0, 60)], [], [some (.inl (.int (-9)))]),
  ([(1, 12676)], [(1, 0, 60)], [], [some (.inl (.int 0))])], [12674, 12676, 12928, 13056, 13184, 13312, 13440, 13568, 13696, 13824, 13952, 14080, 14208, 14336, 14464, 14592, 14720, 14848, 14976, 14977, 19456, 19457])
set_option maxRecDepth 100000 in
theorem z_x355_ok : z_chk z_D s_P (z_clq z_D z_x355.2.2.2 s_P [z_x348, z_x172, z_x167, z_x143, z_x24]) 3000 z_x355 = true := z_chk2_ok (by decide +kernel)
theorem z_x355_s {J : aH → Prop} (hJ : z_jl J) {X : aX} : z_spec J z_D s_P X z_x355 := z_ctx_ok (z_hlen hJ) (fun H0 C S => z_clq_ok (z_hlen hJ) (z_cons (z_x348_s hJ) (z_cons (z_x172_s hJ) (z_cons (z_x167_s hJ) (z_cons (z_x143_s hJ) (z_cons (z_x24_s hJ) (z_nil)))))) _ H0 C S) z_x355_ok
/-- $Sets.findTerm 101 3 66 154 -/
def z_x356 : zQ := ((108, 20, 2, 2), [(0, ([(0, 3), (0, 4)], [(1, 1, 1), (1, 0, 4)], [], [some (.inl (.ref 101)), some (.inl (.ref 3)), some (.inl (.ref 66)), some (.inr (0, 0)), some (.inr (1, 0)), some (.inl (.ref 154)), none, none, none, none, none, none]), [(0, 0, 1), (0, 0, 0)])], [([], [], [], [some (.inl (.int 0))]),
  ([], [], [], [some (.inl (.int (-2)))]),
  ([(1, 12676)], [(1, 0, 60)], [], [some (.inl (.int (-9)))])], [12674, 12675, 12676, 12928, 13056, 13184, 13312, 13440, 13568, 13696, 13824, 13952, 14080, 14208, 14336, 14464, 14592, 14720, 14848, 14976, 14977, 19456, 19457])
set_option maxRecDepth 100000 in
theorem z_x356_ok : z_chk z_D s_P (z_clq z_D z_x356.2.2.2 s_P [z_x355, z_x353, z_x351, z_x24]) 3000 z_x356 = true := z_chk2_ok (by decide +kernel)
theorem z_x356_s {J : aH → Prop} (hJ : z_jl J) {X : aX} : z_spec J z_D s_P X z_x356 := z_ctx_ok (z_hlen hJ) (fun H0 C S => z_clq_ok (z_hlen hJ) (z_cons (z_x355_s hJ) (z_cons (z_x353_s hJ) (z_cons (z_x351_s hJ) (z_cons (z_x24_s hJ) (z_nil))))) _ H0 C S) z_x356_ok
/-- $Sets.findBeside 101 3 66 -/
def z_x357 : zQ := ((94, 20, 0, 2), [(0, ([], [], [], [some (.inl (.ref 101)), some (.inl (.ref 3)), some (.inl (.ref 66)), none, none, none, none, none, none, none, none]), [(0, 0, 1), (0, 0, 0)])], [([], [], [], [some (.inl (.int (-2)))]),
  ([(1, 12674), (1, 12676)], [(1, 0, 15), (1, 0, 60)], [], [some (.inl (.int 0))]),
  ([(1, 12674), (1, 12676)], [(1, 0, 15), (1, 0, 60)], [], [some (.inl (.int 1))])], [12674, 12675, 12676, 12928, 13056, 13184, 13312, 13440, 13568, 13696, 13824, 13952, 14080, 14208, 14336, 14464, 14592, 14720, 14848])
set_option maxRecDepth 100000 in
theorem z_x357_ok : z_chk z_D s_P (z_clq z_D z_x357.2.2.2 s_P [z_x353, z_x351, z_x350, z_x148, z_x143]) 3000 z_x357 = true := z_chk2_ok (by decide +kernel)
theorem z_x357_s {J : aH → Prop} (hJ : z_jl J) {X : aX} : z_spec J z_D s_P X z_x357 := z_ctx_ok (z_hlen hJ) (fun H0 C S => z_clq_ok (z_hlen hJ) (z_cons (z_x353_s hJ) (z_cons (z_x351_s hJ) (z_cons (z_x350_s hJ) (z_cons (z_x148_s hJ) (z_cons (z_x143_s hJ) (z_nil)))))) _ H0 C S) z_x357_ok
/-- .judge 2 66 -/
def z_x358 : zQ := ((93, 21, 1, 2), [(0, ([(0, 2)], [(1, 0, 4)], [], [some (.inl (.ref 2)), some (.inl (.ref 66)), some (.inr (0, 0)), none]), [(0, 0, 1), (0, 0, 0)])], [([(1, 143)], [(1, 1, 1)], [], [some (.inl (.int 1))]),
  ([(1, 143)], [(1, 1, 1)], [], [some (.inl (.int 0))]),
  ([(1, 143)], [(1, 1, 1)], [], [some (.inl (.int (-2)))]),
  ([(1, 143), (1, 12676)], [(1, 1, 1), (1, 0, 60)], [], [some (.inl (.int (-9)))])], [143, 1152, 12674, 12675, 12676, 12928, 13056, 13184, 13312, 13440, 13568, 13696, 13824, 13952, 14080, 14208, 14336, 14464, 14592, 14720, 14848, 14976, 14977, 19328, 19329, 19456, 19457])
set_option maxRecDepth 100000 in
theorem z_x358_ok : z_chk z_D s_P (z_clq z_D z_x358.2.2.2 s_P [z_x357, z_x356, z_x354, z_x27, z_x9]) 3000 z_x358 = true := z_chk2_ok (by decide +kernel)
theorem z_x358_s {J : aH → Prop} (hJ : z_jl J) {X : aX} : z_spec J z_D s_P X z_x358 := z_ctx_ok (z_hlen hJ) (fun H0 C S => z_clq_ok (z_hlen hJ) (z_cons (z_x357_s hJ) (z_cons (z_x356_s hJ) (z_cons (z_x354_s hJ) (z_cons (z_x27_s hJ) (z_cons (z_x9_s hJ) (z_nil)))))) _ H0 C S) z_x358_ok
/-- $Sets.readThing 101 73 (5,) -/
def z_x359 : zQ := ((100, 1, 4, 2), [(0, ([(0, 2), (1, 9089), (1, 12676), (1, 12674)], [(1, 5, 5), (1, 5, 40), (1, 5, 40), (1, 0, 16)], [], [some (.inl (.ref 101)), some (.inl (.ref 73)), some (.inr (0, 0)), none]), [(0, 0, 2), (0, 0, 0)]),
  (2, ([(0, 2), (0, 3), (1, 9089), (1, 12674), (1, 12676), (2, 3), (2, 2), (2, 1)], [(1, 5, 5), (1, 0, 1), (1, 5, 40), (1, 0, 16), (1, 5, 40), (1, 0, 16), (1, 5, 40), (1, 5, 40)], [(5, 3, 0), (6, 4, 0), (3, 5, 0), (2, 7, 0), (7, 2, 0)], [some (.inl (.ref 101)), some (.inl (.ref 73)), some (.inr (0, 0)), some (.inr (1, 0))]), [(0, 0, 1), (1, 4, 40)])], [([(2, 1), (1, 12674), (1, 12676), (2, 3), (2, 2)], [(1, 5, 40), (1, 0, 16), (1, 6, 41), (1, 0, 16), (1, 5, 40)], [(3, 1, 0), (4, 2, (-1)), (1, 3, 1)], [])], [12674, 12676, 12928, 13056, 13184, 13312, 13440, 13568, 13696, 13824, 13952, 14080, 14208, 14336, 14464, 14592, 14720, 14848])
set_option maxRecDepth 100000 in
theorem z_x359_ok : z_chk z_D s_P (z_clq z_D z_x359.2.2.2 s_P [z_x146, z_x145]) 3000 z_x359 = true := z_chk2_ok (by decide +kernel)
theorem z_x359_s {J : aH → Prop} (hJ : z_jl J) {X : aX} : z_spec J z_D s_P X z_x359 := z_ctx_ok (z_hlen hJ) (fun H0 C S => z_clq_ok (z_hlen hJ) (z_cons (z_x146_s hJ) (z_cons (z_x145_s hJ) (z_nil))) _ H0 C S) z_x359_ok
/-- $Sets.readAll 101 73 (5,) -/
def z_x360 : zQ := ((99, 2, 3, 2), [(0, ([(0, 2), (1, 9089), (1, 12676)], [(1, 5, 5), (1, 5, 40), (1, 5, 40)], [], [some (.inl (.ref 101)), some (.inl (.ref 73)), some (.inr (0, 0))]), [(0, 0, 2), (0, 0, 0)]),
  (6, ([(0, 2), (1, 9089), (1, 12676), (2, 2), (2, 1)], [(1, 5, 5), (1, 5, 40), (1, 6, 41), (1, 5, 40), (1, 5, 40)], [(3, 2, (-1)), (1, 4, 0), (4, 1, 0)], [some (.inl (.ref 101)), some (.inl (.ref 73)), some (.inr (0, 0))]), [(0, 0, 1), (1, 2, 40)])], [([(2, 1), (1, 12676), (2, 2)], [(1, 5, 40), (1, 6, 41), (1, 5, 40)], [(2, 1, (-1))], [])], [12674, 12676, 12928, 13056, 13184, 13312, 13440, 13568, 13696, 13824, 13952, 14080, 14208, 14336, 14464, 14592, 14720, 14848])
set_option maxRecDepth 100000 in
theorem z_x360_ok : z_chk z_D s_P (z_clq z_D z_x360.2.2.2 s_P [z_x359, z_x148]) 3000 z_x360 = true := z_chk2_ok (by decide +kernel)
theorem z_x360_s {J : aH → Prop} (hJ : z_jl J) {X : aX} : z_spec J z_D s_P X z_x360 := z_ctx_ok (z_hlen hJ) (fun H0 C S => z_clq_ok (z_hlen hJ) (z_cons (z_x359_s hJ) (z_cons (z_x148_s hJ) (z_nil))) _ H0 C S) z_x360_ok
/-- $Sets.readAny 101 73 (5,) -/
def z_x361 : zQ := ((98, 3, 3, 2), [(0, ([(0, 2), (1, 9089), (1, 12676)], [(1, 5, 5), (1, 5, 40), (1, 5, 40)], [], [some (.inl (.ref 101)), some (.inl (.ref 73)), some (.inr (0, 0))]), [(0, 0, 2), (0, 0, 0)]),
  (6, ([(0, 2), (1, 9089), (1, 12676), (2, 2), (2, 1)], [(1, 5, 5), (1, 5, 40), (1, 6, 41), (1, 5, 40), (1, 5, 40)], [(3, 2, (-1)), (1, 4, 0), (4, 1, 0)], [some (.inl (.ref 101)), some (.inl (.ref 73)), some (.inr (0, 0))]), [(0, 0, 1), (1, 2, 40)])], [([(2, 1), (1, 12676), (2, 2)], [(1, 5, 40), (1, 6, 41), (1, 5, 40)], [(2, 1, (-1))], [])], [12674, 12676, 12928, 13056, 13184, 13312, 13440, 13568, 13696, 13824, 13952, 14080, 14208, 14336, 14464, 14592, 14720, 14848])
set_option maxRecDepth 100000 in
theorem z_x361_ok : z_chk z_D s_P (z_clq z_D z_x361.2.2.2 s_P [z_x360, z_x144]) 3000 z_x361 = true := z_chk2_ok (by decide +kernel)
theorem z_x361_s {J : aH → Prop} (hJ : z_jl J) {X : aX} : z_spec J z_D s_P X z_x361 := z_ctx_ok (z_hlen hJ) (fun H0 C S => z_clq_ok (z_hlen hJ) (z_cons (z_x360_s hJ) (z_cons (z_x144_s hJ) (z_nil))) _ H0 C S) z_x361_ok
/-- $Sets.readThing 101 73 (4,) -/
def z_x362 : zQ := ((100, 4, 4, 2), [(0, ([(0, 2), (1, 9089), (1, 12676), (1, 12674)], [(1, 4, 4), (1, 4, 40), (1, 4, 40), (1, 0, 16)], [], [some (.inl (.ref 101)), some (.inl (.ref 73)), some (.inr (0, 0)), none]), [(0, 0, 2), (0, 0, 0)]),
  (2, ([(0, 2), (0, 3), (1, 9089), (1, 12674), (1, 12676), (2, 3), (2, 2), (2, 1)], [(1, 4, 4), (1, 0, 1), (1, 4, 40), (1, 0, 16), (1, 4, 40), (1, 0, 16), (1, 4, 40), (1, 4, 40)], [(5, 3, 0), (6, 4, 0), (3, 5, 0), (2, 7, 0), (7, 2, 0)], [some (.inl (.ref 101)), some (.inl (.ref 73)), some (.inr (0, 0)), some (.inr (1, 0))]), [(0, 0, 1), (1, 4, 40)])], [([(2, 1), (1, 12676), (2, 2)], [(1, 4, 40), (1, 5, 42), (1, 4, 40)], [(2, 1, (-1))], [])], [12674, 12676, 12928, 13056, 13184, 13312, 13440, 13568, 13696, 13824, 13952, 14080, 14208, 14336, 14464, 14592, 14720, 14848])
set_option maxRecDepth 100000 in
theorem z_x362_ok : z_chk z_D s_P (z_clq z_D z_x362.2.2.2 s_P [z_x361, z_x146, z_x145]) 3000 z_x362 = true := z_chk2_ok (by decide +kernel)
theorem z_x362_s {J : aH → Prop} (hJ : z_jl J) {X : aX} : z_spec J z_D s_P X z_x362 := z_ctx_ok (z_hlen hJ) (fun H0 C S => z_clq_ok (z_hlen hJ) (z_cons (z_x361_s hJ) (z_cons (z_x146_s hJ) (z_cons (z_x145_s hJ) (z_nil)))) _ H0 C S) z_x362_ok
/-- $Sets.readAll 101 73 (4,) -/
def z_x363 : zQ := ((99, 5, 3, 2), [(0, ([(0, 2), (1, 9089), (1, 12676)], [(1, 4, 4), (1, 4, 40), (1, 4, 40)], [], [some (.inl (.ref 101)), some (.inl (.ref 73)), some (.inr (0, 0))]), [(0, 0, 2), (0, 0, 0)]),
  (6, ([(0, 2), (1, 9089), (1, 12676), (2, 2), (2, 1)], [(1, 4, 4), (1, 4, 40), (1, 5, 42), (1, 4, 40), (1, 4, 40)], [(3, 2, (-1)), (1, 4, 0), (4, 1, 0)], [some (.inl (.ref 101)), some (.inl (.ref 73)), some (.inr (0, 0))]), [(0, 0, 1), (1, 2, 40)])], [([(2, 1), (1, 12676), (2, 2)], [(1, 4, 40), (1, 5, 42), (1, 4, 40)], [(2, 1, (-1))], [])], [12674, 12676, 12928, 13056, 13184, 13312, 13440, 13568, 13696, 13824, 13952, 14080, 14208, 14336, 14464, 14592, 14720, 14848])
set_option maxRecDepth 100000 in
theorem z_x363_ok : z_chk z_D s_P (z_clq z_D z_x363.2.2.2 s_P [z_x362, z_x148]) 3000 z_x363 = true := z_chk2_ok (by decide +kernel)
theorem z_x363_s {J : aH → Prop} (hJ : z_jl J) {X : aX} : z_spec J z_D s_P X z_x363 := z_ctx_ok (z_hlen hJ) (fun H0 C S => z_clq_ok (z_hlen hJ) (z_cons (z_x362_s hJ) (z_cons (z_x148_s hJ) (z_nil))) _ H0 C S) z_x363_ok
/-- $Sets.readAny 101 73 (4,) -/
def z_x364 : zQ := ((98, 6, 3, 2), [(0, ([(0, 2), (1, 9089), (1, 12676)], [(1, 4, 4), (1, 4, 40), (1, 4, 40)], [], [some (.inl (.ref 101)), some (.inl (.ref 73)), some (.inr (0, 0))]), [(0, 0, 2), (0, 0, 0)]),
  (6, ([(0, 2), (1, 9089), (1, 12676), (2, 2), (2, 1)], [(1, 4, 4), (1, 4, 40), (1, 5, 42), (1, 4, 40), (1, 4, 40)], [(3, 2, (-1)), (1, 4, 0), (4, 1, 0)], [some (.inl (.ref 101)), some (.inl (.ref 73)), some (.inr (0, 0))]), [(0, 0, 1), (1, 2, 40)])], [([(2, 1), (1, 12676), (2, 2)], [(1, 4, 40), (1, 5, 42), (1, 4, 40)], [(2, 1, (-1))], [])], [12674, 12676, 12928, 13056, 13184, 13312, 13440, 13568, 13696, 13824, 13952, 14080, 14208, 14336, 14464, 14592, 14720, 14848])
set_option maxRecDepth 100000 in
theorem z_x364_ok : z_chk z_D s_P (z_clq z_D z_x364.2.2.2 s_P [z_x363, z_x144]) 3000 z_x364 = true := z_chk2_ok (by decide +kernel)
theorem z_x364_s {J : aH → Prop} (hJ : z_jl J) {X : aX} : z_spec J z_D s_P X z_x364 := z_ctx_ok (z_hlen hJ) (fun H0 C S => z_clq_ok (z_hlen hJ) (z_cons (z_x363_s hJ) (z_cons (z_x144_s hJ) (z_nil))) _ H0 C S) z_x364_ok
/-- $Sets.readThing 101 73 (3,) -/
def z_x365 : zQ := ((100, 7, 4, 2), [(0, ([(0, 2), (1, 9089), (1, 12676), (1, 12674)], [(1, 3, 3), (1, 3, 40), (1, 3, 40), (1, 0, 16)], [], [some (.inl (.ref 101)), some (.inl (.ref 73)), some (.inr (0, 0)), none]), [(0, 0, 2), (0, 0, 0)]),
  (2, ([(0, 2), (0, 3), (1, 9089), (1, 12674), (1, 12676), (2, 3), (2, 2), (2, 1)], [(1, 3, 3), (1, 0, 1), (1, 3, 40), (1, 0, 16), (1, 3, 40), (1, 0, 16), (1, 3, 40), (1, 3, 40)], [(5, 3, 0), (6, 4, 0), (3, 5, 0), (2, 7, 0), (7, 2, 0)], [some (.inl (.ref 101)), some (.inl (.ref 73)), some (.inr (0, 0)), some (.inr (1, 0))]), [(0, 0, 1), (1, 4, 40)])], [([(2, 1), (1, 12676), (2, 2)], [(1, 3, 40), (1, 4, 47), (1, 3, 40)], [(2, 1, (-1))], [])], [12674, 12676, 12928, 13056, 13184, 13312, 13440, 13568, 13696, 13824, 13952, 14080, 14208, 14336, 14464, 14592, 14720, 14848])
set_option maxRecDepth 100000 in
theorem z_x365_ok : z_chk z_D s_P (z_clq z_D z_x365.2.2.2 s_P [z_x364, z_x146, z_x145]) 3000 z_x365 = true := z_chk2_ok (by decide +kernel)
theorem z_x365_s {J : aH → Prop} (hJ : z_jl J) {X : aX} : z_spec J z_D s_P X z_x365 := z_ctx_ok (z_hlen hJ) (fun H0 C S => z_clq_ok (z_hlen hJ) (z_cons (z_x364_s hJ) (z_cons (z_x146_s hJ) (z_cons (z_x145_s hJ) (z_nil)))) _ H0 C S) z_x365_ok
/-- $Sets.readAll 101 73 (3,) -/
def z_x366 : zQ := ((99, 8, 3, 2), [(0, ([(0, 2), (1, 9089), (1, 12676)], [(1, 3, 3), (1, 3, 40), (1, 3, 40)], [], [some (.inl (.ref 101)), some (.inl (.ref 73)), some (.inr (0, 0))]), [(0, 0, 2), (0, 0, 0)]),
  (6, ([(0, 2), (1, 9089), (1, 12676), (2, 2), (2, 1)], [(1, 3, 3), (1, 3, 40), (1, 4, 47), (1, 3, 40), (1, 3, 40)], [(3, 2, (-1)), (1, 4, 0), (4, 1, 0)], [some (.inl (.ref 101)), some (.inl (.ref 73)), some (.inr (0, 0))]), [(0, 0, 1), (1, 2, 40)])], [([(2, 1), (1, 12676), (2, 2)], [(1, 3, 40), (1, 4, 47), (1, 3, 40)], [(2, 1, (-1))], [])], [12674, 12676, 12928, 13056, 13184, 13312, 13440, 13568, 13696, 13824, 13952, 14080, 14208, 14336, 14464, 14592, 14720, 14848])
set_option maxRecDepth 100000 in
theorem z_x366_ok : z_chk z_D s_P (z_clq z_D z_x366.2.2.2 s_P [z_x365, z_x148]) 3000 z_x366 = true := z_chk2_ok (by decide +kernel)
theorem z_x366_s {J : aH → Prop} (hJ : z_jl J) {X : aX} : z_spec J z_D s_P X z_x366 := z_ctx_ok (z_hlen hJ) (fun H0 C S => z_clq_ok (z_hlen hJ) (z_cons (z_x365_s hJ) (z_cons (z_x148_s hJ) (z_nil))) _ H0 C S) z_x366_ok
/-- $Sets.readAny 101 73 (3,) -/
def z_x367 : zQ := ((98, 9, 3, 2), [(0, ([(0, 2), (1, 9089), (1, 12676)], [(1, 3, 3), (1, 3, 40), (1, 3, 40)], [], [some (.inl (.ref 101)), some (.inl (.ref 73)), some (.inr (0, 0))]), [(0, 0, 2), (0, 0, 0)]),
  (6, ([(0, 2), (1, 9089), (1, 12676), (2, 2), (2, 1)], [(1, 3, 3), (1, 3, 40), (1, 4, 47), (1, 3, 40), (1, 3, 40)], [(3, 2, (-1)), (1, 4, 0), (4, 1, 0)], [some (.inl (.ref 101)), some (.inl (.ref 73)), some (.inr (0, 0))]), [(0, 0, 1), (1, 2, 40)])], [([(2, 1), (1, 12676), (2, 2)], [(1, 3, 40), (1, 4, 47), (1, 3, 40)], [(2, 1, (-1))], [])], [12674, 12676, 12928, 13056, 13184, 13312, 13440, 13568, 13696, 13824, 13952, 14080, 14208, 14336, 14464, 14592, 14720, 14848])
set_option maxRecDepth 100000 in
theorem z_x367_ok : z_chk z_D s_P (z_clq z_D z_x367.2.2.2 s_P [z_x366, z_x144]) 3000 z_x367 = true := z_chk2_ok (by decide +kernel)
theorem z_x367_s {J : aH → Prop} (hJ : z_jl J) {X : aX} : z_spec J z_D s_P X z_x367 := z_ctx_ok (z_hlen hJ) (fun H0 C S => z_clq_ok (z_hlen hJ) (z_cons (z_x366_s hJ) (z_cons (z_x144_s hJ) (z_nil))) _ H0 C S) z_x367_ok
/-- $Sets.readThing 101 73 (2,) -/
def z_x368 : zQ := ((100, 10, 4, 2), [(0, ([(0, 2), (1, 9089), (1, 12676), (1, 12674)], [(1, 2, 2), (1, 2, 40), (1, 2, 40), (1, 0, 16)], [], [some (.inl (.ref 101)), some (.inl (.ref 73)), some (.inr (0, 0)), none]), [(0, 0, 2), (0, 0, 0)]),
  (2, ([(0, 2), (0, 3), (1, 9089), (1, 12674), (1, 12676), (2, 3), (2, 2), (2, 1)], [(1, 2, 2), (1, 0, 1), (1, 2, 40), (1, 0, 16), (1, 2, 40), (1, 0, 16), (1, 2, 40), (1, 2, 40)], [(1, 4, (-2)), (5, 3, 0), (6, 4, 0), (3, 5, 0), (2, 7, 0), (7, 2, 0)], [some (.inl (.ref 101)), some (.inl (.ref 73)), some (.inr (0, 0)), some (.inr (1, 0))]), [(0, 0, 1), (1, 4, 40)])], [([(2, 1), (1, 12676), (2, 2)], [(1, 2, 40), (1, 3, 48), (1, 2, 40)], [(2, 1, (-1))], [])], [12674, 12676, 12928, 13056, 13184, 13312, 13440, 13568, 13696, 13824, 13952, 14080, 14208, 14336, 14464, 14592, 14720, 14848])
set_option maxRecDepth 100000 in
theorem z_x368_ok : z_chk z_D s_P (z_clq z_D z_x368.2.2.2 s_P [z_x367, z_x146, z_x145]) 3000 z_x368 = true := z_chk2_ok (by decide +kernel)
theorem z_x368_s {J : aH → Prop} (hJ : z_jl J) {X : aX} : z_spec J z_D s_P X z_x368 := z_ctx_ok (z_hlen hJ) (fun H0 C S => z_clq_ok (z_hlen hJ) (z_cons (z_x367_s hJ) (z_cons (z_x146_s hJ) (z_cons (z_x145_s hJ) (z_nil)))) _ H0 C S) z_x368_ok
/-- $Sets.readAll 101 73 (2,) -/
def z_x369 : zQ := ((99, 11, 3, 2), [(0, ([(0, 2), (1, 9089), (1, 12676)], [(1, 2, 2), (1, 2, 40), (1, 2, 40)], [], [some (.inl (.ref 101)), some (.inl (.ref 73)), some (.inr (0, 0))]), [(0, 0, 2), (0, 0, 0)]),
  (6, ([(0, 2), (1, 9089), (1, 12676), (2, 2), (2, 1)], [(1, 2, 2), (1, 2, 40), (1, 3, 48), (1, 2, 40), (1, 2, 40)], [(3, 2, (-1)), (1, 4, 0), (4, 1, 0)], [some (.inl (.ref 101)), some (.inl (.ref 73)), some (.inr (0, 0))]), [(0, 0, 1), (1, 2, 40)])], [([(2, 1), (1, 12676), (2, 2)], [(1, 2, 40), (1, 3, 48), (1, 2, 40)], [(2, 1, (-1))], [])], [12674, 12676, 12928, 13056, 13184, 13312, 13440, 13568, 13696, 13824, 13952, 14080, 14208, 14336, 14464, 14592, 14720, 14848])
set_option maxRecDepth 100000 in
theorem z_x369_ok : z_chk z_D s_P (z_clq z_D z_x369.2.2.2 s_P [z_x368, z_x148]) 3000 z_x369 = true := z_chk2_ok (by decide +kernel)
theorem z_x369_s {J : aH → Prop} (hJ : z_jl J) {X : aX} : z_spec J z_D s_P X z_x369 := z_ctx_ok (z_hlen hJ) (fun H0 C S => z_clq_ok (z_hlen hJ) (z_cons (z_x368_s hJ) (z_cons (z_x148_s hJ) (z_nil))) _ H0 C S) z_x369_ok
/-- $Sets.readAny 101 73 (2,) -/
def z_x370 : zQ := ((98, 12, 3, 2), [(0, ([(0, 2), (1, 9089), (1, 12676)], [(1, 2, 2), (1, 2, 40), (1, 2, 40)], [], [some (.inl (.ref 101)), some (.inl (.ref 73)), some (.inr (0, 0))]), [(0, 0, 2), (0, 0, 0)]),
  (6, ([(0, 2), (1, 9089), (1, 12676), (2, 2), (2, 1)], [(1, 2, 2), (1, 2, 40), (1, 3, 48), (1, 2, 40), (1, 2, 40)], [(3, 2, (-1)), (1, 4, 0), (4, 1, 0)], [some (.inl (.ref 101)), some (.inl (.ref 73)), some (.inr (0, 0))]), [(0, 0, 1), (1, 2, 40)])], [([(2, 1), (1, 12676), (2, 2)], [(1, 2, 40), (1, 3, 48), (1, 2, 40)], [(2, 1, (-1))], [])], [12674, 12676, 12928, 13056, 13184, 13312, 13440, 13568, 13696, 13824, 13952, 14080, 14208, 14336, 14464, 14592, 14720, 14848])
set_option maxRecDepth 100000 in
theorem z_x370_ok : z_chk z_D s_P (z_clq z_D z_x370.2.2.2 s_P [z_x369, z_x144]) 3000 z_x370 = true := z_chk2_ok (by decide +kernel)
theorem z_x370_s {J : aH → Prop} (hJ : z_jl J) {X : aX} : z_spec J z_D s_P X z_x370 := z_ctx_ok (z_hlen hJ) (fun H0 C S => z_clq_ok (z_hlen hJ) (z_cons (z_x369_s hJ) (z_cons (z_x144_s hJ) (z_nil))) _ H0 C S) z_x370_ok
/-- $Sets.readThing 101 73 (1,) -/
def z_x371 : zQ := ((100, 13, 4, 2), [(0, ([(0, 2), (1, 9089), (1, 12676), (1, 12674)], [(1, 1, 1), (1, 1, 40), (1, 1, 40), (1, 0, 16)], [], [some (.inl (.ref 101)), some (.inl (.ref 73)), some (.inr (0, 0)), none]), [(0, 0, 2), (0, 0, 0)]),
  (2, ([(0, 2), (0, 3), (1, 9089), (1, 12674), (1, 12676), (2, 3), (2, 2), (2, 1)], [(1, 1, 1), (1, 0, 1), (1, 1, 40), (1, 0, 16), (1, 1, 40), (1, 0, 16), (1, 1, 40), (1, 1, 40)], [(1, 4, (-1)), (5, 3, 0), (6, 4, 0), (3, 5, 0), (2, 7, 0), (7, 2, 0)], [some (.inl (.ref 101)), some (.inl (.ref 73)), some (.inr (0, 0)), some (.inr (1, 0))]), [(0, 0, 1), (1, 4, 40)])], [([(2, 1), (1, 12676), (2, 2)], [(1, 1, 40), (1, 2, 59), (1, 1, 40)], [(2, 1, (-1))], [])], [12674, 12676, 12928, 13056, 13184, 13312, 13440, 13568, 13696, 13824, 13952, 14080, 14208, 14336, 14464, 14592, 14720, 14848])
set_option maxRecDepth 100000 in
theorem z_x371_ok : z_chk z_D s_P (z_clq z_D z_x371.2.2.2 s_P [z_x370, z_x146, z_x145]) 3000 z_x371 = true := z_chk2_ok (by decide +kernel)
theorem z_x371_s {J : aH → Prop} (hJ : z_jl J) {X : aX} : z_spec J z_D s_P X z_x371 := z_ctx_ok (z_hlen hJ) (fun H0 C S => z_clq_ok (z_hlen hJ) (z_cons (z_x370_s hJ) (z_cons (z_x146_s hJ) (z_cons (z_x145_s hJ) (z_nil)))) _ H0 C S) z_x371_ok
/-- $Sets.readAll 101 73 (1,) -/
def z_x372 : zQ := ((99, 14, 3, 2), [(0, ([(0, 2), (1, 9089), (1, 12676)], [(1, 1, 1), (1, 1, 40), (1, 1, 40)], [], [some (.inl (.ref 101)), some (.inl (.ref 73)), some (.inr (0, 0))]), [(0, 0, 2), (0, 0, 0)]),
  (6, ([(0, 2), (1, 9089), (1, 12676), (2, 2), (2, 1)], [(1, 1, 1), (1, 1, 40), (1, 2, 59), (1, 1, 40), (1, 1, 40)], [(3, 2, (-1)), (1, 4, 0), (4, 1, 0)], [some (.inl (.ref 101)), some (.inl (.ref 73)), some (.inr (0, 0))]), [(0, 0, 1), (1, 2, 40)])], [([(2, 1), (1, 12676), (2, 2)], [(1, 1, 40), (1, 2, 59), (1, 1, 40)], [(2, 1, (-1))], [])], [12674, 12676, 12928, 13056, 13184, 13312, 13440, 13568, 13696, 13824, 13952, 14080, 14208, 14336, 14464, 14592, 14720, 14848])
set_option maxRecDepth 100000 in
theorem z_x372_ok : z_chk z_D s_P (z_clq z_D z_x372.2.2.2 s_P [z_x371, z_x148]) 3000 z_x372 = true := z_chk2_ok (by decide +kernel)
theorem z_x372_s {J : aH → Prop} (hJ : z_jl J) {X : aX} : z_spec J z_D s_P X z_x372 := z_ctx_ok (z_hlen hJ) (fun H0 C S => z_clq_ok (z_hlen hJ) (z_cons (z_x371_s hJ) (z_cons (z_x148_s hJ) (z_nil))) _ H0 C S) z_x372_ok
/-- $Sets.readAny 101 73 (1,) -/
def z_x373 : zQ := ((98, 15, 3, 2), [(0, ([(0, 2), (1, 9089), (1, 12676)], [(1, 1, 1), (1, 1, 40), (1, 1, 40)], [], [some (.inl (.ref 101)), some (.inl (.ref 73)), some (.inr (0, 0))]), [(0, 0, 2), (0, 0, 0)]),
  (6, ([(0, 2), (1, 9089), (1, 12676), (2, 2), (2, 1)], [(1, 1, 1), (1, 1, 40), (1, 2, 59), (1, 1, 40), (1, 1, 40)], [(3, 2, (-1)), (1, 4, 0), (4, 1, 0)], [some (.inl (.ref 101)), some (.inl (.ref 73)), some (.inr (0, 0))]), [(0, 0, 1), (1, 2, 40)])], [([(2, 1), (1, 12676), (2, 2)], [(1, 1, 40), (1, 2, 59), (1, 1, 40)], [(2, 1, (-1))], [])], [12674, 12676, 12928, 13056, 13184, 13312, 13440, 13568, 13696, 13824, 13952, 14080, 14208, 14336, 14464, 14592, 14720, 14848])
set_option maxRecDepth 100000 in
theorem z_x373_ok : z_chk z_D s_P (z_clq z_D z_x373.2.2.2 s_P [z_x372, z_x144]) 3000 z_x373 = true := z_chk2_ok (by decide +kernel)
theorem z_x373_s {J : aH → Prop} (hJ : z_jl J) {X : aX} : z_spec J z_D s_P X z_x373 := z_ctx_ok (z_hlen hJ) (fun H0 C S => z_clq_ok (z_hlen hJ) (z_cons (z_x372_s hJ) (z_cons (z_x144_s hJ) (z_nil))) _ H0 C S) z_x373_ok
/-- $Sets.readThing 101 73 (0,) -/
def z_x374 : zQ := ((100, 16, 3, 2), [(0, ([(0, 2), (1, 12676), (1, 12674)], [(1, 0, 0), (1, (-1), 40), (1, 0, 16)], [], [some (.inl (.ref 101)), some (.inl (.ref 73)), some (.inr (0, 0)), none]), [(0, 0, 2), (0, 0, 0)]),
  (2, ([(0, 2), (0, 3), (1, 12674), (1, 12676), (2, 2), (2, 1)], [(1, 0, 0), (1, 0, 1), (1, 0, 16), (1, (-1), 40), (1, 0, 16), (1, (-1), 40)], [(1, 3, 1), (4, 2, 0), (5, 3, 0), (2, 4, 0)], [some (.inl (.ref 101)), some (.inl (.ref 73)), some (.inr (0, 0)), some (.inr (1, 0))]), [(0, 0, 1), (1, 3, 40)])], [([(1, 12676), (2, 1)], [(1, 0, 60), (1, (-1), 40)], [(1, 0, (-1))], [])], [12674, 12676, 12928, 13056, 13184, 13312, 13440, 13568, 13696, 13824, 13952, 14080, 14208, 14336, 14464, 14592, 14720, 14848])
set_option maxRecDepth 100000 in
theorem z_x374_ok : z_chk z_D s_P (z_clq z_D z_x374.2.2.2 s_P [z_x373, z_x146, z_x145]) 3000 z_x374 = true := z_chk2_ok (by decide +kernel)
theorem z_x374_s {J : aH → Prop} (hJ : z_jl J) {X : aX} : z_spec J z_D s_P X z_x374 := z_ctx_ok (z_hlen hJ) (fun H0 C S => z_clq_ok (z_hlen hJ) (z_cons (z_x373_s hJ) (z_cons (z_x146_s hJ) (z_cons (z_x145_s hJ) (z_nil)))) _ H0 C S) z_x374_ok
/-- $Sets.readAll 101 73 (0,) -/
def z_x375 : zQ := ((99, 17, 2, 2), [(0, ([(0, 2), (1, 12676)], [(1, 0, 0), (1, (-1), 40)], [], [some (.inl (.ref 101)), some (.inl (.ref 73)), some (.inr (0, 0))]), [(0, 0, 2), (0, 0, 0)]),
  (6, ([(0, 2), (1, 12676), (2, 1)], [(1, 0, 0), (1, 0, 60), (1, (-1), 40)], [(2, 1, (-1))], [some (.inl (.ref 101)), some (.inl (.ref 73)), some (.inr (0, 0))]), [(0, 0, 1), (1, 1, 40)])], [([(1, 12676), (2, 1)], [(1, 0, 60), (1, (-1), 40)], [(1, 0, (-1))], [])], [12674, 12676, 12928, 13056, 13184, 13312, 13440, 13568, 13696, 13824, 13952, 14080, 14208, 14336, 14464, 14592, 14720, 14848])
set_option maxRecDepth 100000 in
theorem z_x375_ok : z_chk z_D s_P (z_clq z_D z_x375.2.2.2 s_P [z_x374, z_x148]) 3000 z_x375 = true := z_chk2_ok (by decide +kernel)
theorem z_x375_s {J : aH → Prop} (hJ : z_jl J) {X : aX} : z_spec J z_D s_P X z_x375 := z_ctx_ok (z_hlen hJ) (fun H0 C S => z_clq_ok (z_hlen hJ) (z_cons (z_x374_s hJ) (z_cons (z_x148_s hJ) (z_nil))) _ H0 C S) z_x375_ok
/-- $Sets.readAny 101 73 (0,) -/
def z_x376 : zQ := ((98, 18, 2, 2), [(0, ([(0, 2), (1, 12676)], [(1, 0, 0), (1, (-1), 40)], [], [some (.inl (.ref 101)), some (.inl (.ref 73)), some (.inr (0, 0))]), [(0, 0, 2), (0, 0, 0)]),
  (6, ([(0, 2), (1, 12676), (2, 1)], [(1, 0, 0), (1, 0, 60), (1, (-1), 40)], [(2, 1, (-1))], [some (.inl (.ref 101)), some (.inl (.ref 73)), some (.inr (0, 0))]), [(0, 0, 1), (1, 1, 40)])], [([(1, 12676), (2, 1)], [(1, 0, 60), (1, (-1), 40)], [(1, 0, (-1))], [])], [12674, 12676, 12928, 13056, 13184, 13312, 13440, 13568, 13696, 13824, 13952, 14080, 14208, 14336, 14464, 14592, 14720, 14848])
set_option maxRecDepth 100000 in
theorem z_x376_ok : z_chk z_D s_P (z_clq z_D z_x376.2.2.2 s_P [z_x375, z_x144]) 3000 z_x376 = true := z_chk2_ok (by decide +kernel)
theorem z_x376_s {J : aH → Prop} (hJ : z_jl J) {X : aX} : z_spec J z_D s_P X z_x376 := z_ctx_ok (z_hlen hJ) (fun H0 C S => z_clq_ok (z_hlen hJ) (z_cons (z_x375_s hJ) (z_cons (z_x144_s hJ) (z_nil))) _ H0 C S) z_x376_ok
/-- $Sets.weighEvent 101 3 73 -/
def z_x377 : zQ := ((107, 19, 1, 2), [(0, ([(0, 3)], [(1, (-1), 40)], [], [some (.inl (.ref 101)), some (.inl (.ref 3)), some (.inl (.ref 73)), some (.inr (0, 0))]), [(0, 0, 1), (0, 0, 0)])], [([(0, 0), (1, 12676)], [(1, (-2147483648), 2147483647), (1, 0, 60)], [], [some (.inr (0, 0))])], [12674, 12676, 12928, 13056, 13184, 13312, 13440, 13568, 13696, 13824, 13952, 14080, 14208, 14336, 14464, 14592, 14720, 14848])
set_option maxRecDepth 100000 in
theorem z_x377_ok : z_chk z_D s_P (z_clq z_D z_x377.2.2.2 s_P [z_x376, z_x143]) 3000 z_x377 = true := z_chk2_ok (by decide +kernel)
theorem z_x377_s {J : aH → Prop} (hJ : z_jl J) {X : aX} : z_spec J z_D s_P X z_x377 := z_ctx_ok (z_hlen hJ) (fun H0 C S => z_clq_ok (z_hlen hJ) (z_cons (z_x376_s hJ) (z_cons (z_x143_s hJ) (z_nil))) _ H0 C S) z_x377_ok
/-- $Sets.findProduct 101 3 73 153 -/
def z_x378 : zQ := ((110, 17, 2, 2), [(0, ([(0, 3), (0, 4)], [(1, (-1), 40), (1, (-2147483648), 2147483647)], [], [some (.inl (.ref 101)), some (.inl (.ref 3)), some (.inl (.ref 73)), some (.inr (0, 0)), some (.inr (1, 0)), some (.inl (.ref 153)), none]), [(0, 0, 2), (0, 0, 0)]),
  (15, ([(0, 3), (0, 4), (0, 6), (1, 12676)], [(1, (-1), 40), (1, (-2147483648), 2147483647), (1, 0, 40), (1, (-1), 40)], [(0, 3, 0), (2, 3, 1)], [some (.inl (.ref 101)), some (.inl (.ref 3)), some (.inl (.ref 73)), some (.inr (0, 0)), some (.inr (1, 0)), some (.inl (.ref 153)), some (.inr (2, 0))]), [(0, 0, 1), (1, 2, 40)])], [([(1, 12676)], [(1, 0, 60)], [], [some (.inl (.int (-9)))]),
  ([(1, 12676)], [(1, 0, 60)], [], [some (.inl (.int 0))])], [12674, 12676, 12928, 13056, 13184, 13312, 13440, 13568, 13696, 13824, 13952, 14080, 14208, 14336, 14464, 14592, 14720, 14848, 14976, 14977, 19328, 19329])
set_option maxRecDepth 100000 in
theorem z_x378_ok : z_chk z_D s_P (z_clq z_D z_x378.2.2.2 s_P [z_x374, z_x167, z_x143, z_x38, z_x13]) 3000 z_x378 = true := z_chk2_ok (by decide +kernel)
theorem z_x378_s {J : aH → Prop} (hJ : z_jl J) {X : aX} : z_spec J z_D s_P X z_x378 := z_ctx_ok (z_hlen hJ) (fun H0 C S => z_clq_ok (z_hlen hJ) (z_cons (z_x374_s hJ) (z_cons (z_x167_s hJ) (z_cons (z_x143_s hJ) (z_cons (z_x38_s hJ) (z_cons (z_x13_s hJ) (z_nil)))))) _ H0 C S) z_x378_ok
/-- $Sets.weighGiven 101 3 73 -/
def z_x379 : zQ := ((95, 19, 1, 2), [(0, ([(0, 3)], [(1, (-1), 40)], [], [some (.inl (.ref 101)), some (.inl (.ref 3)), some (.inl (.ref 73)), some (.inr (0, 0))]), [(0, 0, 1), (0, 0, 0)])], [([(0, 0)], [(1, (-2147483648), 2147483647)], [], [some (.inr (0, 0))])], [12674, 12675, 12676, 12928, 13056, 13184, 13312, 13440, 13568, 13696, 13824, 13952, 14080, 14208, 14336, 14464, 14592, 14720, 14848])
set_option maxRecDepth 100000 in
theorem z_x379_ok : z_chk z_D s_P (z_clq z_D z_x379.2.2.2 s_P [z_x376, z_x169, z_x143]) 3000 z_x379 = true := z_chk2_ok (by decide +kernel)
theorem z_x379_s {J : aH → Prop} (hJ : z_jl J) {X : aX} : z_spec J z_D s_P X z_x379 := z_ctx_ok (z_hlen hJ) (fun H0 C S => z_clq_ok (z_hlen hJ) (z_cons (z_x376_s hJ) (z_cons (z_x169_s hJ) (z_cons (z_x143_s hJ) (z_nil)))) _ H0 C S) z_x379_ok
/-- $Sets.findTerm 101 3 73 153 -/
def z_x380 : zQ := ((108, 20, 2, 2), [(0, ([(0, 3), (0, 4)], [(1, 0, 1), (1, 0, 4)], [], [some (.inl (.ref 101)), some (.inl (.ref 3)), some (.inl (.ref 73)), some (.inr (0, 0)), some (.inr (1, 0)), some (.inl (.ref 153)), none, none, none, none, none, none]), [(0, 0, 1), (0, 0, 0)])], [([], [], [], [some (.inl (.int 0))]),
  ([], [], [], [some (.inl (.int (-2)))]),
  ([(1, 12676)], [(1, 0, 60)], [], [some (.inl (.int (-9)))])], [12674, 12675, 12676, 12928, 13056, 13184, 13312, 13440, 13568, 13696, 13824, 13952, 14080, 14208, 14336, 14464, 14592, 14720, 14848, 14976, 14977, 19328, 19329])
set_option maxRecDepth 100000 in
theorem z_x380_ok : z_chk z_D s_P (z_clq z_D z_x380.2.2.2 s_P [z_x379, z_x378, z_x377, z_x13]) 3000 z_x380 = true := z_chk2_ok (by decide +kernel)
theorem z_x380_s {J : aH → Prop} (hJ : z_jl J) {X : aX} : z_spec J z_D s_P X z_x380 := z_ctx_ok (z_hlen hJ) (fun H0 C S => z_clq_ok (z_hlen hJ) (z_cons (z_x379_s hJ) (z_cons (z_x378_s hJ) (z_cons (z_x377_s hJ) (z_cons (z_x13_s hJ) (z_nil))))) _ H0 C S) z_x380_ok
/-- $Sets.findProduct 101 3 73 154 -/
def z_x381 : zQ := ((110, 17, 2, 2), [(0, ([(0, 3), (0, 4)], [(1, (-1), 40), (1, (-2147483648), 2147483647)], [], [some (.inl (.ref 101)), some (.inl (.ref 3)), some (.inl (.ref 73)), some (.inr (0, 0)), some (.inr (1, 0)), some (.inl (.ref 154)), none]), [(0, 0, 2), (0, 0, 0)]),
  (15, ([(0, 3), (0, 4), (0, 6), (1, 12676)], [(1, (-1), 40), (1, (-2147483648), 2147483647), (1, 0, 40), (1, (-1), 40)], [(0, 3, 0), (2, 3, 1)], [some (.inl (.ref 101)), some (.inl (.ref 3)), some (.inl (.ref 73)), some (.inr (0, 0)), some (.inr (1, 0)), some (.inl (.ref 154)), some (.inr (2, 0))]), [(0, 0, 1), (1, 2, 40)])], [([(1, 12676)], [(1, 0, 60)], [], [some (.inl (.int (-9)))]),
  ([(1, 12676)], [(1, 0, 60)], [], [some (.inl (.int 0))])], [12674, 12676, 12928, 13056, 13184, 13312, 13440, 13568, 13696, 13824, 13952, 14080, 14208, 14336, 14464, 14592, 14720, 14848, 14976, 14977, 19456, 19457])
set_option maxRecDepth 100000 in
theorem z_x381_ok : z_chk z_D s_P (z_clq z_D z_x381.2.2.2 s_P [z_x374, z_x172, z_x167, z_x143, z_x24]) 3000 z_x381 = true := z_chk2_ok (by decide +kernel)
theorem z_x381_s {J : aH → Prop} (hJ : z_jl J) {X : aX} : z_spec J z_D s_P X z_x381 := z_ctx_ok (z_hlen hJ) (fun H0 C S => z_clq_ok (z_hlen hJ) (z_cons (z_x374_s hJ) (z_cons (z_x172_s hJ) (z_cons (z_x167_s hJ) (z_cons (z_x143_s hJ) (z_cons (z_x24_s hJ) (z_nil)))))) _ H0 C S) z_x381_ok
/-- $Sets.findTerm 101 3 73 154 -/
def z_x382 : zQ := ((108, 20, 2, 2), [(0, ([(0, 3), (0, 4)], [(1, 1, 1), (1, 0, 4)], [], [some (.inl (.ref 101)), some (.inl (.ref 3)), some (.inl (.ref 73)), some (.inr (0, 0)), some (.inr (1, 0)), some (.inl (.ref 154)), none, none, none, none, none, none]), [(0, 0, 1), (0, 0, 0)])], [([], [], [], [some (.inl (.int 0))]),
  ([], [], [], [some (.inl (.int (-2)))]),
  ([(1, 12676)], [(1, 0, 60)], [], [some (.inl (.int (-9)))])], [12674, 12675, 12676, 12928, 13056, 13184, 13312, 13440, 13568, 13696, 13824, 13952, 14080, 14208, 14336, 14464, 14592, 14720, 14848, 14976, 14977, 19456, 19457])
set_option maxRecDepth 100000 in
theorem z_x382_ok : z_chk z_D s_P (z_clq z_D z_x382.2.2.2 s_P [z_x381, z_x379, z_x377, z_x24]) 3000 z_x382 = true := z_chk2_ok (by decide +kernel)
theorem z_x382_s {J : aH → Prop} (hJ : z_jl J) {X : aX} : z_spec J z_D s_P X z_x382 := z_ctx_ok (z_hlen hJ) (fun H0 C S => z_clq_ok (z_hlen hJ) (z_cons (z_x381_s hJ) (z_cons (z_x379_s hJ) (z_cons (z_x377_s hJ) (z_cons (z_x24_s hJ) (z_nil))))) _ H0 C S) z_x382_ok
/-- $Sets.findBeside 101 3 73 -/
def z_x383 : zQ := ((94, 20, 0, 2), [(0, ([], [], [], [some (.inl (.ref 101)), some (.inl (.ref 3)), some (.inl (.ref 73)), none, none, none, none, none, none, none, none]), [(0, 0, 1), (0, 0, 0)])], [([], [], [], [some (.inl (.int (-2)))]),
  ([(1, 12674), (1, 12676)], [(1, 0, 15), (1, 0, 60)], [], [some (.inl (.int 0))]),
  ([(1, 12674), (1, 12676)], [(1, 0, 15), (1, 0, 60)], [], [some (.inl (.int 1))])], [12674, 12675, 12676, 12928, 13056, 13184, 13312, 13440, 13568, 13696, 13824, 13952, 14080, 14208, 14336, 14464, 14592, 14720, 14848])
set_option maxRecDepth 100000 in
theorem z_x383_ok : z_chk z_D s_P (z_clq z_D z_x383.2.2.2 s_P [z_x379, z_x377, z_x376, z_x148, z_x143]) 3000 z_x383 = true := z_chk2_ok (by decide +kernel)
theorem z_x383_s {J : aH → Prop} (hJ : z_jl J) {X : aX} : z_spec J z_D s_P X z_x383 := z_ctx_ok (z_hlen hJ) (fun H0 C S => z_clq_ok (z_hlen hJ) (z_cons (z_x379_s hJ) (z_cons (z_x377_s hJ) (z_cons (z_x376_s hJ) (z_cons (z_x148_s hJ) (z_cons (z_x143_s hJ) (z_nil)))))) _ H0 C S) z_x383_ok
/-- .judge 2 73 -/
def z_x384 : zQ := ((93, 21, 1, 2), [(0, ([(0, 2)], [(1, 0, 4)], [], [some (.inl (.ref 2)), some (.inl (.ref 73)), some (.inr (0, 0)), none]), [(0, 0, 1), (0, 0, 0)])], [([(1, 143)], [(1, 1, 1)], [], [some (.inl (.int 1))]),
  ([(1, 143)], [(1, 1, 1)], [], [some (.inl (.int 0))]),
  ([(1, 143)], [(1, 1, 1)], [], [some (.inl (.int (-2)))]),
  ([(1, 143), (1, 12676)], [(1, 1, 1), (1, 0, 60)], [], [some (.inl (.int (-9)))])], [143, 1152, 12674, 12675, 12676, 12928, 13056, 13184, 13312, 13440, 13568, 13696, 13824, 13952, 14080, 14208, 14336, 14464, 14592, 14720, 14848, 14976, 14977, 19328, 19329, 19456, 19457])
set_option maxRecDepth 100000 in
theorem z_x384_ok : z_chk z_D s_P (z_clq z_D z_x384.2.2.2 s_P [z_x383, z_x382, z_x380, z_x27, z_x9]) 3000 z_x384 = true := z_chk2_ok (by decide +kernel)
theorem z_x384_s {J : aH → Prop} (hJ : z_jl J) {X : aX} : z_spec J z_D s_P X z_x384 := z_ctx_ok (z_hlen hJ) (fun H0 C S => z_clq_ok (z_hlen hJ) (z_cons (z_x383_s hJ) (z_cons (z_x382_s hJ) (z_cons (z_x380_s hJ) (z_cons (z_x27_s hJ) (z_cons (z_x9_s hJ) (z_nil)))))) _ H0 C S) z_x384_ok
/-- $Sets.readThing 101 80 (5,) -/
def z_x385 : zQ := ((100, 1, 4, 2), [(0, ([(0, 2), (1, 9985), (1, 12676), (1, 12674)], [(1, 5, 5), (1, 5, 40), (1, 5, 40), (1, 0, 16)], [], [some (.inl (.ref 101)), some (.inl (.ref 80)), some (.inr (0, 0)), none]), [(0, 0, 2), (0, 0, 0)]),
  (2, ([(0, 2), (0, 3), (1, 9985), (1, 12674), (1, 12676), (2, 3), (2, 2), (2, 1)], [(1, 5, 5), (1, 0, 1), (1, 5, 40), (1, 0, 16), (1, 5, 40), (1, 0, 16), (1, 5, 40), (1, 5, 40)], [(5, 3, 0), (6, 4, 0), (3, 5, 0), (2, 7, 0), (7, 2, 0)], [some (.inl (.ref 101)), some (.inl (.ref 80)), some (.inr (0, 0)), some (.inr (1, 0))]), [(0, 0, 1), (1, 4, 40)])], [([(2, 1), (1, 12674), (1, 12676), (2, 3), (2, 2)], [(1, 5, 40), (1, 0, 16), (1, 6, 41), (1, 0, 16), (1, 5, 40)], [(3, 1, 0), (4, 2, (-1)), (1, 3, 1)], [])], [12674, 12676, 12928, 13056, 13184, 13312, 13440, 13568, 13696, 13824, 13952, 14080, 14208, 14336, 14464, 14592, 14720, 14848])
set_option maxRecDepth 100000 in
theorem z_x385_ok : z_chk z_D s_P (z_clq z_D z_x385.2.2.2 s_P [z_x146, z_x145]) 3000 z_x385 = true := z_chk2_ok (by decide +kernel)
theorem z_x385_s {J : aH → Prop} (hJ : z_jl J) {X : aX} : z_spec J z_D s_P X z_x385 := z_ctx_ok (z_hlen hJ) (fun H0 C S => z_clq_ok (z_hlen hJ) (z_cons (z_x146_s hJ) (z_cons (z_x145_s hJ) (z_nil))) _ H0 C S) z_x385_ok
/-- $Sets.readAll 101 80 (5,) -/
def z_x386 : zQ := ((99, 2, 3, 2), [(0, ([(0, 2), (1, 9985), (1, 12676)], [(1, 5, 5), (1, 5, 40), (1, 5, 40)], [], [some (.inl (.ref 101)), some (.inl (.ref 80)), some (.inr (0, 0))]), [(0, 0, 2), (0, 0, 0)]),
  (6, ([(0, 2), (1, 9985), (1, 12676), (2, 2), (2, 1)], [(1, 5, 5), (1, 5, 40), (1, 6, 41), (1, 5, 40), (1, 5, 40)], [(3, 2, (-1)), (1, 4, 0), (4, 1, 0)], [some (.inl (.ref 101)), some (.inl (.ref 80)), some (.inr (0, 0))]), [(0, 0, 1), (1, 2, 40)])], [([(2, 1), (1, 12676), (2, 2)], [(1, 5, 40), (1, 6, 41), (1, 5, 40)], [(2, 1, (-1))], [])], [12674, 12676, 12928, 13056, 13184, 13312, 13440, 13568, 13696, 13824, 13952, 14080, 14208, 14336, 14464, 14592, 14720, 14848])
set_option maxRecDepth 100000 in
theorem z_x386_ok : z_chk z_D s_P (z_clq z_D z_x386.2.2.2 s_P [z_x385, z_x148]) 3000 z_x386 = true := z_chk2_ok (by decide +kernel)
theorem z_x386_s {J : aH → Prop} (hJ : z_jl J) {X : aX} : z_spec J z_D s_P X z_x386 := z_ctx_ok (z_hlen hJ) (fun H0 C S => z_clq_ok (z_hlen hJ) (z_cons (z_x385_s hJ) (z_cons (z_x148_s hJ) (z_nil))) _ H0 C S) z_x386_ok
/-- $Sets.readAny 101 80 (5,) -/
def z_x387 : zQ := ((98, 3, 3, 2), [(0, ([(0, 2), (1, 9985), (1, 12676)], [(1, 5, 5), (1, 5, 40), (1, 5, 40)], [], [some (.inl (.ref 101)), some (.inl (.ref 80)), some (.inr (0, 0))]), [(0, 0, 2), (0, 0, 0)]),
  (6, ([(0, 2), (1, 9985), (1, 12676), (2, 2), (2, 1)], [(1, 5, 5), (1, 5, 40), (1, 6, 41), (1, 5, 40), (1, 5, 40)], [(3, 2, (-1)), (1, 4, 0), (4, 1, 0)], [some (.inl (.ref 101)), some (.inl (.ref 80)), some (.inr (0, 0))]), [(0, 0, 1), (1, 2, 40)])], [([(2, 1), (1, 12676), (2, 2)], [(1, 5, 40), (1, 6, 41), (1, 5, 40)], [(2, 1, (-1))], [])], [12674, 12676, 12928, 13056, 13184, 13312, 13440, 13568, 13696, 13824, 13952, 14080, 14208, 14336, 14464, 14592, 14720, 14848])
set_option maxRecDepth 100000 in
theorem z_x387_ok : z_chk z_D s_P (z_clq z_D z_x387.2.2.2 s_P [z_x386, z_x144]) 3000 z_x387 = true := z_chk2_ok (by decide +kernel)
theorem z_x387_s {J : aH → Prop} (hJ : z_jl J) {X : aX} : z_spec J z_D s_P X z_x387 := z_ctx_ok (z_hlen hJ) (fun H0 C S => z_clq_ok (z_hlen hJ) (z_cons (z_x386_s hJ) (z_cons (z_x144_s hJ) (z_nil))) _ H0 C S) z_x387_ok
/-- $Sets.readThing 101 80 (4,) -/
def z_x388 : zQ := ((100, 4, 4, 2), [(0, ([(0, 2), (1, 9985), (1, 12676), (1, 12674)], [(1, 4, 4), (1, 4, 40), (1, 4, 40), (1, 0, 16)], [], [some (.inl (.ref 101)), some (.inl (.ref 80)), some (.inr (0, 0)), none]), [(0, 0, 2), (0, 0, 0)]),
  (2, ([(0, 2), (0, 3), (1, 9985), (1, 12674), (1, 12676), (2, 3), (2, 2), (2, 1)], [(1, 4, 4), (1, 0, 1), (1, 4, 40), (1, 0, 16), (1, 4, 40), (1, 0, 16), (1, 4, 40), (1, 4, 40)], [(5, 3, 0), (6, 4, 0), (3, 5, 0), (2, 7, 0), (7, 2, 0)], [some (.inl (.ref 101)), some (.inl (.ref 80)), some (.inr (0, 0)), some (.inr (1, 0))]), [(0, 0, 1), (1, 4, 40)])], [([(2, 1), (1, 12676), (2, 2)], [(1, 4, 40), (1, 5, 42), (1, 4, 40)], [(2, 1, (-1))], [])], [12674, 12676, 12928, 13056, 13184, 13312, 13440, 13568, 13696, 13824, 13952, 14080, 14208, 14336, 14464, 14592, 14720, 14848])
set_option maxRecDepth 100000 in
theorem z_x388_ok : z_chk z_D s_P (z_clq z_D z_x388.2.2.2 s_P [z_x387, z_x146, z_x145]) 3000 z_x388 = true := z_chk2_ok (by decide +kernel)
theorem z_x388_s {J : aH → Prop} (hJ : z_jl J) {X : aX} : z_spec J z_D s_P X z_x388 := z_ctx_ok (z_hlen hJ) (fun H0 C S => z_clq_ok (z_hlen hJ) (z_cons (z_x387_s hJ) (z_cons (z_x146_s hJ) (z_cons (z_x145_s hJ) (z_nil)))) _ H0 C S) z_x388_ok
/-- $Sets.readAll 101 80 (4,) -/
def z_x389 : zQ := ((99, 5, 3, 2), [(0, ([(0, 2), (1, 9985), (1, 12676)], [(1, 4, 4), (1, 4, 40), (1, 4, 40)], [], [some (.inl (.ref 101)), some (.inl (.ref 80)), some (.inr (0, 0))]), [(0, 0, 2), (0, 0, 0)]),
  (6, ([(0, 2), (1, 9985), (1, 12676), (2, 2), (2, 1)], [(1, 4, 4), (1, 4, 40), (1, 5, 42), (1, 4, 40), (1, 4, 40)], [(3, 2, (-1)), (1, 4, 0), (4, 1, 0)], [some (.inl (.ref 101)), some (.inl (.ref 80)), some (.inr (0, 0))]), [(0, 0, 1), (1, 2, 40)])], [([(2, 1), (1, 12676), (2, 2)], [(1, 4, 40), (1, 5, 42), (1, 4, 40)], [(2, 1, (-1))], [])], [12674, 12676, 12928, 13056, 13184, 13312, 13440, 13568, 13696, 13824, 13952, 14080, 14208, 14336, 14464, 14592, 14720, 14848])
set_option maxRecDepth 100000 in
theorem z_x389_ok : z_chk z_D s_P (z_clq z_D z_x389.2.2.2 s_P [z_x388, z_x148]) 3000 z_x389 = true := z_chk2_ok (by decide +kernel)
theorem z_x389_s {J : aH → Prop} (hJ : z_jl J) {X : aX} : z_spec J z_D s_P X z_x389 := z_ctx_ok (z_hlen hJ) (fun H0 C S => z_clq_ok (z_hlen hJ) (z_cons (z_x388_s hJ) (z_cons (z_x148_s hJ) (z_nil))) _ H0 C S) z_x389_ok
