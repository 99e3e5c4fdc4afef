/-! ===== v2: contexts of the class (laid by wip/tools/print5.py) ===== -/
/-- $Sets.readAny 101 80 (4,) -/
def z_x390 : zQ := ((98, 6, 3, 2), [(0, ([(0, 2), (1, 9985), (1, 12676)], [(1, 4, 4), (1, 4, 40), (1, 4, 40)], [], [some (.inl (.ref 101)), some (.inl (.ref 80)), some (.inr (0, 0))]), [(0, 0, 2), (0, 0, 0)]),
  (6, ([(0, 2), (1, 9985), (1, 12676), (2, 2), (2, 1)], [(1, 4, 4), (1, 4, 40), (1, 5, 42), (1, 4, 40), (1, 4, 40)], [(3, 2, (-1)), (1, 4, 0), (4, 1, 0)], [some (.inl (.ref 101)), some (.inl (.ref 80)), some (.inr (0, 0))]), [(0, 0, 1), (1, 2, 40)])], [([(2, 1), (1, 12676), (2, 2)], [(1, 4, 40), (1, 5, 42), (1, 4, 40)], [(2, 1, (-1))], [])], [12674, 12676, 12928, 13056, 13184, 13312, 13440, 13568, 13696, 13824, 13952, 14080, 14208, 14336, 14464, 14592, 14720, 14848])
set_option maxRecDepth 100000 in
theorem z_x390_ok : z_chk z_D s_P (z_clq z_D z_x390.2.2.2 s_P [z_x389, z_x144]) 3000 z_x390 = true := z_chk2_ok (by decide +kernel)
theorem z_x390_s {J : aH → Prop} (hJ : z_jl J) {X : aX} : z_spec J z_D s_P X z_x390 := z_ctx_ok (z_hlen hJ) (fun H0 C S => z_clq_ok (z_hlen hJ) (z_cons (z_x389_s hJ) (z_cons (z_x144_s hJ) (z_nil))) _ H0 C S) z_x390_ok
/-- $Sets.readThing 101 80 (3,) -/
def z_x391 : zQ := ((100, 7, 4, 2), [(0, ([(0, 2), (1, 9985), (1, 12676), (1, 12674)], [(1, 3, 3), (1, 3, 40), (1, 3, 40), (1, 0, 16)], [], [some (.inl (.ref 101)), some (.inl (.ref 80)), some (.inr (0, 0)), none]), [(0, 0, 2), (0, 0, 0)]),
  (2, ([(0, 2), (0, 3), (1, 9985), (1, 12674), (1, 12676), (2, 3), (2, 2), (2, 1)], [(1, 3, 3), (1, 0, 1), (1, 3, 40), (1, 0, 16), (1, 3, 40), (1, 0, 16), (1, 3, 40), (1, 3, 40)], [(5, 3, 0), (6, 4, 0), (3, 5, 0), (2, 7, 0), (7, 2, 0)], [some (.inl (.ref 101)), some (.inl (.ref 80)), some (.inr (0, 0)), some (.inr (1, 0))]), [(0, 0, 1), (1, 4, 40)])], [([(2, 1), (1, 12676), (2, 2)], [(1, 3, 40), (1, 4, 47), (1, 3, 40)], [(2, 1, (-1))], [])], [12674, 12676, 12928, 13056, 13184, 13312, 13440, 13568, 13696, 13824, 13952, 14080, 14208, 14336, 14464, 14592, 14720, 14848])
set_option maxRecDepth 100000 in
theorem z_x391_ok : z_chk z_D s_P (z_clq z_D z_x391.2.2.2 s_P [z_x390, z_x146, z_x145]) 3000 z_x391 = true := z_chk2_ok (by decide +kernel)
theorem z_x391_s {J : aH → Prop} (hJ : z_jl J) {X : aX} : z_spec J z_D s_P X z_x391 := z_ctx_ok (z_hlen hJ) (fun H0 C S => z_clq_ok (z_hlen hJ) (z_cons (z_x390_s hJ) (z_cons (z_x146_s hJ) (z_cons (z_x145_s hJ) (z_nil)))) _ H0 C S) z_x391_ok
/-- $Sets.readAll 101 80 (3,) -/
def z_x392 : zQ := ((99, 8, 3, 2), [(0, ([(0, 2), (1, 9985), (1, 12676)], [(1, 3, 3), (1, 3, 40), (1, 3, 40)], [], [some (.inl (.ref 101)), some (.inl (.ref 80)), some (.inr (0, 0))]), [(0, 0, 2), (0, 0, 0)]),
  (6, ([(0, 2), (1, 9985), (1, 12676), (2, 2), (2, 1)], [(1, 3, 3), (1, 3, 40), (1, 4, 47), (1, 3, 40), (1, 3, 40)], [(3, 2, (-1)), (1, 4, 0), (4, 1, 0)], [some (.inl (.ref 101)), some (.inl (.ref 80)), some (.inr (0, 0))]), [(0, 0, 1), (1, 2, 40)])], [([(2, 1), (1, 12676), (2, 2)], [(1, 3, 40), (1, 4, 47), (1, 3, 40)], [(2, 1, (-1))], [])], [12674, 12676, 12928, 13056, 13184, 13312, 13440, 13568, 13696, 13824, 13952, 14080, 14208, 14336, 14464, 14592, 14720, 14848])
set_option maxRecDepth 100000 in
theorem z_x392_ok : z_chk z_D s_P (z_clq z_D z_x392.2.2.2 s_P [z_x391, z_x148]) 3000 z_x392 = true := z_chk2_ok (by decide +kernel)
theorem z_x392_s {J : aH → Prop} (hJ : z_jl J) {X : aX} : z_spec J z_D s_P X z_x392 := z_ctx_ok (z_hlen hJ) (fun H0 C S => z_clq_ok (z_hlen hJ) (z_cons (z_x391_s hJ) (z_cons (z_x148_s hJ) (z_nil))) _ H0 C S) z_x392_ok
/-- $Sets.readAny 101 80 (3,) -/
def z_x393 : zQ := ((98, 9, 3, 2), [(0, ([(0, 2), (1, 9985), (1, 12676)], [(1, 3, 3), (1, 3, 40), (1, 3, 40)], [], [some (.inl (.ref 101)), some (.inl (.ref 80)), some (.inr (0, 0))]), [(0, 0, 2), (0, 0, 0)]),
  (6, ([(0, 2), (1, 9985), (1, 12676), (2, 2), (2, 1)], [(1, 3, 3), (1, 3, 40), (1, 4, 47), (1, 3, 40), (1, 3, 40)], [(3, 2, (-1)), (1, 4, 0), (4, 1, 0)], [some (.inl (.ref 101)), some (.inl (.ref 80)), some (.inr (0, 0))]), [(0, 0, 1), (1, 2, 40)])], [([(2, 1), (1, 12676), (2, 2)], [(1, 3, 40), (1, 4, 47), (1, 3, 40)], [(2, 1, (-1))], [])], [12674, 12676, 12928, 13056, 13184, 13312, 13440, 13568, 13696, 13824, 13952, 14080, 14208, 14336, 14464, 14592, 14720, 14848])
set_option maxRecDepth 100000 in
theorem z_x393_ok : z_chk z_D s_P (z_clq z_D z_x393.2.2.2 s_P [z_x392, z_x144]) 3000 z_x393 = true := z_chk2_ok (by decide +kernel)
theorem z_x393_s {J : aH → Prop} (hJ : z_jl J) {X : aX} : z_spec J z_D s_P X z_x393 := z_ctx_ok (z_hlen hJ) (fun H0 C S => z_clq_ok (z_hlen hJ) (z_cons (z_x392_s hJ) (z_cons (z_x144_s hJ) (z_nil))) _ H0 C S) z_x393_ok
/-- $Sets.readThing 101 80 (2,) -/
def z_x394 : zQ := ((100, 10, 4, 2), [(0, ([(0, 2), (1, 9985), (1, 12676), (1, 12674)], [(1, 2, 2), (1, 2, 40), (1, 2, 40), (1, 0, 16)], [], [some (.inl (.ref 101)), some (.inl (.ref 80)), some (.inr (0, 0)), none]), [(0, 0, 2), (0, 0, 0)]),
  (2, ([(0, 2), (0, 3), (1, 9985), (1, 12674), (1, 12676), (2, 3), (2, 2), (2, 1)], [(1, 2, 2), (1, 0, 1), (1, 2, 40), (1, 0, 16), (1, 2, 40), (1, 0, 16), (1, 2, 40), (1, 2, 40)], [(1, 4, (-2)), (5, 3, 0), (6, 4, 0), (3, 5, 0), (2, 7, 0), (7, 2, 0)], [some (.inl (.ref 101)), some (.inl (.ref 80)), some (.inr (0, 0)), some (.inr (1, 0))]), [(0, 0, 1), (1, 4, 40)])], [([(2, 1), (1, 12676), (2, 2)], [(1, 2, 40), (1, 3, 48), (1, 2, 40)], [(2, 1, (-1))], [])], [12674, 12676, 12928, 13056, 13184, 13312, 13440, 13568, 13696, 13824, 13952, 14080, 14208, 14336, 14464, 14592, 14720, 14848])
set_option maxRecDepth 100000 in
theorem z_x394_ok : z_chk z_D s_P (z_clq z_D z_x394.2.2.2 s_P [z_x393, z_x146, z_x145]) 3000 z_x394 = true := z_chk2_ok (by decide +kernel)
theorem z_x394_s {J : aH → Prop} (hJ : z_jl J) {X : aX} : z_spec J z_D s_P X z_x394 := z_ctx_ok (z_hlen hJ) (fun H0 C S => z_clq_ok (z_hlen hJ) (z_cons (z_x393_s hJ) (z_cons (z_x146_s hJ) (z_cons (z_x145_s hJ) (z_nil)))) _ H0 C S) z_x394_ok
/-- $Sets.readAll 101 80 (2,) -/
def z_x395 : zQ := ((99, 11, 3, 2), [(0, ([(0, 2), (1, 9985), (1, 12676)], [(1, 2, 2), (1, 2, 40), (1, 2, 40)], [], [some (.inl (.ref 101)), some (.inl (.ref 80)), some (.inr (0, 0))]), [(0, 0, 2), (0, 0, 0)]),
  (6, ([(0, 2), (1, 9985), (1, 12676), (2, 2), (2, 1)], [(1, 2, 2), (1, 2, 40), (1, 3, 48), (1, 2, 40), (1, 2, 40)], [(3, 2, (-1)), (1, 4, 0), (4, 1, 0)], [some (.inl (.ref 101)), some (.inl (.ref 80)), some (.inr (0, 0))]), [(0, 0, 1), (1, 2, 40)])], [([(2, 1), (1, 12676), (2, 2)], [(1, 2, 40), (1, 3, 48), (1, 2, 40)], [(2, 1, (-1))], [])], [12674, 12676, 12928, 13056, 13184, 13312, 13440, 13568, 13696, 13824, 13952, 14080, 14208, 14336, 14464, 14592, 14720, 14848])
set_option maxRecDepth 100000 in
theorem z_x395_ok : z_chk z_D s_P (z_clq z_D z_x395.2.2.2 s_P [z_x394, z_x148]) 3000 z_x395 = true := z_chk2_ok (by decide +kernel)
theorem z_x395_s {J : aH → Prop} (hJ : z_jl J) {X : aX} : z_spec J z_D s_P X z_x395 := z_ctx_ok (z_hlen hJ) (fun H0 C S => z_clq_ok (z_hlen hJ) (z_cons (z_x394_s hJ) (z_cons (z_x148_s hJ) (z_nil))) _ H0 C S) z_x395_ok
/-- $Sets.readAny 101 80 (2,) -/
def z_x396 : zQ := ((98, 12, 3, 2), [(0, ([(0, 2), (1, 9985), (1, 12676)], [(1, 2, 2), (1, 2, 40), (1, 2, 40)], [], [some (.inl (.ref 101)), some (.inl (.ref 80)), some (.inr (0, 0))]), [(0, 0, 2), (0, 0, 0)]),
  (6, ([(0, 2), (1, 9985), (1, 12676), (2, 2), (2, 1)], [(1, 2, 2), (1, 2, 40), (1, 3, 48), (1, 2, 40), (1, 2, 40)], [(3, 2, (-1)), (1, 4, 0), (4, 1, 0)], [some (.inl (.ref 101)), some (.inl (.ref 80)), some (.inr (0, 0))]), [(0, 0, 1), (1, 2, 40)])], [([(2, 1), (1, 12676), (2, 2)], [(1, 2, 40), (1, 3, 48), (1, 2, 40)], [(2, 1, (-1))], [])], [12674, 12676, 12928, 13056, 13184, 13312, 13440, 13568, 13696, 13824, 13952, 14080, 14208, 14336, 14464, 14592, 14720, 14848])
set_option maxRecDepth 100000 in
theorem z_x396_ok : z_chk z_D s_P (z_clq z_D z_x396.2.2.2 s_P [z_x395, z_x144]) 3000 z_x396 = true := z_chk2_ok (by decide +kernel)
theorem z_x396_s {J : aH → Prop} (hJ : z_jl J) {X : aX} : z_spec J z_D s_P X z_x396 := z_ctx_ok (z_hlen hJ) (fun H0 C S => z_clq_ok (z_hlen hJ) (z_cons (z_x395_s hJ) (z_cons (z_x144_s hJ) (z_nil))) _ H0 C S) z_x396_ok
/-- $Sets.readThing 101 80 (1,) -/
def z_x397 : zQ := ((100, 13, 4, 2), [(0, ([(0, 2), (1, 9985), (1, 12676), (1, 12674)], [(1, 1, 1), (1, 1, 40), (1, 1, 40), (1, 0, 16)], [], [some (.inl (.ref 101)), some (.inl (.ref 80)), some (.inr (0, 0)), none]), [(0, 0, 2), (0, 0, 0)]),
  (2, ([(0, 2), (0, 3), (1, 9985), (1, 12674), (1, 12676), (2, 3), (2, 2), (2, 1)], [(1, 1, 1), (1, 0, 1), (1, 1, 40), (1, 0, 16), (1, 1, 40), (1, 0, 16), (1, 1, 40), (1, 1, 40)], [(1, 4, (-1)), (5, 3, 0), (6, 4, 0), (3, 5, 0), (2, 7, 0), (7, 2, 0)], [some (.inl (.ref 101)), some (.inl (.ref 80)), some (.inr (0, 0)), some (.inr (1, 0))]), [(0, 0, 1), (1, 4, 40)])], [([(2, 1), (1, 12676), (2, 2)], [(1, 1, 40), (1, 2, 59), (1, 1, 40)], [(2, 1, (-1))], [])], [12674, 12676, 12928, 13056, 13184, 13312, 13440, 13568, 13696, 13824, 13952, 14080, 14208, 14336, 14464, 14592, 14720, 14848])
set_option maxRecDepth 100000 in
theorem z_x397_ok : z_chk z_D s_P (z_clq z_D z_x397.2.2.2 s_P [z_x396, z_x146, z_x145]) 3000 z_x397 = true := z_chk2_ok (by decide +kernel)
theorem z_x397_s {J : aH → Prop} (hJ : z_jl J) {X : aX} : z_spec J z_D s_P X z_x397 := z_ctx_ok (z_hlen hJ) (fun H0 C S => z_clq_ok (z_hlen hJ) (z_cons (z_x396_s hJ) (z_cons (z_x146_s hJ) (z_cons (z_x145_s hJ) (z_nil)))) _ H0 C S) z_x397_ok
/-- $Sets.readAll 101 80 (1,) -/
def z_x398 : zQ := ((99, 14, 3, 2), [(0, ([(0, 2), (1, 9985), (1, 12676)], [(1, 1, 1), (1, 1, 40), (1, 1, 40)], [], [some (.inl (.ref 101)), some (.inl (.ref 80)), some (.inr (0, 0))]), [(0, 0, 2), (0, 0, 0)]),
  (6, ([(0, 2), (1, 9985), (1, 12676), (2, 2), (2, 1)], [(1, 1, 1), (1, 1, 40), (1, 2, 59), (1, 1, 40), (1, 1, 40)], [(3, 2, (-1)), (1, 4, 0), (4, 1, 0)], [some (.inl (.ref 101)), some (.inl (.ref 80)), some (.inr (0, 0))]), [(0, 0, 1), (1, 2, 40)])], [([(2, 1), (1, 12676), (2, 2)], [(1, 1, 40), (1, 2, 59), (1, 1, 40)], [(2, 1, (-1))], [])], [12674, 12676, 12928, 13056, 13184, 13312, 13440, 13568, 13696, 13824, 13952, 14080, 14208, 14336, 14464, 14592, 14720, 14848])
set_option maxRecDepth 100000 in
theorem z_x398_ok : z_chk z_D s_P (z_clq z_D z_x398.2.2.2 s_P [z_x397, z_x148]) 3000 z_x398 = true := z_chk2_ok (by decide +kernel)
theorem z_x398_s {J : aH → Prop} (hJ : z_jl J) {X : aX} : z_spec J z_D s_P X z_x398 := z_ctx_ok (z_hlen hJ) (fun H0 C S => z_clq_ok (z_hlen hJ) (z_cons (z_x397_s hJ) (z_cons (z_x148_s hJ) (z_nil))) _ H0 C S) z_x398_ok
/-- $Sets.readAny 101 80 (1,) -/
def z_x399 : zQ := ((98, 15, 3, 2), [(0, ([(0, 2), (1, 9985), (1, 12676)], [(1, 1, 1), (1, 1, 40), (1, 1, 40)], [], [some (.inl (.ref 101)), some (.inl (.ref 80)), some (.inr (0, 0))]), [(0, 0, 2), (0, 0, 0)]),
  (6, ([(0, 2), (1, 9985), (1, 12676), (2, 2), (2, 1)], [(1, 1, 1), (1, 1, 40), (1, 2, 59), (1, 1, 40), (1, 1, 40)], [(3, 2, (-1)), (1, 4, 0), (4, 1, 0)], [some (.inl (.ref 101)), some (.inl (.ref 80)), some (.inr (0, 0))]), [(0, 0, 1), (1, 2, 40)])], [([(2, 1), (1, 12676), (2, 2)], [(1, 1, 40), (1, 2, 59), (1, 1, 40)], [(2, 1, (-1))], [])], [12674, 12676, 12928, 13056, 13184, 13312, 13440, 13568, 13696, 13824, 13952, 14080, 14208, 14336, 14464, 14592, 14720, 14848])
set_option maxRecDepth 100000 in
theorem z_x399_ok : z_chk z_D s_P (z_clq z_D z_x399.2.2.2 s_P [z_x398, z_x144]) 3000 z_x399 = true := z_chk2_ok (by decide +kernel)
theorem z_x399_s {J : aH → Prop} (hJ : z_jl J) {X : aX} : z_spec J z_D s_P X z_x399 := z_ctx_ok (z_hlen hJ) (fun H0 C S => z_clq_ok (z_hlen hJ) (z_cons (z_x398_s hJ) (z_cons (z_x144_s hJ) (z_nil))) _ H0 C S) z_x399_ok
/-- $Sets.readThing 101 80 (0,) -/
def z_x400 : zQ := ((100, 16, 3, 2), [(0, ([(0, 2), (1, 12676), (1, 12674)], [(1, 0, 0), (1, (-1), 40), (1, 0, 16)], [], [some (.inl (.ref 101)), some (.inl (.ref 80)), some (.inr (0, 0)), none]), [(0, 0, 2), (0, 0, 0)]),
  (2, ([(0, 2), (0, 3), (1, 12674), (1, 12676), (2, 2), (2, 1)], [(1, 0, 0), (1, 0, 1), (1, 0, 16), (1, (-1), 40), (1, 0, 16), (1, (-1), 40)], [(1, 3, 1), (4, 2, 0), (5, 3, 0), (2, 4, 0)], [some (.inl (.ref 101)), some (.inl (.ref 80)), some (.inr (0, 0)), some (.inr (1, 0))]), [(0, 0, 1), (1, 3, 40)])], [([(1, 12676), (2, 1)], [(1, 0, 60), (1, (-1), 40)], [(1, 0, (-1))], [])], [12674, 12676, 12928, 13056, 13184, 13312, 13440, 13568, 13696, 13824, 13952, 14080, 14208, 14336, 14464, 14592, 14720, 14848])
set_option maxRecDepth 100000 in
theorem z_x400_ok : z_chk z_D s_P (z_clq z_D z_x400.2.2.2 s_P [z_x399, z_x146, z_x145]) 3000 z_x400 = true := z_chk2_ok (by decide +kernel)
theorem z_x400_s {J : aH → Prop} (hJ : z_jl J) {X : aX} : z_spec J z_D s_P X z_x400 := z_ctx_ok (z_hlen hJ) (fun H0 C S => z_clq_ok (z_hlen hJ) (z_cons (z_x399_s hJ) (z_cons (z_x146_s hJ) (z_cons (z_x145_s hJ) (z_nil)))) _ H0 C S) z_x400_ok
/-- $Sets.readAll 101 80 (0,) -/
def z_x401 : zQ := ((99, 17, 2, 2), [(0, ([(0, 2), (1, 12676)], [(1, 0, 0), (1, (-1), 40)], [], [some (.inl (.ref 101)), some (.inl (.ref 80)), some (.inr (0, 0))]), [(0, 0, 2), (0, 0, 0)]),
  (6, ([(0, 2), (1, 12676), (2, 1)], [(1, 0, 0), (1, 0, 60), (1, (-1), 40)], [(2, 1, (-1))], [some (.inl (.ref 101)), some (.inl (.ref 80)), some (.inr (0, 0))]), [(0, 0, 1), (1, 1, 40)])], [([(1, 12676), (2, 1)], [(1, 0, 60), (1, (-1), 40)], [(1, 0, (-1))], [])], [12674, 12676, 12928, 13056, 13184, 13312, 13440, 13568, 13696, 13824, 13952, 14080, 14208, 14336, 14464, 14592, 14720, 14848])
set_option maxRecDepth 100000 in
theorem z_x401_ok : z_chk z_D s_P (z_clq z_D z_x401.2.2.2 s_P [z_x400, z_x148]) 3000 z_x401 = true := z_chk2_ok (by decide +kernel)
theorem z_x401_s {J : aH → Prop} (hJ : z_jl J) {X : aX} : z_spec J z_D s_P X z_x401 := z_ctx_ok (z_hlen hJ) (fun H0 C S => z_clq_ok (z_hlen hJ) (z_cons (z_x400_s hJ) (z_cons (z_x148_s hJ) (z_nil))) _ H0 C S) z_x401_ok
/-- $Sets.readAny 101 80 (0,) -/
def z_x402 : zQ := ((98, 18, 2, 2), [(0, ([(0, 2), (1, 12676)], [(1, 0, 0), (1, (-1), 40)], [], [some (.inl (.ref 101)), some (.inl (.ref 80)), some (.inr (0, 0))]), [(0, 0, 2), (0, 0, 0)]),
  (6, ([(0, 2), (1, 12676), (2, 1)], [(1, 0, 0), (1, 0, 60), (1, (-1), 40)], [(2, 1, (-1))], [some (.inl (.ref 101)), some (.inl (.ref 80)), some (.inr (0, 0))]), [(0, 0, 1), (1, 1, 40)])], [([(1, 12676), (2, 1)], [(1, 0, 60), (1, (-1), 40)], [(1, 0, (-1))], [])], [12674, 12676, 12928, 13056, 13184, 13312, 13440, 13568, 13696, 13824, 13952, 14080, 14208, 14336, 14464, 14592, 14720, 14848])
set_option maxRecDepth 100000 in
theorem z_x402_ok : z_chk z_D s_P (z_clq z_D z_x402.2.2.2 s_P [z_x401, z_x144]) 3000 z_x402 = true := z_chk2_ok (by decide +kernel)
theorem z_x402_s {J : aH → Prop} (hJ : z_jl J) {X : aX} : z_spec J z_D s_P X z_x402 := z_ctx_ok (z_hlen hJ) (fun H0 C S => z_clq_ok (z_hlen hJ) (z_cons (z_x401_s hJ) (z_cons (z_x144_s hJ) (z_nil))) _ H0 C S) z_x402_ok
/-- $Sets.weighEvent 101 3 80 -/
def z_x403 : zQ := ((107, 19, 1, 2), [(0, ([(0, 3)], [(1, (-1), 40)], [], [some (.inl (.ref 101)), some (.inl (.ref 3)), some (.inl (.ref 80)), some (.inr (0, 0))]), [(0, 0, 1), (0, 0, 0)])], [([(0, 0), (1, 12676)], [(1, (-2147483648), 2147483647), (1, 0, 60)], [], [some (.inr (0, 0))])], [12674, 12676, 12928, 13056, 13184, 13312, 13440, 13568, 13696, 13824, 13952, 14080, 14208, 14336, 14464, 14592, 14720, 14848])
set_option maxRecDepth 100000 in
theorem z_x403_ok : z_chk z_D s_P (z_clq z_D z_x403.2.2.2 s_P [z_x402, z_x143]) 3000 z_x403 = true := z_chk2_ok (by decide +kernel)
theorem z_x403_s {J : aH → Prop} (hJ : z_jl J) {X : aX} : z_spec J z_D s_P X z_x403 := z_ctx_ok (z_hlen hJ) (fun H0 C S => z_clq_ok (z_hlen hJ) (z_cons (z_x402_s hJ) (z_cons (z_x143_s hJ) (z_nil))) _ H0 C S) z_x403_ok
/-- $Sets.findProduct 101 3 80 153 -/
def z_x404 : zQ := ((110, 17, 2, 2), [(0, ([(0, 3), (0, 4)], [(1, (-1), 40), (1, (-2147483648), 2147483647)], [], [some (.inl (.ref 101)), some (.inl (.ref 3)), some (.inl (.ref 80)), some (.inr (0, 0)), some (.inr (1, 0)), some (.inl (.ref 153)), none]), [(0, 0, 2), (0, 0, 0)]),
  (15, ([(0, 3), (0, 4), (0, 6), (1, 12676)], [(1, (-1), 40), (1, (-2147483648), 2147483647), (1, 0, 40), (1, (-1), 40)], [(0, 3, 0), (2, 3, 1)], [some (.inl (.ref 101)), some (.inl (.ref 3)), some (.inl (.ref 80)), some (.inr (0, 0)), some (.inr (1, 0)), some (.inl (.ref 153)), some (.inr (2, 0))]), [(0, 0, 1), (1, 2, 40)])], [([(1, 12676)], [(1, 0, 60)], [], [some (.inl (.int (-9)))]),
  ([(1, 12676)], [(1, 0, 60)], [], [some (.inl (.int 0))])], [12674, 12676, 12928, 13056, 13184, 13312, 13440, 13568, 13696, 13824, 13952, 14080, 14208, 14336, 14464, 14592, 14720, 14848, 14976, 14977, 19328, 19329])
set_option maxRecDepth 100000 in
theorem z_x404_ok : z_chk z_D s_P (z_clq z_D z_x404.2.2.2 s_P [z_x400, z_x167, z_x143, z_x38, z_x13]) 3000 z_x404 = true := z_chk2_ok (by decide +kernel)
theorem z_x404_s {J : aH → Prop} (hJ : z_jl J) {X : aX} : z_spec J z_D s_P X z_x404 := z_ctx_ok (z_hlen hJ) (fun H0 C S => z_clq_ok (z_hlen hJ) (z_cons (z_x400_s hJ) (z_cons (z_x167_s hJ) (z_cons (z_x143_s hJ) (z_cons (z_x38_s hJ) (z_cons (z_x13_s hJ) (z_nil)))))) _ H0 C S) z_x404_ok
/-- $Sets.weighGiven 101 3 80 -/
def z_x405 : zQ := ((95, 19, 1, 2), [(0, ([(0, 3)], [(1, (-1), 40)], [], [some (.inl (.ref 101)), some (.inl (.ref 3)), some (.inl (.ref 80)), some (.inr (0, 0))]), [(0, 0, 1), (0, 0, 0)])], [([(0, 0)], [(1, (-2147483648), 2147483647)], [], [some (.inr (0, 0))])], [12674, 12675, 12676, 12928, 13056, 13184, 13312, 13440, 13568, 13696, 13824, 13952, 14080, 14208, 14336, 14464, 14592, 14720, 14848])
set_option maxRecDepth 100000 in
theorem z_x405_ok : z_chk z_D s_P (z_clq z_D z_x405.2.2.2 s_P [z_x402, z_x169, z_x143]) 3000 z_x405 = true := z_chk2_ok (by decide +kernel)
theorem z_x405_s {J : aH → Prop} (hJ : z_jl J) {X : aX} : z_spec J z_D s_P X z_x405 := z_ctx_ok (z_hlen hJ) (fun H0 C S => z_clq_ok (z_hlen hJ) (z_cons (z_x402_s hJ) (z_cons (z_x169_s hJ) (z_cons (z_x143_s hJ) (z_nil)))) _ H0 C S) z_x405_ok
/-- $Sets.findTerm 101 3 80 153 -/
def z_x406 : zQ := ((108, 20, 2, 2), [(0, ([(0, 3), (0, 4)], [(1, 0, 1), (1, 0, 4)], [], [some (.inl (.ref 101)), some (.inl (.ref 3)), some (.inl (.ref 80)), some (.inr (0, 0)), some (.inr (1, 0)), some (.inl (.ref 153)), none, none, none, none, none, none]), [(0, 0, 1), (0, 0, 0)])], [([], [], [], [some (.inl (.int 0))]),
  ([], [], [], [some (.inl (.int (-2)))]),
  ([(1, 12676)], [(1, 0, 60)], [], [some (.inl (.int (-9)))])], [12674, 12675, 12676, 12928, 13056, 13184, 13312, 13440, 13568, 13696, 13824, 13952, 14080, 14208, 14336, 14464, 14592, 14720, 14848, 14976, 14977, 19328, 19329])
set_option maxRecDepth 100000 in
theorem z_x406_ok : z_chk z_D s_P (z_clq z_D z_x406.2.2.2 s_P [z_x405, z_x404, z_x403, z_x13]) 3000 z_x406 = true := z_chk2_ok (by decide +kernel)
theorem z_x406_s {J : aH → Prop} (hJ : z_jl J) {X : aX} : z_spec J z_D s_P X z_x406 := z_ctx_ok (z_hlen hJ) (fun H0 C S => z_clq_ok (z_hlen hJ) (z_cons (z_x405_s hJ) (z_cons (z_x404_s hJ) (z_cons (z_x403_s hJ) (z_cons (z_x13_s hJ) (z_nil))))) _ H0 C S) z_x406_ok
/-- $Sets.findProduct 101 3 80 154 -/
def z_x407 : zQ := ((110, 17, 2, 2), [(0, ([(0, 3), (0, 4)], [(1, (-1), 40), (1, (-2147483648), 2147483647)], [], [some (.inl (.ref 101)), some (.inl (.ref 3)), some (.inl (.ref 80)), some (.inr (0, 0)), some (.inr (1, 0)), some (.inl (.ref 154)), none]), [(0, 0, 2), (0, 0, 0)]),
  (15, ([(0, 3), (0, 4), (0, 6), (1, 12676)], [(1, (-1), 40), (1, (-2147483648), 2147483647), (1, 0, 40), (1, (-1), 40)], [(0, 3, 0), (2, 3, 1)], [some (.inl (.ref 101)), some (.inl (.ref 3)), some (.inl (.ref 80)), some (.inr (0, 0)), some (.inr (1, 0)), some (.inl (.ref 154)), some (.inr (2, 0))]), [(0, 0, 1), (1, 2, 40)])], [([(1, 12676)], [(1, 0, 60)], [], [some (.inl (.int (-9)))]),
  ([(1, 12676)], [(1, 0, 60)], [], [some (.inl (.int 0))])], [12674, 12676, 12928, 13056, 13184, 13312, 13440, 13568, 13696, 13824, 13952, 14080, 14208, 14336, 14464, 14592, 14720, 14848, 14976, 14977, 19456, 19457])
set_option maxRecDepth 100000 in
theorem z_x407_ok : z_chk z_D s_P (z_clq z_D z_x407.2.2.2 s_P [z_x400, z_x172, z_x167, z_x143, z_x24]) 3000 z_x407 = true := z_chk2_ok (by decide +kernel)
theorem z_x407_s {J : aH → Prop} (hJ : z_jl J) {X : aX} : z_spec J z_D s_P X z_x407 := z_ctx_ok (z_hlen hJ) (fun H0 C S => z_clq_ok (z_hlen hJ) (z_cons (z_x400_s hJ) (z_cons (z_x172_s hJ) (z_cons (z_x167_s hJ) (z_cons (z_x143_s hJ) (z_cons (z_x24_s hJ) (z_nil)))))) _ H0 C S) z_x407_ok
/-- $Sets.findTerm 101 3 80 154 -/
def z_x408 : zQ := ((108, 20, 2, 2), [(0, ([(0, 3), (0, 4)], [(1, 1, 1), (1, 0, 4)], [], [some (.inl (.ref 101)), some (.inl (.ref 3)), some (.inl (.ref 80)), some (.inr (0, 0)), some (.inr (1, 0)), some (.inl (.ref 154)), none, none, none, none, none, none]), [(0, 0, 1), (0, 0, 0)])], [([], [], [], [some (.inl (.int 0))]),
  ([], [], [], [some (.inl (.int (-2)))]),
  ([(1, 12676)], [(1, 0, 60)], [], [some (.inl (.int (-9)))])], [12674, 12675, 12676, 12928, 13056, 13184, 13312, 13440, 13568, 13696, 13824, 13952, 14080, 14208, 14336, 14464, 14592, 14720, 14848, 14976, 14977, 19456, 19457])
set_option maxRecDepth 100000 in
theorem z_x408_ok : z_chk z_D s_P (z_clq z_D z_x408.2.2.2 s_P [z_x407, z_x405, z_x403, z_x24]) 3000 z_x408 = true := z_chk2_ok (by decide +kernel)
theorem z_x408_s {J : aH → Prop} (hJ : z_jl J) {X : aX} : z_spec J z_D s_P X z_x408 := z_ctx_ok (z_hlen hJ) (fun H0 C S => z_clq_ok (z_hlen hJ) (z_cons (z_x407_s hJ) (z_cons (z_x405_s hJ) (z_cons (z_x403_s hJ) (z_cons (z_x24_s hJ) (z_nil))))) _ H0 C S) z_x408_ok
/-- $Sets.findBeside 101 3 80 -/
def z_x409 : zQ := ((94, 20, 0, 2), [(0, ([], [], [], [some (.inl (.ref 101)), some (.inl (.ref 3)), some (.inl (.ref 80)), none, none, none, none, none, none, none, none]), [(0, 0, 1), (0, 0, 0)])], [([], [], [], [some (.inl (.int (-2)))]),
  ([(1, 12674), (1, 12676)], [(1, 0, 15), (1, 0, 60)], [], [some (.inl (.int 0))]),
  ([(1, 12674), (1, 12676)], [(1, 0, 15), (1, 0, 60)], [], [some (.inl (.int 1))])], [12674, 12675, 12676, 12928, 13056, 13184, 13312, 13440, 13568, 13696, 13824, 13952, 14080, 14208, 14336, 14464, 14592, 14720, 14848])
set_option maxRecDepth 100000 in
theorem z_x409_ok : z_chk z_D s_P (z_clq z_D z_x409.2.2.2 s_P [z_x405, z_x403, z_x402, z_x148, z_x143]) 3000 z_x409 = true := z_chk2_ok (by decide +kernel)
theorem z_x409_s {J : aH → Prop} (hJ : z_jl J) {X : aX} : z_spec J z_D s_P X z_x409 := z_ctx_ok (z_hlen hJ) (fun H0 C S => z_clq_ok (z_hlen hJ) (z_cons (z_x405_s hJ) (z_cons (z_x403_s hJ) (z_cons (z_x402_s hJ) (z_cons (z_x148_s hJ) (z_cons (z_x143_s hJ) (z_nil)))))) _ H0 C S) z_x409_ok
/-- .judge 2 80 -/
def z_x410 : zQ := ((93, 21, 1, 2), [(0, ([(0, 2)], [(1, 0, 4)], [], [some (.inl (.ref 2)), some (.inl (.ref 80)), some (.inr (0, 0)), none]), [(0, 0, 1), (0, 0, 0)])], [([(1, 143)], [(1, 1, 1)], [], [some (.inl (.int 1))]),
  ([(1, 143)], [(1, 1, 1)], [], [some (.inl (.int 0))]),
  ([(1, 143)], [(1, 1, 1)], [], [some (.inl (.int (-2)))]),
  ([(1, 143), (1, 12676)], [(1, 1, 1), (1, 0, 60)], [], [some (.inl (.int (-9)))])], [143, 1152, 12674, 12675, 12676, 12928, 13056, 13184, 13312, 13440, 13568, 13696, 13824, 13952, 14080, 14208, 14336, 14464, 14592, 14720, 14848, 14976, 14977, 19328, 19329, 19456, 19457])
set_option maxRecDepth 100000 in
theorem z_x410_ok : z_chk z_D s_P (z_clq z_D z_x410.2.2.2 s_P [z_x409, z_x408, z_x406, z_x27, z_x9]) 3000 z_x410 = true := z_chk2_ok (by decide +kernel)
theorem z_x410_s {J : aH → Prop} (hJ : z_jl J) {X : aX} : z_spec J z_D s_P X z_x410 := z_ctx_ok (z_hlen hJ) (fun H0 C S => z_clq_ok (z_hlen hJ) (z_cons (z_x409_s hJ) (z_cons (z_x408_s hJ) (z_cons (z_x406_s hJ) (z_cons (z_x27_s hJ) (z_cons (z_x9_s hJ) (z_nil)))))) _ H0 C S) z_x410_ok
/-- $Sets.readThing 101 87 (5,) -/
def z_x411 : zQ := ((100, 1, 4, 2), [(0, ([(0, 2), (1, 10881), (1, 12676), (1, 12674)], [(1, 5, 5), (1, 5, 40), (1, 5, 40), (1, 0, 16)], [], [some (.inl (.ref 101)), some (.inl (.ref 87)), some (.inr (0, 0)), none]), [(0, 0, 2), (0, 0, 0)]),
  (2, ([(0, 2), (0, 3), (1, 10881), (1, 12674), (1, 12676), (2, 3), (2, 2), (2, 1)], [(1, 5, 5), (1, 0, 1), (1, 5, 40), (1, 0, 16), (1, 5, 40), (1, 0, 16), (1, 5, 40), (1, 5, 40)], [(5, 3, 0), (6, 4, 0), (3, 5, 0), (2, 7, 0), (7, 2, 0)], [some (.inl (.ref 101)), some (.inl (.ref 87)), some (.inr (0, 0)), some (.inr (1, 0))]), [(0, 0, 1), (1, 4, 40)])], [([(2, 1), (1, 12674), (1, 12676), (2, 3), (2, 2)], [(1, 5, 40), (1, 0, 16), (1, 6, 41), (1, 0, 16), (1, 5, 40)], [(3, 1, 0), (4, 2, (-1)), (1, 3, 1)], [])], [12674, 12676, 12928, 13056, 13184, 13312, 13440, 13568, 13696, 13824, 13952, 14080, 14208, 14336, 14464, 14592, 14720, 14848])
set_option maxRecDepth 100000 in
theorem z_x411_ok : z_chk z_D s_P (z_clq z_D z_x411.2.2.2 s_P [z_x146, z_x145]) 3000 z_x411 = true := z_chk2_ok (by decide +kernel)
theorem z_x411_s {J : aH → Prop} (hJ : z_jl J) {X : aX} : z_spec J z_D s_P X z_x411 := z_ctx_ok (z_hlen hJ) (fun H0 C S => z_clq_ok (z_hlen hJ) (z_cons (z_x146_s hJ) (z_cons (z_x145_s hJ) (z_nil))) _ H0 C S) z_x411_ok
/-- $Sets.readAll 101 87 (5,) -/
def z_x412 : zQ := ((99, 2, 3, 2), [(0, ([(0, 2), (1, 10881), (1, 12676)], [(1, 5, 5), (1, 5, 40), (1, 5, 40)], [], [some (.inl (.ref 101)), some (.inl (.ref 87)), some (.inr (0, 0))]), [(0, 0, 2), (0, 0, 0)]),
  (6, ([(0, 2), (1, 10881), (1, 12676), (2, 2), (2, 1)], [(1, 5, 5), (1, 5, 40), (1, 6, 41), (1, 5, 40), (1, 5, 40)], [(3, 2, (-1)), (1, 4, 0), (4, 1, 0)], [some (.inl (.ref 101)), some (.inl (.ref 87)), some (.inr (0, 0))]), [(0, 0, 1), (1, 2, 40)])], [([(2, 1), (1, 12676), (2, 2)], [(1, 5, 40), (1, 6, 41), (1, 5, 40)], [(2, 1, (-1))], [])], [12674, 12676, 12928, 13056, 13184, 13312, 13440, 13568, 13696, 13824, 13952, 14080, 14208, 14336, 14464, 14592, 14720, 14848])
set_option maxRecDepth 100000 in
theorem z_x412_ok : z_chk z_D s_P (z_clq z_D z_x412.2.2.2 s_P [z_x411, z_x148]) 3000 z_x412 = true := z_chk2_ok (by decide +kernel)
theorem z_x412_s {J : aH → Prop} (hJ : z_jl J) {X : aX} : z_spec J z_D s_P X z_x412 := z_ctx_ok (z_hlen hJ) (fun H0 C S => z_clq_ok (z_hlen hJ) (z_cons (z_x411_s hJ) (z_cons (z_x148_s hJ) (z_nil))) _ H0 C S) z_x412_ok
/-- $Sets.readAny 101 87 (5,) -/
def z_x413 : zQ := ((98, 3, 3, 2), [(0, ([(0, 2), (1, 10881), (1, 12676)], [(1, 5, 5), (1, 5, 40), (1, 5, 40)], [], [some (.inl (.ref 101)), some (.inl (.ref 87)), some (.inr (0, 0))]), [(0, 0, 2), (0, 0, 0)]),
  (6, ([(0, 2), (1, 10881), (1, 12676), (2, 2), (2, 1)], [(1, 5, 5), (1, 5, 40), (1, 6, 41), (1, 5, 40), (1, 5, 40)], [(3, 2, (-1)), (1, 4, 0), (4, 1, 0)], [some (.inl (.ref 101)), some (.inl (.ref 87)), some (.inr (0, 0))]), [(0, 0, 1), (1, 2, 40)])], [([(2, 1), (1, 12676), (2, 2)], [(1, 5, 40), (1, 6, 41), (1, 5, 40)], [(2, 1, (-1))], [])], [12674, 12676, 12928, 13056, 13184, 13312, 13440, 13568, 13696, 13824, 13952, 14080, 14208, 14336, 14464, 14592, 14720, 14848])
set_option maxRecDepth 100000 in
theorem z_x413_ok : z_chk z_D s_P (z_clq z_D z_x413.2.2.2 s_P [z_x412, z_x144]) 3000 z_x413 = true := z_chk2_ok (by decide +kernel)
theorem z_x413_s {J : aH → Prop} (hJ : z_jl J) {X : aX} : z_spec J z_D s_P X z_x413 := z_ctx_ok (z_hlen hJ) (fun H0 C S => z_clq_ok (z_hlen hJ) (z_cons (z_x412_s hJ) (z_cons (z_x144_s hJ) (z_nil))) _ H0 C S) z_x413_ok
/-- $Sets.readThing 101 87 (4,) -/
def z_x414 : zQ := ((100, 4, 4, 2), [(0, ([(0, 2), (1, 10881), (1, 12676), (1, 12674)], [(1, 4, 4), (1, 4, 40), (1, 4, 40), (1, 0, 16)], [], [some (.inl (.ref 101)), some (.inl (.ref 87)), some (.inr (0, 0)), none]), [(0, 0, 2), (0, 0, 0)]),
  (2, ([(0, 2), (0, 3), (1, 10881), (1, 12674), (1, 12676), (2, 3), (2, 2), (2, 1)], [(1, 4, 4), (1, 0, 1), (1, 4, 40), (1, 0, 16), (1, 4, 40), (1, 0, 16), (1, 4, 40), (1, 4, 40)], [(5, 3, 0), (6, 4, 0), (3, 5, 0), (2, 7, 0), (7, 2, 0)], [some (.inl (.ref 101)), some (.inl (.ref 87)), some (.inr (0, 0)), some (.inr (1, 0))]), [(0, 0, 1), (1, 4, 40)])], [([(2, 1), (1, 12676), (2, 2)], [(1, 4, 40), (1, 5, 42), (1, 4, 40)], [(2, 1, (-1))], [])], [12674, 12676, 12928, 13056, 13184, 13312, 13440, 13568, 13696, 13824, 13952, 14080, 14208, 14336, 14464, 14592, 14720, 14848])
set_option maxRecDepth 100000 in
theorem z_x414_ok : z_chk z_D s_P (z_clq z_D z_x414.2.2.2 s_P [z_x413, z_x146, z_x145]) 3000 z_x414 = true := z_chk2_ok (by decide +kernel)
theorem z_x414_s {J : aH → Prop} (hJ : z_jl J) {X : aX} : z_spec J z_D s_P X z_x414 := z_ctx_ok (z_hlen hJ) (fun H0 C S => z_clq_ok (z_hlen hJ) (z_cons (z_x413_s hJ) (z_cons (z_x146_s hJ) (z_cons (z_x145_s hJ) (z_nil)))) _ H0 C S) z_x414_ok
/-- $Sets.readAll 101 87 (4,) -/
def z_x415 : zQ := ((99, 5, 3, 2), [(0, ([(0, 2), (1, 10881), (1, 12676)], [(1, 4, 4), (1, 4, 40), (1, 4, 40)], [], [some (.inl (.ref 101)), some (.inl (.ref 87)), some (.inr (0, 0))]), [(0, 0, 2), (0, 0, 0)]),
  (6, ([(0, 2), (1, 10881), (1, 12676), (2, 2), (2, 1)], [(1, 4, 4), (1, 4, 40), (1, 5, 42), (1, 4, 40), (1, 4, 40)], [(3, 2, (-1)), (1, 4, 0), (4, 1, 0)], [some (.inl (.ref 101)), some (.inl (.ref 87)), some (.inr (0, 0))]), [(0, 0, 1), (1, 2, 40)])], [([(2, 1), (1, 12676), (2, 2)], [(1, 4, 40), (1, 5, 42), (1, 4, 40)], [(2, 1, (-1))], [])], [12674, 12676, 12928, 13056, 13184, 13312, 13440, 13568, 13696, 13824, 13952, 14080, 14208, 14336, 14464, 14592, 14720, 14848])
set_option maxRecDepth 100000 in
theorem z_x415_ok : z_chk z_D s_P (z_clq z_D z_x415.2.2.2 s_P [z_x414, z_x148]) 3000 z_x415 = true := z_chk2_ok (by decide +kernel)
theorem z_x415_s {J : aH → Prop} (hJ : z_jl J) {X : aX} : z_spec J z_D s_P X z_x415 := z_ctx_ok (z_hlen hJ) (fun H0 C S => z_clq_ok (z_hlen hJ) (z_cons (z_x414_s hJ) (z_cons (z_x148_s hJ) (z_nil))) _ H0 C S) z_x415_ok
/-- $Sets.readAny 101 87 (4,) -/
def z_x416 : zQ := ((98, 6, 3, 2), [(0, ([(0, 2), (1, 10881), (1, 12676)], [(1, 4, 4), (1, 4, 40), (1, 4, 40)], [], [some (.inl (.ref 101)), some (.inl (.ref 87)), some (.inr (0, 0))]), [(0, 0, 2), (0, 0, 0)]),
  (6, ([(0, 2), (1, 10881), (1, 12676), (2, 2), (2, 1)], [(1, 4, 4), (1, 4, 40), (1, 5, 42), (1, 4, 40), (1, 4, 40)], [(3, 2, (-1)), (1, 4, 0), (4, 1, 0)], [some (.inl (.ref 101)), some (.inl (.ref 87)), some (.inr (0, 0))]), [(0, 0, 1), (1, 2, 40)])], [([(2, 1), (1, 12676), (2, 2)], [(1, 4, 40), (1, 5, 42), (1, 4, 40)], [(2, 1, (-1))], [])], [12674, 12676, 12928, 13056, 13184, 13312, 13440, 13568, 13696, 13824, 13952, 14080, 14208, 14336, 14464, 14592, 14720, 14848])
set_option maxRecDepth 100000 in
theorem z_x416_ok : z_chk z_D s_P (z_clq z_D z_x416.2.2.2 s_P [z_x415, z_x144]) 3000 z_x416 = true := z_chk2_ok (by decide +kernel)
theorem z_x416_s {J : aH → Prop} (hJ : z_jl J) {X : aX} : z_spec J z_D s_P X z_x416 := z_ctx_ok (z_hlen hJ) (fun H0 C S => z_clq_ok (z_hlen hJ) (z_cons (z_x415_s hJ) (z_cons (z_x144_s hJ) (z_nil))) _ H0 C S) z_x416_ok
/-- $Sets.readThing 101 87 (3,) -/
def z_x417 : zQ := ((100, 7, 4, 2), [(0, ([(0, 2), (1, 10881), (1, 12676), (1, 12674)], [(1, 3, 3), (1, 3, 40), (1, 3, 40), (1, 0, 16)], [], [some (.inl (.ref 101)), some (.inl (.ref 87)), some (.inr (0, 0)), none]), [(0, 0, 2), (0, 0, 0)]),
  (2, ([(0, 2), (0, 3), (1, 10881), (1, 12674), (1, 12676), (2, 3), (2, 2), (2, 1)], [(1, 3, 3), (1, 0, 1), (1, 3, 40), (1, 0, 16), (1, 3, 40), (1, 0, 16), (1, 3, 40), (1, 3, 40)], [(5, 3, 0), (6, 4, 0), (3, 5, 0), (2, 7, 0), (7, 2, 0)], [some (.inl (.ref 101)), some (.inl (.ref 87)), some (.inr (0, 0)), some (.inr (1, 0))]), [(0, 0, 1), (1, 4, 40)])], [([(2, 1), (1, 12676), (2, 2)], [(1, 3, 40), (1, 4, 47), (1, 3, 40)], [(2, 1, (-1))], [])], [12674, 12676, 12928, 13056, 13184, 13312, 13440, 13568, 13696, 13824, 13952, 14080, 14208, 14336, 14464, 14592, 14720, 14848])
set_option maxRecDepth 100000 in
theorem z_x417_ok : z_chk z_D s_P (z_clq z_D z_x417.2.2.2 s_P [z_x416, z_x146, z_x145]) 3000 z_x417 = true := z_chk2_ok (by decide +kernel)
theorem z_x417_s {J : aH → Prop} (hJ : z_jl J) {X : aX} : z_spec J z_D s_P X z_x417 := z_ctx_ok (z_hlen hJ) (fun H0 C S => z_clq_ok (z_hlen hJ) (z_cons (z_x416_s hJ) (z_cons (z_x146_s hJ) (z_cons (z_x145_s hJ) (z_nil)))) _ H0 C S) z_x417_ok
/-- $Sets.readAll 101 87 (3,) -/
def z_x418 : zQ := ((99, 8, 3, 2), [(0, ([(0, 2), (1, 10881), (1, 12676)], [(1, 3, 3), (1, 3, 40), (1, 3, 40)], [], [some (.inl (.ref 101)), some (.inl (.ref 87)), some (.inr (0, 0))]), [(0, 0, 2), (0, 0, 0)]),
  (6, ([(0, 2), (1, 10881), (1, 12676), (2, 2), (2, 1)], [(1, 3, 3), (1, 3, 40), (1, 4, 47), (1, 3, 40), (1, 3, 40)], [(3, 2, (-1)), (1, 4, 0), (4, 1, 0)], [some (.inl (.ref 101)), some (.inl (.ref 87)), some (.inr (0, 0))]), [(0, 0, 1), (1, 2, 40)])], [([(2, 1), (1, 12676), (2, 2)], [(1, 3, 40), (1, 4, 47), (1, 3, 40)], [(2, 1, (-1))], [])], [12674, 12676, 12928, 13056, 13184, 13312, 13440, 13568, 13696, 13824, 13952, 14080, 14208, 14336, 14464, 14592, 14720, 14848])
set_option maxRecDepth 100000 in
theorem z_x418_ok : z_chk z_D s_P (z_clq z_D z_x418.2.2.2 s_P [z_x417, z_x148]) 3000 z_x418 = true := z_chk2_ok (by decide +kernel)
theorem z_x418_s {J : aH → Prop} (hJ : z_jl J) {X : aX} : z_spec J z_D s_P X z_x418 := z_ctx_ok (z_hlen hJ) (fun H0 C S => z_clq_ok (z_hlen hJ) (z_cons (z_x417_s hJ) (z_cons (z_x148_s hJ) (z_nil))) _ H0 C S) z_x418_ok
/-- $Sets.readAny 101 87 (3,) -/
def z_x419 : zQ := ((98, 9, 3, 2), [(0, ([(0, 2), (1, 10881), (1, 12676)], [(1, 3, 3), (1, 3, 40), (1, 3, 40)], [], [some (.inl (.ref 101)), some (.inl (.ref 87)), some (.inr (0, 0))]), [(0, 0, 2), (0, 0, 0)]),
  (6, ([(0, 2), (1, 10881), (1, 12676), (2, 2), (2, 1)], [(1, 3, 3), (1, 3, 40), (1, 4, 47), (1, 3, 40), (1, 3, 40)], [(3, 2, (-1)), (1, 4, 0), (4, 1, 0)], [some (.inl (.ref 101)), some (.inl (.ref 87)), some (.inr (0, 0))]), [(0, 0, 1), (1, 2, 40)])], [([(2, 1), (1, 12676), (2, 2)], [(1, 3, 40), (1, 4, 47), (1, 3, 40)], [(2, 1, (-1))], [])], [12674, 12676, 12928, 13056, 13184, 13312, 13440, 13568, 13696, 13824, 13952, 14080, 14208, 14336, 14464, 14592, 14720, 14848])
set_option maxRecDepth 100000 in
theorem z_x419_ok : z_chk z_D s_P (z_clq z_D z_x419.2.2.2 s_P [z_x418, z_x144]) 3000 z_x419 = true := z_chk2_ok (by decide +kernel)
theorem z_x419_s {J : aH → Prop} (hJ : z_jl J) {X : aX} : z_spec J z_D s_P X z_x419 := z_ctx_ok (z_hlen hJ) (fun H0 C S => z_clq_ok (z_hlen hJ) (z_cons (z_x418_s hJ) (z_cons (z_x144_s hJ) (z_nil))) _ H0 C S) z_x419_ok
/-- $Sets.readThing 101 87 (2,) -/
def z_x420 : zQ := ((100, 10, 4, 2), [(0, ([(0, 2), (1, 10881), (1, 12676), (1, 12674)], [(1, 2, 2), (1, 2, 40), (1, 2, 40), (1, 0, 16)], [], [some (.inl (.ref 101)), some (.inl (.ref 87)), some (.inr (0, 0)), none]), [(0, 0, 2), (0, 0, 0)]),
  (2, ([(0, 2), (0, 3), (1, 10881), (1, 12674), (1, 12676), (2, 3), (2, 2), (2, 1)], [(1, 2, 2), (1, 0, 1), (1, 2, 40), (1, 0, 16), (1, 2, 40), (1, 0, 16), (1, 2, 40), (1, 2, 40)], [(1, 4, (-2)), (5, 3, 0), (6, 4, 0), (3, 5, 0), (2, 7, 0), (7, 2, 0)], [some (.inl (.ref 101)), some (.inl (.ref 87)), some (.inr (0, 0)), some (.inr (1, 0))]), [(0, 0, 1), (1, 4, 40)])], [([(2, 1), (1, 12676), (2, 2)], [(1, 2, 40), (1, 3, 48), (1, 2, 40)], [(2, 1, (-1))], [])], [12674, 12676, 12928, 13056, 13184, 13312, 13440, 13568, 13696, 13824, 13952, 14080, 14208, 14336, 14464, 14592, 14720, 14848])
set_option maxRecDepth 100000 in
theorem z_x420_ok : z_chk z_D s_P (z_clq z_D z_x420.2.2.2 s_P [z_x419, z_x146, z_x145]) 3000 z_x420 = true := z_chk2_ok (by decide +kernel)
theorem z_x420_s {J : aH → Prop} (hJ : z_jl J) {X : aX} : z_spec J z_D s_P X z_x420 := z_ctx_ok (z_hlen hJ) (fun H0 C S => z_clq_ok (z_hlen hJ) (z_cons (z_x419_s hJ) (z_cons (z_x146_s hJ) (z_cons (z_x145_s hJ) (z_nil)))) _ H0 C S) z_x420_ok
/-- $Sets.readAll 101 87 (2,) -/
def z_x421 : zQ := ((99, 11, 3, 2), [(0, ([(0, 2), (1, 10881), (1, 12676)], [(1, 2, 2), (1, 2, 40), (1, 2, 40)], [], [some (.inl (.ref 101)), some (.inl (.ref 87)), some (.inr (0, 0))]), [(0, 0, 2), (0, 0, 0)]),
  (6, ([(0, 2), (1, 10881), (1, 12676), (2, 2), (2, 1)], [(1, 2, 2), (1, 2, 40), (1, 3, 48), (1, 2, 40), (1, 2, 40)], [(3, 2, (-1)), (1, 4, 0), (4, 1, 0)], [some (.inl (.ref 101)), some (.inl (.ref 87)), some (.inr (0, 0))]), [(0, 0, 1), (1, 2, 40)])], [([(2, 1), (1, 12676), (2, 2)], [(1, 2, 40), (1, 3, 48), (1, 2, 40)], [(2, 1, (-1))], [])], [12674, 12676, 12928, 13056, 13184, 13312, 13440, 13568, 13696, 13824, 13952, 14080, 14208, 14336, 14464, 14592, 14720, 14848])
set_option maxRecDepth 100000 in
theorem z_x421_ok : z_chk z_D s_P (z_clq z_D z_x421.2.2.2 s_P [z_x420, z_x148]) 3000 z_x421 = true := z_chk2_ok (by decide +kernel)
theorem z_x421_s {J : aH → Prop} (hJ : z_jl J) {X : aX} : z_spec J z_D s_P X z_x421 := z_ctx_ok (z_hlen hJ) (fun H0 C S => z_clq_ok (z_hlen hJ) (z_cons (z_x420_s hJ) (z_cons (z_x148_s hJ) (z_nil))) _ H0 C S) z_x421_ok
/-- $Sets.readAny 101 87 (2,) -/
def z_x422 : zQ := ((98, 12, 3, 2), [(0, ([(0, 2), (1, 10881), (1, 12676)], [(1, 2, 2), (1, 2, 40), (1, 2, 40)], [], [some (.inl (.ref 101)), some (.inl (.ref 87)), some (.inr (0, 0))]), [(0, 0, 2), (0, 0, 0)]),
  (6, ([(0, 2), (1, 10881), (1, 12676), (2, 2), (2, 1)], [(1, 2, 2), (1, 2, 40), (1, 3, 48), (1, 2, 40), (1, 2, 40)], [(3, 2, (-1)), (1, 4, 0), (4, 1, 0)], [some (.inl (.ref 101)), some (.inl (.ref 87)), some (.inr (0, 0))]), [(0, 0, 1), (1, 2, 40)])], [([(2, 1), (1, 12676), (2, 2)], [(1, 2, 40), (1, 3, 48), (1, 2, 40)], [(2, 1, (-1))], [])], [12674, 12676, 12928, 13056, 13184, 13312, 13440, 13568, 13696, 13824, 13952, 14080, 14208, 14336, 14464, 14592, 14720, 14848])
set_option maxRecDepth 100000 in
theorem z_x422_ok : z_chk z_D s_P (z_clq z_D z_x422.2.2.2 s_P [z_x421, z_x144]) 3000 z_x422 = true := z_chk2_ok (by decide +kernel)
theorem z_x422_s {J : aH → Prop} (hJ : z_jl J) {X : aX} : z_spec J z_D s_P X z_x422 := z_ctx_ok (z_hlen hJ) (fun H0 C S => z_clq_ok (z_hlen hJ) (z_cons (z_x421_s hJ) (z_cons (z_x144_s hJ) (z_nil))) _ H0 C S) z_x422_ok
/-- $Sets.readThing 101 87 (1,) -/
def z_x423 : zQ := ((100, 13, 4, 2), [(0, ([(0, 2), (1, 10881), (1, 12676), (1, 12674)], [(1, 1, 1), (1, 1, 40), (1, 1, 40), (1, 0, 16)], [], [some (.inl (.ref 101)), some (.inl (.ref 87)), some (.inr (0, 0)), none]), [(0, 0, 2), (0, 0, 0)]),
  (2, ([(0, 2), (0, 3), (1, 10881), (1, 12674), (1, 12676), (2, 3), (2, 2), (2, 1)], [(1, 1, 1), (1, 0, 1), (1, 1, 40), (1, 0, 16), (1, 1, 40), (1, 0, 16), (1, 1, 40), (1, 1, 40)], [(1, 4, (-1)), (5, 3, 0), (6, 4, 0), (3, 5, 0), (2, 7, 0), (7, 2, 0)], [some (.inl (.ref 101)), some (.inl (.ref 87)), some (.inr (0, 0)), some (.inr (1, 0))]), [(0, 0, 1), (1, 4, 40)])], [([(2, 1), (1, 12676), (2, 2)], [(1, 1, 40), (1, 2, 59), (1, 1, 40)], [(2, 1, (-1))], [])], [12674, 12676, 12928, 13056, 13184, 13312, 13440, 13568, 13696, 13824, 13952, 14080, 14208, 14336, 14464, 14592, 14720, 14848])
set_option maxRecDepth 100000 in
theorem z_x423_ok : z_chk z_D s_P (z_clq z_D z_x423.2.2.2 s_P [z_x422, z_x146, z_x145]) 3000 z_x423 = true := z_chk2_ok (by decide +kernel)
theorem z_x423_s {J : aH → Prop} (hJ : z_jl J) {X : aX} : z_spec J z_D s_P X z_x423 := z_ctx_ok (z_hlen hJ) (fun H0 C S => z_clq_ok (z_hlen hJ) (z_cons (z_x422_s hJ) (z_cons (z_x146_s hJ) (z_cons (z_x145_s hJ) (z_nil)))) _ H0 C S) z_x423_ok
/-- $Sets.readAll 101 87 (1,) -/
def z_x424 : zQ := ((99, 14, 3, 2), [(0, ([(0, 2), (1, 10881), (1, 12676)], [(1, 1, 1), (1, 1, 40), (1, 1, 40)], [], [some (.inl (.ref 101)), some (.inl (.ref 87)), some (.inr (0, 0))]), [(0, 0, 2), (0, 0, 0)]),
  (6, ([(0, 2), (1, 10881), (1, 12676), (2, 2), (2, 1)], [(1, 1, 1), (1, 1, 40), (1, 2, 59), (1, 1, 40), (1, 1, 40)], [(3, 2, (-1)), (1, 4, 0), (4, 1, 0)], [some (.inl (.ref 101)), some (.inl (.ref 87)), some (.inr (0, 0))]), [(0, 0, 1), (1, 2, 40)])], [([(2, 1), (1, 12676), (2, 2)], [(1, 1, 40), (1, 2, 59), (1, 1, 40)], [(2, 1, (-1))], [])], [12674, 12676, 12928, 13056, 13184, 13312, 13440, 13568, 13696, 13824, 13952, 14080, 14208, 14336, 14464, 14592, 14720, 14848])
set_option maxRecDepth 100000 in
theorem z_x424_ok : z_chk z_D s_P (z_clq z_D z_x424.2.2.2 s_P [z_x423, z_x148]) 3000 z_x424 = true := z_chk2_ok (by decide +kernel)
theorem z_x424_s {J : aH → Prop} (hJ : z_jl J) {X : aX} : z_spec J z_D s_P X z_x424 := z_ctx_ok (z_hlen hJ) (fun H0 C S => z_clq_ok (z_hlen hJ) (z_cons (z_x423_s hJ) (z_cons (z_x148_s hJ) (z_nil))) _ H0 C S) z_x424_ok
/-- $Sets.readAny 101 87 (1,) -/
def z_x425 : zQ := ((98, 15, 3, 2), [(0, ([(0, 2), (1, 10881), (1, 12676)], [(1, 1, 1), (1, 1, 40), (1, 1, 40)], [], [some (.inl (.ref 101)), some (.inl (.ref 87)), some (.inr (0, 0))]), [(0, 0, 2), (0, 0, 0)]),
  (6, ([(0, 2), (1, 10881), (1, 12676), (2, 2), (2, 1)], [(1, 1, 1), (1, 1, 40), (1, 2, 59), (1, 1, 40), (1, 1, 40)], [(3, 2, (-1)), (1, 4, 0), (4, 1, 0)], [some (.inl (.ref 101)), some (.inl (.ref 87)), some (.inr (0, 0))]), [(0, 0, 1), (1, 2, 40)])], [([(2, 1), (1, 12676), (2, 2)], [(1, 1, 40), (1, 2, 59), (1, 1, 40)], [(2, 1, (-1))], [])], [12674, 12676, 12928, 13056, 13184, 13312, 13440, 13568, 13696, 13824, 13952, 14080, 14208, 14336, 14464, 14592, 14720, 14848])
set_option maxRecDepth 100000 in
theorem z_x425_ok : z_chk z_D s_P (z_clq z_D z_x425.2.2.2 s_P [z_x424, z_x144]) 3000 z_x425 = true := z_chk2_ok (by decide +kernel)
theorem z_x425_s {J : aH → Prop} (hJ : z_jl J) {X : aX} : z_spec J z_D s_P X z_x425 := z_ctx_ok (z_hlen hJ) (fun H0 C S => z_clq_ok (z_hlen hJ) (z_cons (z_x424_s hJ) (z_cons (z_x144_s hJ) (z_nil))) _ H0 C S) z_x425_ok
/-- $Sets.readThing 101 87 (0,) -/
def z_x426 : zQ := ((100, 16, 3, 2), [(0, ([(0, 2), (1, 12676), (1, 12674)], [(1, 0, 0), (1, (-1), 40), (1, 0, 16)], [], [some (.inl (.ref 101)), some (.inl (.ref 87)), some (.inr (0, 0)), none]), [(0, 0, 2), (0, 0, 0)]),
  (2, ([(0, 2), (0, 3), (1, 12674), (1, 12676), (2, 2), (2, 1)], [(1, 0, 0), (1, 0, 1), (1, 0, 16), (1, (-1), 40), (1, 0, 16), (1, (-1), 40)], [(1, 3, 1), (4, 2, 0), (5, 3, 0), (2, 4, 0)], [some (.inl (.ref 101)), some (.inl (.ref 87)), some (.inr (0, 0)), some (.inr (1, 0))]), [(0, 0, 1), (1, 3, 40)])], [([(1, 12676), (2, 1)], [(1, 0, 60), (1, (-1), 40)], [(1, 0, (-1))], [])], [12674, 12676, 12928, 13056, 13184, 13312, 13440, 13568, 13696, 13824, 13952, 14080, 14208, 14336, 14464, 14592, 14720, 14848])
set_option maxRecDepth 100000 in
theorem z_x426_ok : z_chk z_D s_P (z_clq z_D z_x426.2.2.2 s_P [z_x425, z_x146, z_x145]) 3000 z_x426 = true := z_chk2_ok (by decide +kernel)
theorem z_x426_s {J : aH → Prop} (hJ : z_jl J) {X : aX} : z_spec J z_D s_P X z_x426 := z_ctx_ok (z_hlen hJ) (fun H0 C S => z_clq_ok (z_hlen hJ) (z_cons (z_x425_s hJ) (z_cons (z_x146_s hJ) (z_cons (z_x145_s hJ) (z_nil)))) _ H0 C S) z_x426_ok
/-- $Sets.readAll 101 87 (0,) -/
def z_x427 : zQ := ((99, 17, 2, 2), [(0, ([(0, 2), (1, 12676)], [(1, 0, 0), (1, (-1), 40)], [], [some (.inl (.ref 101)), some (.inl (.ref 87)), some (.inr (0, 0))]), [(0, 0, 2), (0, 0, 0)]),
  (6, ([(0, 2), (1, 12676), (2, 1)], [(1, 0, 0), (1, 0, 60), (1, (-1), 40)], [(2, 1, (-1))], [some (.inl (.ref 101)), some (.inl (.ref 87)), some (.inr (0, 0))]), [(0, 0, 1), (1, 1, 40)])], [([(1, 12676), (2, 1)], [(1, 0, 60), (1, (-1), 40)], [(1, 0, (-1))], [])], [12674, 12676, 12928, 13056, 13184, 13312, 13440, 13568, 13696, 13824, 13952, 14080, 14208, 14336, 14464, 14592, 14720, 14848])
set_option maxRecDepth 100000 in
theorem z_x427_ok : z_chk z_D s_P (z_clq z_D z_x427.2.2.2 s_P [z_x426, z_x148]) 3000 z_x427 = true := z_chk2_ok (by decide +kernel)
theorem z_x427_s {J : aH → Prop} (hJ : z_jl J) {X : aX} : z_spec J z_D s_P X z_x427 := z_ctx_ok (z_hlen hJ) (fun H0 C S => z_clq_ok (z_hlen hJ) (z_cons (z_x426_s hJ) (z_cons (z_x148_s hJ) (z_nil))) _ H0 C S) z_x427_ok
/-- $Sets.readAny 101 87 (0,) -/
def z_x428 : zQ := ((98, 18, 2, 2), [(0, ([(0, 2), (1, 12676)], [(1, 0, 0), (1, (-1), 40)], [], [some (.inl (.ref 101)), some (.inl (.ref 87)), some (.inr (0, 0))]), [(0, 0, 2), (0, 0, 0)]),
  (6, ([(0, 2), (1, 12676), (2, 1)], [(1, 0, 0), (1, 0, 60), (1, (-1), 40)], [(2, 1, (-1))], [some (.inl (.ref 101)), some (.inl (.ref 87)), some (.inr (0, 0))]), [(0, 0, 1), (1, 1, 40)])], [([(1, 12676), (2, 1)], [(1, 0, 60), (1, (-1), 40)], [(1, 0, (-1))], [])], [12674, 12676, 12928, 13056, 13184, 13312, 13440, 13568, 13696, 13824, 13952, 14080, 14208, 14336, 14464, 14592, 14720, 14848])
set_option maxRecDepth 100000 in
theorem z_x428_ok : z_chk z_D s_P (z_clq z_D z_x428.2.2.2 s_P [z_x427, z_x144]) 3000 z_x428 = true := z_chk2_ok (by decide +kernel)
theorem z_x428_s {J : aH → Prop} (hJ : z_jl J) {X : aX} : z_spec J z_D s_P X z_x428 := z_ctx_ok (z_hlen hJ) (fun H0 C S => z_clq_ok (z_hlen hJ) (z_cons (z_x427_s hJ) (z_cons (z_x144_s hJ) (z_nil))) _ H0 C S) z_x428_ok
/-- $Sets.weighEvent 101 3 87 -/
def z_x429 : zQ := ((107, 19, 1, 2), [(0, ([(0, 3)], [(1, (-1), 40)], [], [some (.inl (.ref 101)), some (.inl (.ref 3)), some (.inl (.ref 87)), some (.inr (0, 0))]), [(0, 0, 1), (0, 0, 0)])], [([(0, 0), (1, 12676)], [(1, (-2147483648), 2147483647), (1, 0, 60)], [], [some (.inr (0, 0))])], [12674, 12676, 12928, 13056, 13184, 13312, 13440, 13568, 13696, 13824, 13952, 14080, 14208, 14336, 14464, 14592, 14720, 14848])
set_option maxRecDepth 100000 in
theorem z_x429_ok : z_chk z_D s_P (z_clq z_D z_x429.2.2.2 s_P [z_x428, z_x143]) 3000 z_x429 = true := z_chk2_ok (by decide +kernel)
theorem z_x429_s {J : aH → Prop} (hJ : z_jl J) {X : aX} : z_spec J z_D s_P X z_x429 := z_ctx_ok (z_hlen hJ) (fun H0 C S => z_clq_ok (z_hlen hJ) (z_cons (z_x428_s hJ) (z_cons (z_x143_s hJ) (z_nil))) _ H0 C S) z_x429_ok
/-- $Sets.findProduct 101 3 87 153 -/
def z_x430 : zQ := ((110, 17, 2, 2), [(0, ([(0, 3), (0, 4)], [(1, (-1), 40), (1, (-2147483648), 2147483647)], [], [some (.inl (.ref 101)), some (.inl (.ref 3)), some (.inl (.ref 87)), some (.inr (0, 0)), some (.inr (1, 0)), some (.inl (.ref 153)), none]), [(0, 0, 2), (0, 0, 0)]),
  (15, ([(0, 3), (0, 4), (0, 6), (1, 12676)], [(1, (-1), 40), (1, (-2147483648), 2147483647), (1, 0, 40), (1, (-1), 40)], [(0, 3, 0), (2, 3, 1)], [some (.inl (.ref 101)), some (.inl (.ref 3)), some (.inl (.ref 87)), some (.inr (0, 0)), some (.inr (1, 0)), some (.inl (.ref 153)), some (.inr (2, 0))]), [(0, 0, 1), (1, 2, 40)])], [([(1, 12676)], [(1, 0, 60)], [], [some (.inl (.int (-9)))]),
  ([(1, 12676)], [(1, 0, 60)], [], [some (.inl (.int 0))])], [12674, 12676, 12928, 13056, 13184, 13312, 13440, 13568, 13696, 13824, 13952, 14080, 14208, 14336, 14464, 14592, 14720, 14848, 14976, 14977, 19328, 19329])
set_option maxRecDepth 100000 in
theorem z_x430_ok : z_chk z_D s_P (z_clq z_D z_x430.2.2.2 s_P [z_x426, z_x167, z_x143, z_x38, z_x13]) 3000 z_x430 = true := z_chk2_ok (by decide +kernel)
theorem z_x430_s {J : aH → Prop} (hJ : z_jl J) {X : aX} : z_spec J z_D s_P X z_x430 := z_ctx_ok (z_hlen hJ) (fun H0 C S => z_clq_ok (z_hlen hJ) (z_cons (z_x426_s hJ) (z_cons (z_x167_s hJ) (z_cons (z_x143_s hJ) (z_cons (z_x38_s hJ) (z_cons (z_x13_s hJ) (z_nil)))))) _ H0 C S) z_x430_ok
/-- $Sets.weighGiven 101 3 87 -/
def z_x431 : zQ := ((95, 19, 1, 2), [(0, ([(0, 3)], [(1, (-1), 40)], [], [some (.inl (.ref 101)), some (.inl (.ref 3)), some (.inl (.ref 87)), some (.inr (0, 0))]), [(0, 0, 1), (0, 0, 0)])], [([(0, 0)], [(1, (-2147483648), 2147483647)], [], [some (.inr (0, 0))])], [12674, 12675, 12676, 12928, 13056, 13184, 13312, 13440, 13568, 13696, 13824, 13952, 14080, 14208, 14336, 14464, 14592, 14720, 14848])
set_option maxRecDepth 100000 in
theorem z_x431_ok : z_chk z_D s_P (z_clq z_D z_x431.2.2.2 s_P [z_x428, z_x169, z_x143]) 3000 z_x431 = true := z_chk2_ok (by decide +kernel)
theorem z_x431_s {J : aH → Prop} (hJ : z_jl J) {X : aX} : z_spec J z_D s_P X z_x431 := z_ctx_ok (z_hlen hJ) (fun H0 C S => z_clq_ok (z_hlen hJ) (z_cons (z_x428_s hJ) (z_cons (z_x169_s hJ) (z_cons (z_x143_s hJ) (z_nil)))) _ H0 C S) z_x431_ok
/-- $Sets.findTerm 101 3 87 153 -/
def z_x432 : zQ := ((108, 20, 2, 2), [(0, ([(0, 3), (0, 4)], [(1, 0, 1), (1, 0, 4)], [], [some (.inl (.ref 101)), some (.inl (.ref 3)), some (.inl (.ref 87)), some (.inr (0, 0)), some (.inr (1, 0)), some (.inl (.ref 153)), none, none, none, none, none, none]), [(0, 0, 1), (0, 0, 0)])], [([], [], [], [some (.inl (.int 0))]),
  ([], [], [], [some (.inl (.int (-2)))]),
  ([(1, 12676)], [(1, 0, 60)], [], [some (.inl (.int (-9)))])], [12674, 12675, 12676, 12928, 13056, 13184, 13312, 13440, 13568, 13696, 13824, 13952, 14080, 14208, 14336, 14464, 14592, 14720, 14848, 14976, 14977, 19328, 19329])
set_option maxRecDepth 100000 in
theorem z_x432_ok : z_chk z_D s_P (z_clq z_D z_x432.2.2.2 s_P [z_x431, z_x430, z_x429, z_x13]) 3000 z_x432 = true := z_chk2_ok (by decide +kernel)
theorem z_x432_s {J : aH → Prop} (hJ : z_jl J) {X : aX} : z_spec J z_D s_P X z_x432 := z_ctx_ok (z_hlen hJ) (fun H0 C S => z_clq_ok (z_hlen hJ) (z_cons (z_x431_s hJ) (z_cons (z_x430_s hJ) (z_cons (z_x429_s hJ) (z_cons (z_x13_s hJ) (z_nil))))) _ H0 C S) z_x432_ok
/-- $Sets.findProduct 101 3 87 154 -/
def z_x433 : zQ := ((110, 17, 2, 2), [(0, ([(0, 3), (0, 4)], [(1, (-1), 40), (1, (-2147483648), 2147483647)], [], [some (.inl (.ref 101)), some (.inl (.ref 3)), some (.inl (.ref 87)), some (.inr (0, 0)), some (.inr (1, 0)), some (.inl (.ref 154)), none]), [(0, 0, 2), (0, 0, 0)]),
  (15, ([(0, 3), (0, 4), (0, 6), (1, 12676)], [(1, (-1), 40), (1, (-2147483648), 2147483647), (1, 0, 40), (1, (-1), 40)], [(0, 3, 0), (2, 3, 1)], [some (.inl (.ref 101)), some (.inl (.ref 3)), some (.inl (.ref 87)), some (.inr (0, 0)), some (.inr (1, 0)), some (.inl (.ref 154)), some (.inr (2, 0))]), [(0, 0, 1), (1, 2, 40)])], [([(1, 12676)], [(1, 0, 60)], [], [some (.inl (.int (-9)))]),
  ([(1, 12676)], [(1, 0, 60)], [], [some (.inl (.int 0))])], [12674, 12676, 12928, 13056, 13184, 13312, 13440, 13568, 13696, 13824, 13952, 14080, 14208, 14336, 14464, 14592, 14720, 14848, 14976, 14977, 19456, 19457])
set_option maxRecDepth 100000 in
theorem z_x433_ok : z_chk z_D s_P (z_clq z_D z_x433.2.2.2 s_P [z_x426, z_x172, z_x167, z_x143, z_x24]) 3000 z_x433 = true := z_chk2_ok (by decide +kernel)
theorem z_x433_s {J : aH → Prop} (hJ : z_jl J) {X : aX} : z_spec J z_D s_P X z_x433 := z_ctx_ok (z_hlen hJ) (fun H0 C S => z_clq_ok (z_hlen hJ) (z_cons (z_x426_s hJ) (z_cons (z_x172_s hJ) (z_cons (z_x167_s hJ) (z_cons (z_x143_s hJ) (z_cons (z_x24_s hJ) (z_nil)))))) _ H0 C S) z_x433_ok
/-- $Sets.findTerm 101 3 87 154 -/
def z_x434 : zQ := ((108, 20, 2, 2), [(0, ([(0, 3), (0, 4)], [(1, 1, 1), (1, 0, 4)], [], [some (.inl (.ref 101)), some (.inl (.ref 3)), some (.inl (.ref 87)), some (.inr (0, 0)), some (.inr (1, 0)), some (.inl (.ref 154)), none, none, none, none, none, none]), [(0, 0, 1), (0, 0, 0)])], [([], [], [], [some (.inl (.int 0))]),
  ([], [], [], [some (.inl (.int (-2)))]),
  ([(1, 12676)], [(1, 0, 60)], [], [some (.inl (.int (-9)))])], [12674, 12675, 12676, 12928, 13056, 13184, 13312, 13440, 13568, 13696, 13824, 13952, 14080, 14208, 14336, 14464, 14592, 14720, 14848, 14976, 14977, 19456, 19457])
set_option maxRecDepth 100000 in
theorem z_x434_ok : z_chk z_D s_P (z_clq z_D z_x434.2.2.2 s_P [z_x433, z_x431, z_x429, z_x24]) 3000 z_x434 = true := z_chk2_ok (by decide +kernel)
theorem z_x434_s {J : aH → Prop} (hJ : z_jl J) {X : aX} : z_spec J z_D s_P X z_x434 := z_ctx_ok (z_hlen hJ) (fun H0 C S => z_clq_ok (z_hlen hJ) (z_cons (z_x433_s hJ) (z_cons (z_x431_s hJ) (z_cons (z_x429_s hJ) (z_cons (z_x24_s hJ) (z_nil))))) _ H0 C S) z_x434_ok
/-- $Sets.findBeside 101 3 87 -/
def z_x435 : zQ := ((94, 20, 0, 2), [(0, ([], [], [], [some (.inl (.ref 101)), some (.inl (.ref 3)), some (.inl (.ref 87)), none, none, none, none, none, none, none, none]), [(0, 0, 1), (0, 0, 0)])], [([], [], [], [some (.inl (.int (-2)))]),
  ([(1, 12674), (1, 12676)], [(1, 0, 15), (1, 0, 60)], [], [some (.inl (.int 0))]),
  ([(1, 12674), (1, 12676)], [(1, 0, 15), (1, 0, 60)], [], [some (.inl (.int 1))])], [12674, 12675, 12676, 12928, 13056, 13184, 13312, 13440, 13568, 13696, 13824, 13952, 14080, 14208, 14336, 14464, 14592, 14720, 14848])
set_option maxRecDepth 100000 in
theorem z_x435_ok : z_chk z_D s_P (z_clq z_D z_x435.2.2.2 s_P [z_x431, z_x429, z_x428, z_x148, z_x143]) 3000 z_x435 = true := z_chk2_ok (by decide +kernel)
theorem z_x435_s {J : aH → Prop} (hJ : z_jl J) {X : aX} : z_spec J z_D s_P X z_x435 := z_ctx_ok (z_hlen hJ) (fun H0 C S => z_clq_ok (z_hlen hJ) (z_cons (z_x431_s hJ) (z_cons (z_x429_s hJ) (z_cons (z_x428_s hJ) (z_cons (z_x148_s hJ) (z_cons (z_x143_s hJ) (z_nil)))))) _ H0 C S) z_x435_ok
/-- .judge 2 87 -/
def z_x436 : zQ := ((93, 21, 1, 2), [(0, ([(0, 2)], [(1, 0, 4)], [], [some (.inl (.ref 2)), some (.inl (.ref 87)), some (.inr (0, 0)), none]), [(0, 0, 1), (0, 0, 0)])], [([(1, 143)], [(1, 1, 1)], [], [some (.inl (.int 1))]),
  ([(1, 143)], [(1, 1, 1)], [], [some (.inl (.int 0))]),
  ([(1, 143)], [(1, 1, 1)], [], [some (.inl (.int (-2)))]),
  ([(1, 143), (1, 12676)], [(1, 1, 1), (1, 0, 60)], [], [some (.inl (.int (-9)))])], [143, 1152, 12674, 12675, 12676, 12928, 13056, 13184, 13312, 13440, 13568, 13696, 13824, 13952, 14080, 14208, 14336, 14464, 14592, 14720, 14848, 14976, 14977, 19328, 19329, 19456, 19457])
set_option maxRecDepth 100000 in
theorem z_x436_ok : z_chk z_D s_P (z_clq z_D z_x436.2.2.2 s_P [z_x435, z_x434, z_x432, z_x27, z_x9]) 3000 z_x436 = true := z_chk2_ok (by decide +kernel)
theorem z_x436_s {J : aH → Prop} (hJ : z_jl J) {X : aX} : z_spec J z_D s_P X z_x436 := z_ctx_ok (z_hlen hJ) (fun H0 C S => z_clq_ok (z_hlen hJ) (z_cons (z_x435_s hJ) (z_cons (z_x434_s hJ) (z_cons (z_x432_s hJ) (z_cons (z_x27_s hJ) (z_cons (z_x9_s hJ) (z_nil)))))) _ H0 C S) z_x436_ok
/-- $Sets.readThing 101 94 (5,) -/
def z_x437 : zQ := ((100, 1, 4, 2), [(0, ([(0, 2), (1, 11777), (1, 12676), (1, 12674)], [(1, 5, 5), (1, 5, 40), (1, 5, 40), (1, 0, 16)], [], [some (.inl (.ref 101)), some (.inl (.ref 94)), some (.inr (0, 0)), none]), [(0, 0, 2), (0, 0, 0)]),
  (2, ([(0, 2), (0, 3), (1, 11777), (1, 12674), (1, 12676), (2, 3), (2, 2), (2, 1)], [(1, 5, 5), (1, 0, 1), (1, 5, 40), (1, 0, 16), (1, 5, 40), (1, 0, 16), (1, 5, 40), (1, 5, 40)], [(5, 3, 0), (6, 4, 0), (3, 5, 0), (2, 7, 0), (7, 2, 0)], [some (.inl (.ref 101)), some (.inl (.ref 94)), some (.inr (0, 0)), some (.inr (1, 0))]), [(0, 0, 1), (1, 4, 40)])], [([(2, 1), (1, 12674), (1, 12676), (2, 3), (2, 2)], [(1, 5, 40), (1, 0, 16), (1, 6, 41), (1, 0, 16), (1, 5, 40)], [(3, 1, 0), (4, 2, (-1)), (1, 3, 1)], [])], [12674, 12676, 12928, 13056, 13184, 13312, 13440, 13568, 13696, 13824, 13952, 14080, 14208, 14336, 14464, 14592, 14720, 14848])
set_option maxRecDepth 100000 in
theorem z_x437_ok : z_chk z_D s_P (z_clq z_D z_x437.2.2.2 s_P [z_x146, z_x145]) 3000 z_x437 = true := z_chk2_ok (by decide +kernel)
theorem z_x437_s {J : aH → Prop} (hJ : z_jl J) {X : aX} : z_spec J z_D s_P X z_x437 := z_ctx_ok (z_hlen hJ) (fun H0 C S => z_clq_ok (z_hlen hJ) (z_cons (z_x146_s hJ) (z_cons (z_x145_s hJ) (z_nil))) _ H0 C S) z_x437_ok
/-- $Sets.readAll 101 94 (5,) -/
def z_x438 : zQ := ((99, 2, 3, 2), [(0, ([(0, 2), (1, 11777), (1, 12676)], [(1, 5, 5), (1, 5, 40), (1, 5, 40)], [], [some (.inl (.ref 101)), some (.inl (.ref 94)), some (.inr (0, 0))]), [(0, 0, 2), (0, 0, 0)]),
  (6, ([(0, 2), (1, 11777), (1, 12676), (2, 2), (2, 1)], [(1, 5, 5), (1, 5, 40), (1, 6, 41), (1, 5, 40), (1, 5, 40)], [(3, 2, (-1)), (1, 4, 0), (4, 1, 0)], [some (.inl (.ref 101)), some (.inl (.ref 94)), some (.inr (0, 0))]), [(0, 0, 1), (1, 2, 40)])], [([(2, 1), (1, 12676), (2, 2)], [(1, 5, 40), (1, 6, 41), (1, 5, 40)], [(2, 1, (-1))], [])], [12674, 12676, 12928, 13056, 13184, 13312, 13440, 13568, 13696, 13824, 13952, 14080, 14208, 14336, 14464, 14592, 14720, 14848])
set_option maxRecDepth 100000 in
theorem z_x438_ok : z_chk z_D s_P (z_clq z_D z_x438.2.2.2 s_P [z_x437, z_x148]) 3000 z_x438 = true := z_chk2_ok (by decide +kernel)
theorem z_x438_s {J : aH → Prop} (hJ : z_jl J) {X : aX} : z_spec J z_D s_P X z_x438 := z_ctx_ok (z_hlen hJ) (fun H0 C S => z_clq_ok (z_hlen hJ) (z_cons (z_x437_s hJ) (z_cons (z_x148_s hJ) (z_nil))) _ H0 C S) z_x438_ok
/-- $Sets.readAny 101 94 (5,) -/
def z_x439 : zQ := ((98, 3, 3, 2), [(0, ([(0, 2), (1, 11777), (1, 12676)], [(1, 5, 5), (1, 5, 40), (1, 5, 40)], [], [some (.inl (.ref 101)), some (.inl (.ref 94)), some (.inr (0, 0))]), [(0, 0, 2), (0, 0, 0)]),
  (6, ([(0, 2), (1, 11777), (1, 12676), (2, 2), (2, 1)], [(1, 5, 5), (1, 5, 40), (1, 6, 41), (1, 5, 40), (1, 5, 40)], [(3, 2, (-1)), (1, 4, 0), (4, 1, 0)], [some (.inl (.ref 101)), some (.inl (.ref 94)), some (.inr (0, 0))]), [(0, 0, 1), (1, 2, 40)])], [([(2, 1), (1, 12676), (2, 2)], [(1, 5, 40), (1, 6, 41), (1, 5, 40)], [(2, 1, (-1))], [])], [12674, 12676, 12928, 13056, 13184, 13312, 13440, 13568, 13696, 13824, 13952, 14080, 14208, 14336, 14464, 14592, 14720, 14848])
set_option maxRecDepth 100000 in
theorem z_x439_ok : z_chk z_D s_P (z_clq z_D z_x439.2.2.2 s_P [z_x438, z_x144]) 3000 z_x439 = true := z_chk2_ok (by decide +kernel)
theorem z_x439_s {J : aH → Prop} (hJ : z_jl J) {X : aX} : z_spec J z_D s_P X z_x439 := z_ctx_ok (z_hlen hJ) (fun H0 C S => z_clq_ok (z_hlen hJ) (z_cons (z_x438_s hJ) (z_cons (z_x144_s hJ) (z_nil))) _ H0 C S) z_x439_ok
/-- $Sets.readThing 101 94 (4,) -/
def z_x440 : zQ := ((100, 4, 4, 2), [(0, ([(0, 2), (1, 11777), (1, 12676), (1, 12674)], [(1, 4, 4), (1, 4, 40), (1, 4, 40), (1, 0, 16)], [], [some (.inl (.ref 101)), some (.inl (.ref 94)), some (.inr (0, 0)), none]), [(0, 0, 2), (0, 0, 0)]),
  (2, ([(0, 2), (0, 3), (1, 11777), (1, 12674), (1, 12676), (2, 3), (2, 2), (2, 1)], [(1, 4, 4), (1, 0, 1), (1, 4, 40), (1, 0, 16), (1, 4, 40), (1, 0, 16), (1, 4, 40), (1, 4, 40)], [(5, 3, 0), (6, 4, 0), (3, 5, 0), (2, 7, 0), (7, 2, 0)], [some (.inl (.ref 101)), some (.inl (.ref 94)), some (.inr (0, 0)), some (.inr (1, 0))]), [(0, 0, 1), (1, 4, 40)])], [([(2, 1), (1, 12676), (2, 2)], [(1, 4, 40), (1, 5, 42), (1, 4, 40)], [(2, 1, (-1))], [])], [12674, 12676, 12928, 13056, 13184, 13312, 13440, 13568, 13696, 13824, 13952, 14080, 14208, 14336, 14464, 14592, 14720, 14848])
set_option maxRecDepth 100000 in
theorem z_x440_ok : z_chk z_D s_P (z_clq z_D z_x440.2.2.2 s_P [z_x439, z_x146, z_x145]) 3000 z_x440 = true := z_chk2_ok (by decide +kernel)
theorem z_x440_s {J : aH → Prop} (hJ : z_jl J) {X : aX} : z_spec J z_D s_P X z_x440 := z_ctx_ok (z_hlen hJ) (fun H0 C S => z_clq_ok (z_hlen hJ) (z_cons (z_x439_s hJ) (z_cons (z_x146_s hJ) (z_cons (z_x145_s hJ) (z_nil)))) _ H0 C S) z_x440_ok
/-- $Sets.readAll 101 94 (4,) -/
def z_x441 : zQ := ((99, 5, 3, 2), [(0, ([(0, 2), (1, 11777), (1, 12676)], [(1, 4, 4), (1, 4, 40), (1, 4, 40)], [], [some (.inl (.ref 101)), some (.inl (.ref 94)), some (.inr (0, 0))]), [(0, 0, 2), (0, 0, 0)]),
  (6, ([(0, 2), (1, 11777), (1, 12676), (2, 2), (2, 1)], [(1, 4, 4), (1, 4, 40), (1, 5, 42), (1, 4, 40), (1, 4, 40)], [(3, 2, (-1)), (1, 4, 0), (4, 1, 0)], [some (.inl (.ref 101)), some (.inl (.ref 94)), some (.inr (0, 0))]), [(0, 0, 1), (1, 2, 40)])], [([(2, 1), (1, 12676), (2, 2)], [(1, 4, 40), (1, 5, 42), (1, 4, 40)], [(2, 1, (-1))], [])], [12674, 12676, 12928, 13056, 13184, 13312, 13440, 13568, 13696, 13824, 13952, 14080, 14208, 14336, 14464, 14592, 14720, 14848])
set_option maxRecDepth 100000 in
theorem z_x441_ok : z_chk z_D s_P (z_clq z_D z_x441.2.2.2 s_P [z_x440, z_x148]) 3000 z_x441 = true := z_chk2_ok (by decide +kernel)
theorem z_x441_s {J : aH → Prop} (hJ : z_jl J) {X : aX} : z_spec J z_D s_P X z_x441 := z_ctx_ok (z_hlen hJ) (fun H0 C S => z_clq_ok (z_hlen hJ) (z_cons (z_x440_s hJ) (z_cons (z_x148_s hJ) (z_nil))) _ H0 C S) z_x441_ok
/-- $Sets.readAny 101 94 (4,) -/
def z_x442 : zQ := ((98, 6, 3, 2), [(0, ([(0, 2), (1, 11777), (1, 12676)], [(1, 4, 4), (1, 4, 40), (1, 4, 40)], [], [some (.inl (.ref 101)), some (.inl (.ref 94)), some (.inr (0, 0))]), [(0, 0, 2), (0, 0, 0)]),
  (6, ([(0, 2), (1, 11777), (1, 12676), (2, 2), (2, 1)], [(1, 4, 4), (1, 4, 40), (1, 5, 42), (1, 4, 40), (1, 4, 40)], [(3, 2, (-1)), (1, 4, 0), (4, 1, 0)], [some (.inl (.ref 101)), some (.inl (.ref 94)), some (.inr (0, 0))]), [(0, 0, 1), (1, 2, 40)])], [([(2, 1), (1, 12676), (2, 2)], [(1, 4, 40), (1, 5, 42), (1, 4, 40)], [(2, 1, (-1))], [])], [12674, 12676, 12928, 13056, 13184, 13312, 13440, 13568, 13696, 13824, 13952, 14080, 14208, 14336, 14464, 14592, 14720, 14848])
set_option maxRecDepth 100000 in
theorem z_x442_ok : z_chk z_D s_P (z_clq z_D z_x442.2.2.2 s_P [z_x441, z_x144]) 3000 z_x442 = true := z_chk2_ok (by decide +kernel)
theorem z_x442_s {J : aH → Prop} (hJ : z_jl J) {X : aX} : z_spec J z_D s_P X z_x442 := z_ctx_ok (z_hlen hJ) (fun H0 C S => z_clq_ok (z_hlen hJ) (z_cons (z_x441_s hJ) (z_cons (z_x144_s hJ) (z_nil))) _ H0 C S) z_x442_ok
/-- $Sets.readThing 101 94 (3,) -/
def z_x443 : zQ := ((100, 7, 4, 2), [(0, ([(0, 2), (1, 11777), (1, 12676), (1, 12674)], [(1, 3, 3), (1, 3, 40), (1, 3, 40), (1, 0, 16)], [], [some (.inl (.ref 101)), some (.inl (.ref 94)), some (.inr (0, 0)), none]), [(0, 0, 2), (0, 0, 0)]),
  (2, ([(0, 2), (0, 3), (1, 11777), (1, 12674), (1, 12676), (2, 3), (2, 2), (2, 1)], [(1, 3, 3), (1, 0, 1), (1, 3, 40), (1, 0, 16), (1, 3, 40), (1, 0, 16), (1, 3, 40), (1, 3, 40)], [(5, 3, 0), (6, 4, 0), (3, 5, 0), (2, 7, 0), (7, 2, 0)], [some (.inl (.ref 101)), some (.inl (.ref 94)), some (.inr (0, 0)), some (.inr (1, 0))]), [(0, 0, 1), (1, 4, 40)])], [([(2, 1), (1, 12676), (2, 2)], [(1, 3, 40), (1, 4, 47), (1, 3, 40)], [(2, 1, (-1))], [])], [12674, 12676, 12928, 13056, 13184, 13312, 13440, 13568, 13696, 13824, 13952, 14080, 14208, 14336, 14464, 14592, 14720, 14848])
set_option maxRecDepth 100000 in
theorem z_x443_ok : z_chk z_D s_P (z_clq z_D z_x443.2.2.2 s_P [z_x442, z_x146, z_x145]) 3000 z_x443 = true := z_chk2_ok (by decide +kernel)
theorem z_x443_s {J : aH → Prop} (hJ : z_jl J) {X : aX} : z_spec J z_D s_P X z_x443 := z_ctx_ok (z_hlen hJ) (fun H0 C S => z_clq_ok (z_hlen hJ) (z_cons (z_x442_s hJ) (z_cons (z_x146_s hJ) (z_cons (z_x145_s hJ) (z_nil)))) _ H0 C S) z_x443_ok
/-- $Sets.readAll 101 94 (3,) -/
def z_x444 : zQ := ((99, 8, 3, 2), [(0, ([(0, 2), (1, 11777), (1, 12676)], [(1, 3, 3), (1, 3, 40), (1, 3, 40)], [], [some (.inl (.ref 101)), some (.inl (.ref 94)), some (.inr (0, 0))]), [(0, 0, 2), (0, 0, 0)]),
  (6, ([(0, 2), (1, 11777), (1, 12676), (2, 2), (2, 1)], [(1, 3, 3), (1, 3, 40), (1, 4, 47), (1, 3, 40), (1, 3, 40)], [(3, 2, (-1)), (1, 4, 0), (4, 1, 0)], [some (.inl (.ref 101)), some (.inl (.ref 94)), some (.inr (0, 0))]), [(0, 0, 1), (1, 2, 40)])], [([(2, 1), (1, 12676), (2, 2)], [(1, 3, 40), (1, 4, 47), (1, 3, 40)], [(2, 1, (-1))], [])], [12674, 12676, 12928, 13056, 13184, 13312, 13440, 13568, 13696, 13824, 13952, 14080, 14208, 14336, 14464, 14592, 14720, 14848])
set_option maxRecDepth 100000 in
theorem z_x444_ok : z_chk z_D s_P (z_clq z_D z_x444.2.2.2 s_P [z_x443, z_x148]) 3000 z_x444 = true := z_chk2_ok (by decide +kernel)
theorem z_x444_s {J : aH → Prop} (hJ : z_jl J) {X : aX} : z_spec J z_D s_P X z_x444 := z_ctx_ok (z_hlen hJ) (fun H0 C S => z_clq_ok (z_hlen hJ) (z_cons (z_x443_s hJ) (z_cons (z_x148_s hJ) (z_nil))) _ H0 C S) z_x444_ok
/-- $Sets.readAny 101 94 (3,) -/
def z_x445 : zQ := ((98, 9, 3, 2), [(0, ([(0, 2), (1, 11777), (1, 12676)], [(1, 3, 3), (1, 3, 40), (1, 3, 40)], [], [some (.inl (.ref 101)), some (.inl (.ref 94)), some (.inr (0, 0))]), [(0, 0, 2), (0, 0, 0)]),
  (6, ([(0, 2), (1, 11777), (1, 12676), (2, 2), (2, 1)], [(1, 3, 3), (1, 3, 40), (1, 4, 47), (1, 3, 40), (1, 3, 40)], [(3, 2, (-1)), (1, 4, 0), (4, 1, 0)], [some (.inl (.ref 101)), some (.inl (.ref 94)), some (.inr (0, 0))]), [(0, 0, 1), (1, 2, 40)])], [([(2, 1), (1, 12676), (2, 2)], [(1, 3, 40), (1, 4, 47), (1, 3, 40)], [(2, 1, (-1))], [])], [12674, 12676, 12928, 13056, 13184, 13312, 13440, 13568, 13696, 13824, 13952, 14080, 14208, 14336, 14464, 14592, 14720, 14848])
set_option maxRecDepth 100000 in
theorem z_x445_ok : z_chk z_D s_P (z_clq z_D z_x445.2.2.2 s_P [z_x444, z_x144]) 3000 z_x445 = true := z_chk2_ok (by decide +kernel)
theorem z_x445_s {J : aH → Prop} (hJ : z_jl J) {X : aX} : z_spec J z_D s_P X z_x445 := z_ctx_ok (z_hlen hJ) (fun H0 C S => z_clq_ok (z_hlen hJ) (z_cons (z_x444_s hJ) (z_cons (z_x144_s hJ) (z_nil))) _ H0 C S) z_x445_ok
/-- $Sets.readThing 101 94 (2,) -/
def z_x446 : zQ := ((100, 10, 4, 2), [(0, ([(0, 2), (1, 11777), (1, 12676), (1, 12674)], [(1, 2, 2), (1, 2, 40), (1, 2, 40), (1, 0, 16)], [], [some (.inl (.ref 101)), some (.inl (.ref 94)), some (.inr (0, 0)), none]), [(0, 0, 2), (0, 0, 0)]),
  (2, ([(0, 2), (0, 3), (1, 11777), (1, 12674), (1, 12676), (2, 3), (2, 2), (2, 1)], [(1, 2, 2), (1, 0, 1), (1, 2, 40), (1, 0, 16), (1, 2, 40), (1, 0, 16), (1, 2, 40), (1, 2, 40)], [(1, 4, (-2)), (5, 3, 0), (6, 4, 0), (3, 5, 0), (2, 7, 0), (7, 2, 0)], [some (.inl (.ref 101)), some (.inl (.ref 94)), some (.inr (0, 0)), some (.inr (1, 0))]), [(0, 0, 1), (1, 4, 40)])], [([(2, 1), (1, 12676), (2, 2)], [(1, 2, 40), (1, 3, 48), (1, 2, 40)], [(2, 1, (-1))], [])], [12674, 12676, 12928, 13056, 13184, 13312, 13440, 13568, 13696, 13824, 13952, 14080, 14208, 14336, 14464, 14592, 14720, 14848])
set_option maxRecDepth 100000 in
theorem z_x446_ok : z_chk z_D s_P (z_clq z_D z_x446.2.2.2 s_P [z_x445, z_x146, z_x145]) 3000 z_x446 = true := z_chk2_ok (by decide +kernel)
theorem z_x446_s {J : aH → Prop} (hJ : z_jl J) {X : aX} : z_spec J z_D s_P X z_x446 := z_ctx_ok (z_hlen hJ) (fun H0 C S => z_clq_ok (z_hlen hJ) (z_cons (z_x445_s hJ) (z_cons (z_x146_s hJ) (z_cons (z_x145_s hJ) (z_nil)))) _ H0 C S) z_x446_ok
/-- $Sets.readAll 101 94 (2,) -/
def z_x447 : zQ := ((99, 11, 3, 2), [(0, ([(0, 2), (1, 11777), (1, 12676)], [(1, 2, 2), (1, 2, 40), (1, 2, 40)], [], [some (.inl (.ref 101)), some (.inl (.ref 94)), some (.inr (0, 0))]), [(0, 0, 2), (0, 0, 0)]),
  (6, ([(0, 2), (1, 11777), (1, 12676), (2, 2), (2, 1)], [(1, 2, 2), (1, 2, 40), (1, 3, 48), (1, 2, 40), (1, 2, 40)], [(3, 2, (-1)), (1, 4, 0), (4, 1, 0)], [some (.inl (.ref 101)), some (.inl (.ref 94)), some (.inr (0, 0))]), [(0, 0, 1), (1, 2, 40)])], [([(2, 1), (1, 12676), (2, 2)], [(1, 2, 40), (1, 3, 48), (1, 2, 40)], [(2, 1, (-1))], [])], [12674, 12676, 12928, 13056, 13184, 13312, 13440, 13568, 13696, 13824, 13952, 14080, 14208, 14336, 14464, 14592, 14720, 14848])
set_option maxRecDepth 100000 in
theorem z_x447_ok : z_chk z_D s_P (z_clq z_D z_x447.2.2.2 s_P [z_x446, z_x148]) 3000 z_x447 = true := z_chk2_ok (by decide +kernel)
theorem z_x447_s {J : aH → Prop} (hJ : z_jl J) {X : aX} : z_spec J z_D s_P X z_x447 := z_ctx_ok (z_hlen hJ) (fun H0 C S => z_clq_ok (z_hlen hJ) (z_cons (z_x446_s hJ) (z_cons (z_x148_s hJ) (z_nil))) _ H0 C S) z_x447_ok
/-- $Sets.readAny 101 94 (2,) -/
def z_x448 : zQ := ((98, 12, 3, 2), [(0, ([(0, 2), (1, 11777), (1, 12676)], [(1, 2, 2), (1, 2, 40), (1, 2, 40)], [], [some (.inl (.ref 101)), some (.inl (.ref 94)), some (.inr (0, 0))]), [(0, 0, 2), (0, 0, 0)]),
  (6, ([(0, 2), (1, 11777), (1, 12676), (2, 2), (2, 1)], [(1, 2, 2), (1, 2, 40), (1, 3, 48), (1, 2, 40), (1, 2, 40)], [(3, 2, (-1)), (1, 4, 0), (4, 1, 0)], [some (.inl (.ref 101)), some (.inl (.ref 94)), some (.inr (0, 0))]), [(0, 0, 1), (1, 2, 40)])], [([(2, 1), (1, 12676), (2, 2)], [(1, 2, 40), (1, 3, 48), (1, 2, 40)], [(2, 1, (-1))], [])], [12674, 12676, 12928, 13056, 13184, 13312, 13440, 13568, 13696, 13824, 13952, 14080, 14208, 14336, 14464, 14592, 14720, 14848])
set_option maxRecDepth 100000 in
theorem z_x448_ok : z_chk z_D s_P (z_clq z_D z_x448.2.2.2 s_P [z_x447, z_x144]) 3000 z_x448 = true := z_chk2_ok (by decide +kernel)
theorem z_x448_s {J : aH → Prop} (hJ : z_jl J) {X : aX} : z_spec J z_D s_P X z_x448 := z_ctx_ok (z_hlen hJ) (fun H0 C S => z_clq_ok (z_hlen hJ) (z_cons (z_x447_s hJ) (z_cons (z_x144_s hJ) (z_nil))) _ H0 C S) z_x448_ok
/-- $Sets.readThing 101 94 (1,) -/
def z_x449 : zQ := ((100, 13, 4, 2), [(0, ([(0, 2), (1, 11777), (1, 12676), (1, 12674)], [(1, 1, 1), (1, 1, 40), (1, 1, 40), (1, 0, 16)], [], [some (.inl (.ref 101)), some (.inl (.ref 94)), some (.inr (0, 0)), none]), [(0, 0, 2), (0, 0, 0)]),
  (2, ([(0, 2), (0, 3), (1, 11777), (1, 12674), (1, 12676), (2, 3), (2, 2), (2, 1)], [(1, 1, 1), (1, 0, 1), (1, 1, 40), (1, 0, 16), (1, 1, 40), (1, 0, 16), (1, 1, 40), (1, 1, 40)], [(1, 4, (-1)), (5, 3, 0), (6, 4, 0), (3, 5, 0), (2, 7, 0), (7, 2, 0)], [some (.inl (.ref 101)), some (.inl (.ref 94)), some (.inr (0, 0)), some (.inr (1, 0))]), [(0, 0, 1), (1, 4, 40)])], [([(2, 1), (1, 12676), (2, 2)], [(1, 1, 40), (1, 2, 59), (1, 1, 40)], [(2, 1, (-1))], [])], [12674, 12676, 12928, 13056, 13184, 13312, 13440, 13568, 13696, 13824, 13952, 14080, 14208, 14336, 14464, 14592, 14720, 14848])
set_option maxRecDepth 100000 in
theorem z_x449_ok : z_chk z_D s_P (z_clq z_D z_x449.2.2.2 s_P [z_x448, z_x146, z_x145]) 3000 z_x449 = true := z_chk2_ok (by decide +kernel)
theorem z_x449_s {J : aH → Prop} (hJ : z_jl J) {X : aX} : z_spec J z_D s_P X z_x449 := z_ctx_ok (z_hlen hJ) (fun H0 C S => z_clq_ok (z_hlen hJ) (z_cons (z_x448_s hJ) (z_cons (z_x146_s hJ) (z_cons (z_x145_s hJ) (z_nil)))) _ H0 C S) z_x449_ok
/-- $Sets.readAll 101 94 (1,) -/
def z_x450 : zQ := ((99, 14, 3, 2), [(0, ([(0, 2), (1, 11777), (1, 12676)], [(1, 1, 1), (1, 1, 40), (1, 1, 40)], [], [some (.inl (.ref 101)), some (.inl (.ref 94)), some (.inr (0, 0))]), [(0, 0, 2), (0, 0, 0)]),
  (6, ([(0, 2), (1, 11777), (1, 12676), (2, 2), (2, 1)], [(1, 1, 1), (1, 1, 40), (1, 2, 59), (1, 1, 40), (1, 1, 40)], [(3, 2, (-1)), (1, 4, 0), (4, 1, 0)], [some (.inl (.ref 101)), some (.inl (.ref 94)), some (.inr (0, 0))]), [(0, 0, 1), (1, 2, 40)])], [([(2, 1), (1, 12676), (2, 2)], [(1, 1, 40), (1, 2, 59), (1, 1, 40)], [(2, 1, (-1))], [])], [12674, 12676, 12928, 13056, 13184, 13312, 13440, 13568, 13696, 13824, 13952, 14080, 14208, 14336, 14464, 14592, 14720, 14848])
set_option maxRecDepth 100000 in
theorem z_x450_ok : z_chk z_D s_P (z_clq z_D z_x450.2.2.2 s_P [z_x449, z_x148]) 3000 z_x450 = true := z_chk2_ok (by decide +kernel)
theorem z_x450_s {J : aH → Prop} (hJ : z_jl J) {X : aX} : z_spec J z_D s_P X z_x450 := z_ctx_ok (z_hlen hJ) (fun H0 C S => z_clq_ok (z_hlen hJ) (z_cons (z_x449_s hJ) (z_cons (z_x148_s hJ) (z_nil))) _ H0 C S) z_x450_ok
/-- $Sets.readAny 101 94 (1,) -/
def z_x451 : zQ := ((98, 15, 3, 2), [(0, ([(0, 2), (1, 11777), (1, 12676)], [(1, 1, 1), (1, 1, 40), (1, 1, 40)], [], [some (.inl (.ref 101)), some (.inl (.ref 94)), some (.inr (0, 0))]), [(0, 0, 2), (0, 0, 0)]),
  (6, ([(0, 2), (1, 11777), (1, 12676), (2, 2), (2, 1)], [(1, 1, 1), (1, 1, 40), (1, 2, 59), (1, 1, 40), (1, 1, 40)], [(3, 2, (-1)), (1, 4, 0), (4, 1, 0)], [some (.inl (.ref 101)), some (.inl (.ref 94)), some (.inr (0, 0))]), [(0, 0, 1), (1, 2, 40)])], [([(2, 1), (1, 12676), (2, 2)], [(1, 1, 40), (1, 2, 59), (1, 1, 40)], [(2, 1, (-1))], [])], [12674, 12676, 12928, 13056, 13184, 13312, 13440, 13568, 13696, 13824, 13952, 14080, 14208, 14336, 14464, 14592, 14720, 14848])
set_option maxRecDepth 100000 in
theorem z_x451_ok : z_chk z_D s_P (z_clq z_D z_x451.2.2.2 s_P [z_x450, z_x144]) 3000 z_x451 = true := z_chk2_ok (by decide +kernel)
theorem z_x451_s {J : aH → Prop} (hJ : z_jl J) {X : aX} : z_spec J z_D s_P X z_x451 := z_ctx_ok (z_hlen hJ) (fun H0 C S => z_clq_ok (z_hlen hJ) (z_cons (z_x450_s hJ) (z_cons (z_x144_s hJ) (z_nil))) _ H0 C S) z_x451_ok
/-- $Sets.readThing 101 94 (0,) -/
def z_x452 : zQ := ((100, 16, 3, 2), [(0, ([(0, 2), (1, 12676), (1, 12674)], [(1, 0, 0), (1, (-1), 40), (1, 0, 16)], [], [some (.inl (.ref 101)), some (.inl (.ref 94)), some (.inr (0, 0)), none]), [(0, 0, 2), (0, 0, 0)]),
  (2, ([(0, 2), (0, 3), (1, 12674), (1, 12676), (2, 2), (2, 1)], [(1, 0, 0), (1, 0, 1), (1, 0, 16), (1, (-1), 40), (1, 0, 16), (1, (-1), 40)], [(1, 3, 1), (4, 2, 0), (5, 3, 0), (2, 4, 0)], [some (.inl (.ref 101)), some (.inl (.ref 94)), some (.inr (0, 0)), some (.inr (1, 0))]), [(0, 0, 1), (1, 3, 40)])], [([(1, 12676), (2, 1)], [(1, 0, 60), (1, (-1), 40)], [(1, 0, (-1))], [])], [12674, 12676, 12928, 13056, 13184, 13312, 13440, 13568, 13696, 13824, 13952, 14080, 14208, 14336, 14464, 14592, 14720, 14848])
set_option maxRecDepth 100000 in
theorem z_x452_ok : z_chk z_D s_P (z_clq z_D z_x452.2.2.2 s_P [z_x451, z_x146, z_x145]) 3000 z_x452 = true := z_chk2_ok (by decide +kernel)
theorem z_x452_s {J : aH → Prop} (hJ : z_jl J) {X : aX} : z_spec J z_D s_P X z_x452 := z_ctx_ok (z_hlen hJ) (fun H0 C S => z_clq_ok (z_hlen hJ) (z_cons (z_x451_s hJ) (z_cons (z_x146_s hJ) (z_cons (z_x145_s hJ) (z_nil)))) _ H0 C S) z_x452_ok
/-- $Sets.readAll 101 94 (0,) -/
def z_x453 : zQ := ((99, 17, 2, 2), [(0, ([(0, 2), (1, 12676)], [(1, 0, 0), (1, (-1), 40)], [], [some (.inl (.ref 101)), some (.inl (.ref 94)), some (.inr (0, 0))]), [(0, 0, 2), (0, 0, 0)]),
  (6, ([(0, 2), (1, 12676), (2, 1)], [(1, 0, 0), (1, 0, 60), (1, (-1), 40)], [(2, 1, (-1))], [some (.inl (.ref 101)), some (.inl (.ref 94)), some (.inr (0, 0))]), [(0, 0, 1), (1, 1, 40)])], [([(1, 12676), (2, 1)], [(1, 0, 60), (1, (-1), 40)], [(1, 0, (-1))], [])], [12674, 12676, 12928, 13056, 13184, 13312, 13440, 13568, 13696, 13824, 13952, 14080, 14208, 14336, 14464, 14592, 14720, 14848])
set_option maxRecDepth 100000 in
theorem z_x453_ok : z_chk z_D s_P (z_clq z_D z_x453.2.2.2 s_P [z_x452, z_x148]) 3000 z_x453 = true := z_chk2_ok (by decide +kernel)
theorem z_x453_s {J : aH → Prop} (hJ : z_jl J) {X : aX} : z_spec J z_D s_P X z_x453 := z_ctx_ok (z_hlen hJ) (fun H0 C S => z_clq_ok (z_hlen hJ) (z_cons (z_x452_s hJ) (z_cons (z_x148_s hJ) (z_nil))) _ H0 C S) z_x453_ok
/-- $Sets.readAny 101 94 (0,) -/
def z_x454 : zQ := ((98, 18, 2, 2), [(0, ([(0, 2), (1, 12676)], [(1, 0, 0), (1, (-1), 40)], [], [some (.inl (.ref 101)), some (.inl (.ref 94)), some (.inr (0, 0))]), [(0, 0, 2), (0, 0, 0)]),
  (6, ([(0, 2), (1, 12676), (2, 1)], [(1, 0, 0), (1, 0, 60), (1, (-1), 40)], [(2, 1, (-1))], [some (.inl (.ref 101)), some (.inl (.ref 94)), some (.inr (0, 0))]), [(0, 0, 1), (1, 1, 40)])], [([(1, 12676), (2, 1)], [(1, 0, 60), (1, (-1), 40)], [(1, 0, (-1))], [])], [12674, 12676, 12928, 13056, 13184, 13312, 13440, 13568, 13696, 13824, 13952, 14080, 14208, 14336, 14464, 14592, 14720, 14848])
set_option maxRecDepth 100000 in
theorem z_x454_ok : z_chk z_D s_P (z_clq z_D z_x454.2.2.2 s_P [z_x453, z_x144]) 3000 z_x454 = true := z_chk2_ok (by decide +kernel)
theorem z_x454_s {J : aH → Prop} (hJ : z_jl J) {X : aX} : z_spec J z_D s_P X z_x454 := z_ctx_ok (z_hlen hJ) (fun H0 C S => z_clq_ok (z_hlen hJ) (z_cons (z_x453_s hJ) (z_cons (z_x144_s hJ) (z_nil))) _ H0 C S) z_x454_ok
/-- $Sets.weighEvent 101 3 94 -/
def z_x455 : zQ := ((107, 19, 1, 2), [(0, ([(0, 3)], [(1, (-1), 40)], [], [some (.inl (.ref 101)), some (.inl (.ref 3)), some (.inl (.ref 94)), some (.inr (0, 0))]), [(0, 0, 1), (0, 0, 0)])], [([(0, 0), (1, 12676)], [(1, (-2147483648), 2147483647), (1, 0, 60)], [], [some (.inr (0, 0))])], [12674, 12676, 12928, 13056, 13184, 13312, 13440, 13568, 13696, 13824, 13952, 14080, 14208, 14336, 14464, 14592, 14720, 14848])
set_option maxRecDepth 100000 in
theorem z_x455_ok : z_chk z_D s_P (z_clq z_D z_x455.2.2.2 s_P [z_x454, z_x143]) 3000 z_x455 = true := z_chk2_ok (by decide +kernel)
theorem z_x455_s {J : aH → Prop} (hJ : z_jl J) {X : aX} : z_spec J z_D s_P X z_x455 := z_ctx_ok (z_hlen hJ) (fun H0 C S => z_clq_ok (z_hlen hJ) (z_cons (z_x454_s hJ) (z_cons (z_x143_s hJ) (z_nil))) _ H0 C S) z_x455_ok
/-- $Sets.findProduct 101 3 94 153 -/
def z_x456 : zQ := ((110, 17, 2, 2), [(0, ([(0, 3), (0, 4)], [(1, (-1), 40), (1, (-2147483648), 2147483647)], [], [some (.inl (.ref 101)), some (.inl (.ref 3)), some (.inl (.ref 94)), some (.inr (0, 0)), some (.inr (1, 0)), some (.inl (.ref 153)), none]), [(0, 0, 2), (0, 0, 0)]),
  (15, ([(0, 3), (0, 4), (0, 6), (1, 12676)], [(1, (-1), 40), (1, (-2147483648), 2147483647), (1, 0, 40), (1, (-1), 40)], [(0, 3, 0), (2, 3, 1)], [some (.inl (.ref 101)), some (.inl (.ref 3)), some (.inl (.ref 94)), some (.inr (0, 0)), some (.inr (1, 0)), some (.inl (.ref 153)), some (.inr (2, 0))]), [(0, 0, 1), (1, 2, 40)])], [([(1, 12676)], [(1, 0, 60)], [], [some (.inl (.int (-9)))]),
  ([(1, 12676)], [(1, 0, 60)], [], [some (.inl (.int 0))])], [12674, 12676, 12928, 13056, 13184, 13312, 13440, 13568, 13696, 13824, 13952, 14080, 14208, 14336, 14464, 14592, 14720, 14848, 14976, 14977, 19328, 19329])
set_option maxRecDepth 100000 in
theorem z_x456_ok : z_chk z_D s_P (z_clq z_D z_x456.2.2.2 s_P [z_x452, z_x167, z_x143, z_x38, z_x13]) 3000 z_x456 = true := z_chk2_ok (by decide +kernel)
theorem z_x456_s {J : aH → Prop} (hJ : z_jl J) {X : aX} : z_spec J z_D s_P X z_x456 := z_ctx_ok (z_hlen hJ) (fun H0 C S => z_clq_ok (z_hlen hJ) (z_cons (z_x452_s hJ) (z_cons (z_x167_s hJ) (z_cons (z_x143_s hJ) (z_cons (z_x38_s hJ) (z_cons (z_x13_s hJ) (z_nil)))))) _ H0 C S) z_x456_ok
/-- $Sets.weighGiven 101 3 94 -/
def z_x457 : zQ := ((95, 19, 1, 2), [(0, ([(0, 3)], [(1, (-1), 40)], [], [some (.inl (.ref 101)), some (.inl (.ref 3)), some (.inl (.ref 94)), some (.inr (0, 0))]), [(0, 0, 1), (0, 0, 0)])], [([(0, 0)], [(1, (-2147483648), 2147483647)], [], [some (.inr (0, 0))])], [12674, 12675, 12676, 12928, 13056, 13184, 13312, 13440, 13568, 13696, 13824, 13952, 14080, 14208, 14336, 14464, 14592, 14720, 14848])
set_option maxRecDepth 100000 in
theorem z_x457_ok : z_chk z_D s_P (z_clq z_D z_x457.2.2.2 s_P [z_x454, z_x169, z_x143]) 3000 z_x457 = true := z_chk2_ok (by decide +kernel)
theorem z_x457_s {J : aH → Prop} (hJ : z_jl J) {X : aX} : z_spec J z_D s_P X z_x457 := z_ctx_ok (z_hlen hJ) (fun H0 C S => z_clq_ok (z_hlen hJ) (z_cons (z_x454_s hJ) (z_cons (z_x169_s hJ) (z_cons (z_x143_s hJ) (z_nil)))) _ H0 C S) z_x457_ok
/-- $Sets.findTerm 101 3 94 153 -/
def z_x458 : zQ := ((108, 20, 2, 2), [(0, ([(0, 3), (0, 4)], [(1, 0, 1), (1, 0, 4)], [], [some (.inl (.ref 101)), some (.inl (.ref 3)), some (.inl (.ref 94)), some (.inr (0, 0)), some (.inr (1, 0)), some (.inl (.ref 153)), none, none, none, none, none, none]), [(0, 0, 1), (0, 0, 0)])], [([], [], [], [some (.inl (.int 0))]),
  ([], [], [], [some (.inl (.int (-2)))]),
  ([(1, 12676)], [(1, 0, 60)], [], [some (.inl (.int (-9)))])], [12674, 12675, 12676, 12928, 13056, 13184, 13312, 13440, 13568, 13696, 13824, 13952, 14080, 14208, 14336, 14464, 14592, 14720, 14848, 14976, 14977, 19328, 19329])
set_option maxRecDepth 100000 in
theorem z_x458_ok : z_chk z_D s_P (z_clq z_D z_x458.2.2.2 s_P [z_x457, z_x456, z_x455, z_x13]) 3000 z_x458 = true := z_chk2_ok (by decide +kernel)
theorem z_x458_s {J : aH → Prop} (hJ : z_jl J) {X : aX} : z_spec J z_D s_P X z_x458 := z_ctx_ok (z_hlen hJ) (fun H0 C S => z_clq_ok (z_hlen hJ) (z_cons (z_x457_s hJ) (z_cons (z_x456_s hJ) (z_cons (z_x455_s hJ) (z_cons (z_x13_s hJ) (z_nil))))) _ H0 C S) z_x458_ok
/-- $Sets.findProduct 101 3 94 154 -/
def z_x459 : zQ := ((110, 17, 2, 2), [(0, ([(0, 3), (0, 4)], [(1, (-1), 40), (1, (-2147483648), 2147483647)], [], [some (.inl (.ref 101)), some (.inl (.ref 3)), some (.inl (.ref 94)), some (.inr (0, 0)), some (.inr (1, 0)), some (.inl (.ref 154)), none]), [(0, 0, 2), (0, 0, 0)]),
  (15, ([(0, 3), (0, 4), (0, 6), (1, 12676)], [(1, (-1), 40), (1, (-2147483648), 2147483647), (1, 0, 40), (1, (-1), 40)], [(0, 3, 0), (2, 3, 1)], [some (.inl (.ref 101)), some (.inl (.ref 3)), some (.inl (.ref 94)), some (.inr (0, 0)), some (.inr (1, 0)), some (.inl (.ref 154)), some (.inr (2, 0))]), [(0, 0, 1), (1, 2, 40)])], [([(1, 12676)], [(1, 0, 60)], [], [some (.inl (.int (-9)))]),
  ([(1, 12676)], [(1, 0, 60)], [], [some (.inl (.int 0))])], [12674, 12676, 12928, 13056, 13184, 13312, 13440, 13568, 13696, 13824, 13952, 14080, 14208, 14336, 14464, 14592, 14720, 14848, 14976, 14977, 19456, 19457])
set_option maxRecDepth 100000 in
theorem z_x459_ok : z_chk z_D s_P (z_clq z_D z_x459.2.2.2 s_P [z_x452, z_x172, z_x167, z_x143, z_x24]) 3000 z_x459 = true := z_chk2_ok (by decide +kernel)
theorem z_x459_s {J : aH → Prop} (hJ : z_jl J) {X : aX} : z_spec J z_D s_P X z_x459 := z_ctx_ok (z_hlen hJ) (fun H0 C S => z_clq_ok (z_hlen hJ) (z_cons (z_x452_s hJ) (z_cons (z_x172_s hJ) (z_cons (z_x167_s hJ) (z_cons (z_x143_s hJ) (z_cons (z_x24_s hJ) (z_nil)))))) _ H0 C S) z_x459_ok
/-- $Sets.findTerm 101 3 94 154 -/
def z_x460 : zQ := ((108, 20, 2, 2), [(0, ([(0, 3), (0, 4)], [(1, 1, 1), (1, 0, 4)], [], [some (.inl (.ref 101)), some (.inl (.ref 3)), some (.inl (.ref 94)), some (.inr (0, 0)), some (.inr (1, 0)), some (.inl (.ref 154)), none, none, none, none, none, none]), [(0, 0, 1), (0, 0, 0)])], [([], [], [], [some (.inl (.int 0))]),
  ([], [], [], [some (.inl (.int (-2)))]),
  ([(1, 12676)], [(1, 0, 60)], [], [some (.inl (.int (-9)))])], [12674, 12675, 12676, 12928, 13056, 13184, 13312, 13440, 13568, 13696, 13824, 13952, 14080, 14208, 14336, 14464, 14592, 14720, 14848, 14976, 14977, 19456, 19457])
set_option maxRecDepth 100000 in
theorem z_x460_ok : z_chk z_D s_P (z_clq z_D z_x460.2.2.2 s_P [z_x459, z_x457, z_x455, z_x24]) 3000 z_x460 = true := z_chk2_ok (by decide +kernel)
theorem z_x460_s {J : aH → Prop} (hJ : z_jl J) {X : aX} : z_spec J z_D s_P X z_x460 := z_ctx_ok (z_hlen hJ) (fun H0 C S => z_clq_ok (z_hlen hJ) (z_cons (z_x459_s hJ) (z_cons (z_x457_s hJ) (z_cons (z_x455_s hJ) (z_cons (z_x24_s hJ) (z_nil))))) _ H0 C S) z_x460_ok
/-- $Sets.findBeside 101 3 94 -/
def z_x461 : zQ := ((94, 20, 0, 2), [(0, ([], [], [], [some (.inl (.ref 101)), some (.inl (.ref 3)), some (.inl (.ref 94)), none, none, none, none, none, none, none, none]), [(0, 0, 1), (0, 0, 0)])], [([], [], [], [some (.inl (.int (-2)))]),
  ([(1, 12674), (1, 12676)], [(1, 0, 15), (1, 0, 60)], [], [some (.inl (.int 0))]),
  ([(1, 12674), (1, 12676)], [(1, 0, 15), (1, 0, 60)], [], [some (.inl (.int 1))])], [12674, 12675, 12676, 12928, 13056, 13184, 13312, 13440, 13568, 13696, 13824, 13952, 14080, 14208, 14336, 14464, 14592, 14720, 14848])
set_option maxRecDepth 100000 in
theorem z_x461_ok : z_chk z_D s_P (z_clq z_D z_x461.2.2.2 s_P [z_x457, z_x455, z_x454, z_x148, z_x143]) 3000 z_x461 = true := z_chk2_ok (by decide +kernel)
theorem z_x461_s {J : aH → Prop} (hJ : z_jl J) {X : aX} : z_spec J z_D s_P X z_x461 := z_ctx_ok (z_hlen hJ) (fun H0 C S => z_clq_ok (z_hlen hJ) (z_cons (z_x457_s hJ) (z_cons (z_x455_s hJ) (z_cons (z_x454_s hJ) (z_cons (z_x148_s hJ) (z_cons (z_x143_s hJ) (z_nil)))))) _ H0 C S) z_x461_ok
/-- .judge 2 94 -/
def z_x462 : zQ := ((93, 21, 1, 2), [(0, ([(0, 2)], [(1, 0, 4)], [], [some (.inl (.ref 2)), some (.inl (.ref 94)), some (.inr (0, 0)), none]), [(0, 0, 1), (0, 0, 0)])], [([(1, 143)], [(1, 1, 1)], [], [some (.inl (.int 1))]),
  ([(1, 143)], [(1, 1, 1)], [], [some (.inl (.int 0))]),
  ([(1, 143)], [(1, 1, 1)], [], [some (.inl (.int (-2)))]),
  ([(1, 143), (1, 12676)], [(1, 1, 1), (1, 0, 60)], [], [some (.inl (.int (-9)))])], [143, 1152, 12674, 12675, 12676, 12928, 13056, 13184, 13312, 13440, 13568, 13696, 13824, 13952, 14080, 14208, 14336, 14464, 14592, 14720, 14848, 14976, 14977, 19328, 19329, 19456, 19457])
set_option maxRecDepth 100000 in
theorem z_x462_ok : z_chk z_D s_P (z_clq z_D z_x462.2.2.2 s_P [z_x461, z_x460, z_x458, z_x27, z_x9]) 3000 z_x462 = true := z_chk2_ok (by decide +kernel)
theorem z_x462_s {J : aH → Prop} (hJ : z_jl J) {X : aX} : z_spec J z_D s_P X z_x462 := z_ctx_ok (z_hlen hJ) (fun H0 C S => z_clq_ok (z_hlen hJ) (z_cons (z_x461_s hJ) (z_cons (z_x460_s hJ) (z_cons (z_x458_s hJ) (z_cons (z_x27_s hJ) (z_cons (z_x9_s hJ) (z_nil)))))) _ H0 C S) z_x462_ok
/-- .so 2 -/
def z_x463 : zQ := ((92, 22, 4, 2), [(0, ([(0, 1), (1, 15), (1, 12674), (1, 12676)], [(1, (-2147483648), 2147483647), (1, 0, 12), (1, 0, 16), (1, (-2147483648), 2147483647)], [], [some (.inl (.ref 2)), some (.inr (0, 0))]), [(0, 0, 1), (0, 0, 0)])], [([(1, 12674), (1, 12676), (2, 2), (2, 3)], [(1, 0, 16), (1, (-2147483648), 2147483647), (1, 0, 16), (1, (-2147483648), 2147483647)], [(2, 0, 0), (3, 1, 0), (0, 2, 0), (1, 3, 0)], [some (.inl (.int (-1)))]),
  ([(2, 1), (1, 143)], [(1, 1, 12), (1, 1, 1)], [], [some (.inl (.int 1))]),
  ([(2, 1), (1, 143)], [(1, 1, 12), (1, 1, 1)], [], [some (.inl (.int 0))]),
  ([(2, 1), (1, 143)], [(1, 1, 12), (1, 1, 1)], [], [some (.inl (.int (-2)))]),
  ([(2, 1), (1, 143), (1, 12676)], [(1, 1, 12), (1, 1, 1), (1, 0, 60)], [], [some (.inl (.int (-9)))])], [143, 1152, 12674, 12675, 12676, 12928, 13056, 13184, 13312, 13440, 13568, 13696, 13824, 13952, 14080, 14208, 14336, 14464, 14592, 14720, 14848, 14976, 14977, 19328, 19329, 19456, 19457])
set_option maxRecDepth 100000 in
theorem z_x463_ok : z_chk z_D s_P (z_clq z_D z_x463.2.2.2 s_P [z_x462, z_x436, z_x410, z_x384, z_x358, z_x332, z_x306, z_x280, z_x254, z_x228, z_x202, z_x176]) 3000 z_x463 = true := z_chk2_ok (by decide +kernel)
theorem z_x463_s {J : aH → Prop} (hJ : z_jl J) {X : aX} : z_spec J z_D s_P X z_x463 := z_ctx_ok (z_hlen hJ) (fun H0 C S => z_clq_ok (z_hlen hJ) (z_cons (z_x462_s hJ) (z_cons (z_x436_s hJ) (z_cons (z_x410_s hJ) (z_cons (z_x384_s hJ) (z_cons (z_x358_s hJ) (z_cons (z_x332_s hJ) (z_cons (z_x306_s hJ) (z_cons (z_x280_s hJ) (z_cons (z_x254_s hJ) (z_cons (z_x228_s hJ) (z_cons (z_x202_s hJ) (z_cons (z_x176_s hJ) (z_nil))))))))))))) _ H0 C S) z_x463_ok
/-- .term 2 -/
def z_x464 : zQ := ((112, 21, 5, 2), [(0, ([(0, 1), (0, 2), (1, 15), (1, 12674), (1, 12676)], [(1, (-2147483648), 2147483647), (1, (-2147483648), 2147483647), (1, 0, 12), (1, 0, 16), (1, (-2147483648), 2147483647)], [], [some (.inl (.ref 2)), some (.inr (0, 0)), some (.inr (1, 0)), none]), [(0, 0, 1), (0, 0, 0)])], [([(1, 12674), (1, 12676), (2, 3), (2, 4)], [(1, 0, 16), (1, (-2147483648), 2147483647), (1, 0, 16), (1, (-2147483648), 2147483647)], [(2, 0, 0), (3, 1, 0), (0, 2, 0), (1, 3, 0)], [some (.inl (.int (-1)))]),
  ([(2, 2), (1, 143), (1, 1281)], [(1, 1, 12), (1, 1, 1), (1, 1, 8)], [], [some (.inl (.int 0))]),
  ([(2, 2), (1, 143)], [(1, 1, 12), (1, 1, 1)], [], [some (.inl (.int (-2)))]),
  ([(2, 2), (1, 143), (1, 12676)], [(1, 1, 12), (1, 1, 1), (1, 0, 60)], [], [some (.inl (.int (-9)))])], [143, 1152, 1281, 1408, 12674, 12675, 12676, 12928, 13056, 13184, 13312, 13440, 13568, 13696, 13824, 13952, 14080, 14208, 14336, 14464, 14592, 14720, 14848, 14976, 14977, 19328, 19329])
set_option maxRecDepth 100000 in
theorem z_x464_ok : z_chk z_D s_P (z_clq z_D z_x464.2.2.2 s_P [z_x458, z_x432, z_x406, z_x380, z_x354, z_x328, z_x302, z_x276, z_x250, z_x224, z_x198, z_x171, z_x17, z_x9]) 3000 z_x464 = true := z_chk2_ok (by decide +kernel)
theorem z_x464_s {J : aH → Prop} (hJ : z_jl J) {X : aX} : z_spec J z_D s_P X z_x464 := z_ctx_ok (z_hlen hJ) (fun H0 C S => z_clq_ok (z_hlen hJ) (z_cons (z_x458_s hJ) (z_cons (z_x432_s hJ) (z_cons (z_x406_s hJ) (z_cons (z_x380_s hJ) (z_cons (z_x354_s hJ) (z_cons (z_x328_s hJ) (z_cons (z_x302_s hJ) (z_cons (z_x276_s hJ) (z_cons (z_x250_s hJ) (z_cons (z_x224_s hJ) (z_cons (z_x198_s hJ) (z_cons (z_x171_s hJ) (z_cons (z_x17_s hJ) (z_cons (z_x9_s hJ) (z_nil))))))))))))))) _ H0 C S) z_x464_ok
/-- .slip 2 -/
def z_x465 : zQ := ((113, 22, 5, 2), [(0, ([(0, 1), (0, 2), (1, 15), (1, 12674), (1, 12676)], [(1, (-2147483648), 2147483647), (1, (-2147483648), 2147483647), (1, 0, 12), (1, 0, 16), (1, (-2147483648), 2147483647)], [], [some (.inl (.ref 2)), some (.inr (0, 0)), some (.inr (1, 0))]), [(0, 0, 1), (0, 0, 0)])], [([(1, 12674), (1, 12676), (2, 3), (2, 4)], [(1, 0, 16), (1, (-2147483648), 2147483647), (1, 0, 16), (1, (-2147483648), 2147483647)], [(2, 0, 0), (3, 1, 0), (0, 2, 0), (1, 3, 0)], [some (.inl (.int (-1)))]),
  ([(2, 2), (1, 143)], [(1, 1, 12), (1, 1, 1)], [], [some (.inl (.int 1))]),
  ([(2, 2), (1, 143)], [(1, 1, 12), (1, 1, 1)], [], [some (.inl (.int 0))]),
  ([(2, 2), (1, 143)], [(1, 1, 12), (1, 1, 1)], [], [some (.inl (.int (-2)))]),
  ([(2, 2), (1, 143), (1, 12676)], [(1, 1, 12), (1, 1, 1), (1, 0, 60)], [], [some (.inl (.int (-9)))])], [143, 1152, 12674, 12675, 12676, 12928, 13056, 13184, 13312, 13440, 13568, 13696, 13824, 13952, 14080, 14208, 14336, 14464, 14592, 14720, 14848, 14976, 14977, 19328, 19329, 19456, 19457])
set_option maxRecDepth 100000 in
theorem z_x465_ok : z_chk z_D s_P (z_clq z_D z_x465.2.2.2 s_P [z_x462, z_x436, z_x410, z_x384, z_x358, z_x332, z_x306, z_x280, z_x254, z_x228, z_x202, z_x176]) 3000 z_x465 = true := z_chk2_ok (by decide +kernel)
theorem z_x465_s {J : aH → Prop} (hJ : z_jl J) {X : aX} : z_spec J z_D s_P X z_x465 := z_ctx_ok (z_hlen hJ) (fun H0 C S => z_clq_ok (z_hlen hJ) (z_cons (z_x462_s hJ) (z_cons (z_x436_s hJ) (z_cons (z_x410_s hJ) (z_cons (z_x384_s hJ) (z_cons (z_x358_s hJ) (z_cons (z_x332_s hJ) (z_cons (z_x306_s hJ) (z_cons (z_x280_s hJ) (z_cons (z_x254_s hJ) (z_cons (z_x228_s hJ) (z_cons (z_x202_s hJ) (z_cons (z_x176_s hJ) (z_nil))))))))))))) _ H0 C S) z_x465_ok
/-- .which 2 -/
def z_x466 : zQ := ((114, 22, 4, 2), [(0, ([(0, 1), (1, 15), (1, 12674), (1, 12676)], [(1, (-2147483648), 2147483647), (1, 0, 12), (1, 0, 16), (1, (-2147483648), 2147483647)], [], [some (.inl (.ref 2)), some (.inr (0, 0)), none, none, none]), [(0, 0, 13), (0, 0, 0)]),
  (55, ([(0, 1), (0, 3), (0, 4), (1, 15), (1, 143), (2, 1), (2, 2), (2, 3)], [(1, 0, 0), (1, 0, 0), (1, 1, 5), (1, 1, 12), (1, 1, 1), (1, 0, 12), (1, 0, 16), (1, (-2147483648), 2147483647)], [(3, 5, 0), (5, 3, 0)], [some (.inl (.ref 2)), some (.inr (0, 0)), some (.inl (.ref 17)), some (.inr (1, 0)), some (.inr (2, 0))]), [(0, 0, 12), (1, 2, 5)]),
  (55, ([(0, 1), (0, 3), (0, 4), (1, 15), (1, 143), (2, 1), (2, 2), (2, 3)], [(1, 11, 11), (1, 0, 0), (1, 1, 5), (1, 12, 12), (1, 1, 1), (1, 0, 12), (1, 0, 16), (1, (-2147483648), 2147483647)], [(3, 5, 0), (5, 3, 0)], [some (.inl (.ref 2)), some (.inr (0, 0)), some (.inl (.ref 94)), some (.inr (1, 0)), some (.inr (2, 0))]), [(0, 0, 11), (1, 2, 5)]),
  (55, ([(0, 1), (0, 3), (0, 4), (1, 15), (1, 143), (2, 1), (2, 2), (2, 3)], [(1, 10, 10), (1, 0, 0), (1, 1, 5), (1, 11, 12), (1, 1, 1), (1, 0, 12), (1, 0, 16), (1, (-2147483648), 2147483647)], [(3, 5, 0), (5, 3, 0)], [some (.inl (.ref 2)), some (.inr (0, 0)), some (.inl (.ref 87)), some (.inr (1, 0)), some (.inr (2, 0))]), [(0, 0, 10), (1, 2, 5)]),
  (55, ([(0, 1), (0, 3), (0, 4), (1, 15), (1, 143), (2, 1), (2, 2), (2, 3)], [(1, 9, 9), (1, 0, 0), (1, 1, 5), (1, 10, 12), (1, 1, 1), (1, 0, 12), (1, 0, 16), (1, (-2147483648), 2147483647)], [(3, 5, 0), (5, 3, 0)], [some (.inl (.ref 2)), some (.inr (0, 0)), some (.inl (.ref 80)), some (.inr (1, 0)), some (.inr (2, 0))]), [(0, 0, 9), (1, 2, 5)]),
  (55, ([(0, 1), (0, 3), (0, 4), (1, 15), (1, 143), (2, 1), (2, 2), (2, 3)], [(1, 8, 8), (1, 0, 0), (1, 1, 5), (1, 9, 12), (1, 1, 1), (1, 0, 12), (1, 0, 16), (1, (-2147483648), 2147483647)], [(3, 5, 0), (5, 3, 0)], [some (.inl (.ref 2)), some (.inr (0, 0)), some (.inl (.ref 73)), some (.inr (1, 0)), some (.inr (2, 0))]), [(0, 0, 8), (1, 2, 5)]),
  (55, ([(0, 1), (0, 3), (0, 4), (1, 15), (1, 143), (2, 1), (2, 2), (2, 3)], [(1, 7, 7), (1, 0, 0), (1, 1, 5), (1, 8, 12), (1, 1, 1), (1, 0, 12), (1, 0, 16), (1, (-2147483648), 2147483647)], [(3, 5, 0), (5, 3, 0)], [some (.inl (.ref 2)), some (.inr (0, 0)), some (.inl (.ref 66)), some (.inr (1, 0)), some (.inr (2, 0))]), [(0, 0, 7), (1, 2, 5)]),
  (55, ([(0, 1), (0, 3), (0, 4), (1, 15), (1, 143), (2, 1), (2, 2), (2, 3)], [(1, 6, 6), (1, 0, 0), (1, 1, 5), (1, 7, 12), (1, 1, 1), (1, 0, 12), (1, 0, 16), (1, (-2147483648), 2147483647)], [(3, 5, 0), (5, 3, 0)], [some (.inl (.ref 2)), some (.inr (0, 0)), some (.inl (.ref 59)), some (.inr (1, 0)), some (.inr (2, 0))]), [(0, 0, 6), (1, 2, 5)]),
  (55, ([(0, 1), (0, 3), (0, 4), (1, 15), (1, 143), (2, 1), (2, 2), (2, 3)], [(1, 5, 5), (1, 0, 0), (1, 1, 5), (1, 6, 12), (1, 1, 1), (1, 0, 12), (1, 0, 16), (1, (-2147483648), 2147483647)], [(3, 5, 0), (5, 3, 0)], [some (.inl (.ref 2)), some (.inr (0, 0)), some (.inl (.ref 52)), some (.inr (1, 0)), some (.inr (2, 0))]), [(0, 0, 5), (1, 2, 5)]),
  (55, ([(0, 1), (0, 3), (0, 4), (1, 15), (1, 143), (2, 1), (2, 2), (2, 3)], [(1, 4, 4), (1, 0, 0), (1, 1, 5), (1, 5, 12), (1, 1, 1), (1, 0, 12), (1, 0, 16), (1, (-2147483648), 2147483647)], [(3, 5, 0), (5, 3, 0)], [some (.inl (.ref 2)), some (.inr (0, 0)), some (.inl (.ref 45)), some (.inr (1, 0)), some (.inr (2, 0))]), [(0, 0, 4), (1, 2, 5)]),
  (55, ([(0, 1), (0, 3), (0, 4), (1, 15), (1, 143), (2, 1), (2, 2), (2, 3)], [(1, 3, 3), (1, 0, 0), (1, 1, 5), (1, 4, 12), (1, 1, 1), (1, 0, 12), (1, 0, 16), (1, (-2147483648), 2147483647)], [(3, 5, 0), (5, 3, 0)], [some (.inl (.ref 2)), some (.inr (0, 0)), some (.inl (.ref 38)), some (.inr (1, 0)), some (.inr (2, 0))]), [(0, 0, 3), (1, 2, 5)]),
  (55, ([(0, 1), (0, 3), (0, 4), (1, 15), (1, 143), (2, 1), (2, 2), (2, 3)], [(1, 2, 2), (1, 0, 0), (1, 1, 5), (1, 3, 12), (1, 1, 1), (1, 0, 12), (1, 0, 16), (1, (-2147483648), 2147483647)], [(3, 5, 0), (5, 3, 0)], [some (.inl (.ref 2)), some (.inr (0, 0)), some (.inl (.ref 31)), some (.inr (1, 0)), some (.inr (2, 0))]), [(0, 0, 2), (1, 2, 5)]),
  (55, ([(0, 1), (0, 3), (0, 4), (1, 15), (1, 143), (2, 1), (2, 2), (2, 3)], [(1, 1, 1), (1, 0, 0), (1, 1, 5), (1, 2, 12), (1, 1, 1), (1, 0, 12), (1, 0, 16), (1, (-2147483648), 2147483647)], [(3, 5, 0), (5, 3, 0)], [some (.inl (.ref 2)), some (.inr (0, 0)), some (.inl (.ref 24)), some (.inr (1, 0)), some (.inr (2, 0))]), [(0, 0, 1), (1, 2, 5)])], [([(1, 12674), (1, 12676), (2, 2), (2, 3)], [(1, 0, 16), (1, (-2147483648), 2147483647), (1, 0, 16), (1, (-2147483648), 2147483647)], [(2, 0, 0), (3, 1, 0), (0, 2, 0), (1, 3, 0)], [some (.inl (.int (-1)))]),
  ([(2, 1), (1, 143)], [(1, 1, 12), (1, 1, 1)], [], [some (.inl (.int 0))]),
  ([(2, 1), (1, 143)], [(1, 1, 12), (1, 1, 1)], [], [some (.inl (.int 5))]),
  ([(2, 1), (1, 143), (1, 12674), (1, 12676), (2, 2), (2, 3)], [(1, 1, 12), (1, 1, 1), (1, 0, 16), (1, (-2147483648), 2147483647), (1, 0, 16), (1, (-2147483648), 2147483647)], [(4, 2, 0), (5, 3, 0), (2, 4, 0), (3, 5, 0)], [some (.inl (.int 1))]),
  ([(0, 0), (2, 1), (1, 143)], [(1, (-9), 4), (1, 1, 12), (1, 1, 1)], [], [some (.inr (0, 0))]),
  ([(2, 1), (1, 143)], [(1, 1, 12), (1, 1, 1)], [], [some (.inl (.int (-2)))])], [143, 1152, 12674, 12675, 12676, 12928, 13056, 13184, 13312, 13440, 13568, 13696, 13824, 13952, 14080, 14208, 14336, 14464, 14592, 14720, 14848, 14976, 14977, 19328, 19329, 19456, 19457])
set_option maxRecDepth 100000 in
theorem z_x466_ok : z_chk z_D s_P (z_clq z_D z_x466.2.2.2 s_P [z_x462, z_x436, z_x410, z_x384, z_x358, z_x332, z_x306, z_x280, z_x254, z_x228, z_x202, z_x176]) 3000 z_x466 = true := z_chk2_ok (by decide +kernel)
theorem z_x466_s {J : aH → Prop} (hJ : z_jl J) {X : aX} : z_spec J z_D s_P X z_x466 := z_ctx_ok (z_hlen hJ) (fun H0 C S => z_clq_ok (z_hlen hJ) (z_cons (z_x462_s hJ) (z_cons (z_x436_s hJ) (z_cons (z_x410_s hJ) (z_cons (z_x384_s hJ) (z_cons (z_x358_s hJ) (z_cons (z_x332_s hJ) (z_cons (z_x306_s hJ) (z_cons (z_x280_s hJ) (z_cons (z_x254_s hJ) (z_cons (z_x228_s hJ) (z_cons (z_x202_s hJ) (z_cons (z_x176_s hJ) (z_nil))))))))))))) _ H0 C S) z_x466_ok
/-- $Spans.find 120 -/
def z_x467 : zQ := ((116, 0, 3, 2), [(0, ([(0, 1), (0, 2), (1, 15104)], [(1, 0, 9), (1, 0, 7), (1, 0, 6)], [], [some (.inl (.ref 120)), some (.inr (0, 0)), some (.inr (1, 0)), none]), [(0, 0, 2), (0, 0, 0)]),
  (2, ([(0, 1), (0, 2), (0, 3), (1, 15104), (2, 2)], [(1, 0, 9), (1, 0, 7), (1, 0, 6), (1, 0, 6), (1, 0, 6)], [(2, 3, 0), (3, 4, 0), (4, 3, 0)], [some (.inl (.ref 120)), some (.inr (0, 0)), some (.inr (1, 0)), some (.inr (2, 0))]), [(0, 0, 1), (1, 2, 6)])], [([], [], [], [some (.inl (.int (-1)))]),
  ([(0, 0), (2, 2)], [(1, 0, 5), (1, 1, 6)], [(0, 1, (-1))], [some (.inr (0, 0))])], [])
set_option maxRecDepth 100000 in
theorem z_x467_ok : z_chk z_D s_P (z_clq z_D z_x467.2.2.2 s_P []) 3000 z_x467 = true := z_chk2_ok (by decide +kernel)
theorem z_x467_s {J : aH → Prop} (hJ : z_jl J) {X : aX} : z_spec J z_D s_P X z_x467 := z_ctx_ok (z_hlen hJ) (fun H0 C S => z_clq_ok (z_hlen hJ) (z_nil) _ H0 C S) z_x467_ok
/-- $Spans.drop 120 -/
def z_x468 : zQ := ((117, 0, 2, 2), [(0, ([(0, 1), (1, 15104)], [(1, 0, 5), (1, 1, 6)], [(0, 1, 0)], [some (.inl (.ref 120)), some (.inr (0, 0)), none]), [(0, 0, 2), (0, 0, 0)]),
  (12, ([(0, 1), (0, 2), (1, 15104)], [(1, 0, 5), (1, 0, 5), (1, 0, 5)], [(0, 1, 0), (0, 2, 1), (1, 2, 1)], [some (.inl (.ref 120)), some (.inr (0, 0)), some (.inr (1, 0))]), [(0, 0, 1), (1, 1, 5)])], [([(0, 0), (1, 15104)], [(1, 0, 5), (1, 0, 5)], [(0, 1, 0), (1, 0, 0)], [some (.inr (0, 0))])], [15104, 15232, 15360, 15488, 15616])
set_option maxRecDepth 100000 in
theorem z_x468_ok : z_chk z_D s_P (z_clq z_D z_x468.2.2.2 s_P []) 3000 z_x468 = true := z_chk2_ok (by decide +kernel)
theorem z_x468_s {J : aH → Prop} (hJ : z_jl J) {X : aX} : z_spec J z_D s_P X z_x468 := z_ctx_ok (z_hlen hJ) (fun H0 C S => z_clq_ok (z_hlen hJ) (z_nil) _ H0 C S) z_x468_ok
/-- .span 2 -/
def z_x469 : zQ := ((115, 2, 5, 2), [(0, ([(0, 1), (0, 2), (0, 3), (0, 4), (1, 128)], [(1, (-2147483648), 2147483647), (1, (-2147483648), 2147483647), (1, (-2147483648), 2147483647), (1, (-2147483648), 2147483647), (1, 0, 10)], [], [some (.inl (.ref 2)), some (.inr (0, 0)), some (.inr (1, 0)), some (.inr (2, 0)), some (.inr (3, 0)), none]), [(0, 0, 1), (0, 0, 0)])], [([], [], [], [some (.inl (.int (-1)))]),
  ([(0, 0), (2, 4), (1, 15104)], [(1, 0, 6), (1, 1, 10), (1, 0, 6)], [(0, 2, 0), (2, 0, 0)], [some (.inr (0, 0))]),
  ([(2, 4), (1, 15104)], [(1, 1, 10), (1, 1, 1)], [], [some (.inl (.int 1))])], [15104, 15232, 15360, 15488, 15616])
set_option maxRecDepth 100000 in
theorem z_x469_ok : z_chk z_D s_P (z_clq z_D z_x469.2.2.2 s_P [z_x468, z_x467]) 3000 z_x469 = true := z_chk2_ok (by decide +kernel)
theorem z_x469_s {J : aH → Prop} (hJ : z_jl J) {X : aX} : z_spec J z_D s_P X z_x469 := z_ctx_ok (z_hlen hJ) (fun H0 C S => z_clq_ok (z_hlen hJ) (z_cons (z_x468_s hJ) (z_cons (z_x467_s hJ) (z_nil))) _ H0 C S) z_x469_ok
/-- $Spans.hold 120 3 -/
def z_x470 : zQ := ((121, 1, 0, 2), [(0, ([], [], [], [some (.inl (.ref 120)), some (.inl (.ref 3)), none]), [(0, 0, 2), (0, 0, 0)]),
  (2, ([(0, 2), (1, 15104)], [(1, 0, 6), (1, 0, 6)], [(0, 1, 0)], [some (.inl (.ref 120)), some (.inl (.ref 3)), some (.inr (0, 0))]), [(0, 0, 1), (1, 0, 6)])], [([], [], [], [])], [15744])
set_option maxRecDepth 100000 in
theorem z_x470_ok : z_chk z_D s_P (z_clq z_D z_x470.2.2.2 s_P []) 3000 z_x470 = true := z_chk2_ok (by decide +kernel)
theorem z_x470_s {J : aH → Prop} (hJ : z_jl J) {X : aX} : z_spec J z_D s_P X z_x470 := z_ctx_ok (z_hlen hJ) (fun H0 C S => z_clq_ok (z_hlen hJ) (z_nil) _ H0 C S) z_x470_ok
/-- $Spans.giveBack 120 3 -/
def z_x471 : zQ := ((124, 1, 0, 2), [(0, ([], [], [], [some (.inl (.ref 120)), some (.inl (.ref 3)), none]), [(0, 0, 2), (0, 0, 0)]),
  (2, ([(0, 2), (1, 15104)], [(1, 0, 6), (1, 0, 6)], [(0, 1, 0)], [some (.inl (.ref 120)), some (.inl (.ref 3)), some (.inr (0, 0))]), [(0, 0, 1), (1, 0, 6)])], [([], [], [], [])], [143, 768])
set_option maxRecDepth 100000 in
theorem z_x471_ok : z_chk z_D s_P (z_clq z_D z_x471.2.2.2 s_P []) 3000 z_x471 = true := z_chk2_ok (by decide +kernel)
theorem z_x471_s {J : aH → Prop} (hJ : z_jl J) {X : aX} : z_spec J z_D s_P X z_x471 := z_ctx_ok (z_hlen hJ) (fun H0 C S => z_clq_ok (z_hlen hJ) (z_nil) _ H0 C S) z_x471_ok
/-- $Net.putChance 3 154 -/
def z_x472 : zQ := ((34, 4, 2, 2), [(0, ([(0, 1), (1, 128)], [(1, 0, 9), (1, 1, 10)], [(0, 1, (-1))], [some (.inl (.ref 3)), some (.inr (0, 0)), some (.inl (.ref 154)), none]), [(0, 0, 1), (0, 0, 0)])], [([(2, 1)], [(1, 1, 10)], [], [some (.inl (.int 0))]),
  ([(2, 1)], [(1, 1, 10)], [], [some (.inl (.int 1))])], [19456, 19457])
set_option maxRecDepth 100000 in
theorem z_x472_ok : z_chk z_D s_P (z_clq z_D z_x472.2.2.2 s_P [z_x24, z_x11]) 3000 z_x472 = true := z_chk2_ok (by decide +kernel)
theorem z_x472_s {J : aH → Prop} (hJ : z_jl J) {X : aX} : z_spec J z_D s_P X z_x472 := z_ctx_ok (z_hlen hJ) (fun H0 C S => z_clq_ok (z_hlen hJ) (z_cons (z_x24_s hJ) (z_cons (z_x11_s hJ) (z_nil))) _ H0 C S) z_x472_ok
/-- $Fraction.compare 154 153 -/
def z_x473 : zQ := ((53, 0, 0, 2), [(0, ([], [], [], [some (.inl (.ref 154)), some (.inl (.ref 153)), none, none, none, none, none, none, none, none, none, none, none, none, none, none]), [(0, 0, 2), (0, 0, 0)]),
  (29, ([(0, 2), (0, 4), (0, 6), (0, 8), (0, 10), (0, 11)], [(2, (-9223372036854775808), 9223372036854775807), (2, (-9223372036854775808), 9223372036854775807), (2, (-9223372036854775808), 9223372036854775807), (2, (-9223372036854775808), 9223372036854775807), (1, (-2147483648), 2147483647), (1, 0, 255)], [], [some (.inl (.ref 154)), some (.inl (.ref 153)), some (.inr (0, 0)), none, some (.inr (1, 0)), none, some (.inr (2, 0)), none, some (.inr (3, 0)), none, some (.inr (4, 0)), some (.inr (5, 0)), none, none, none, none]), [(0, 0, 1), (1, 5, 200)])], [([(0, 0)], [(1, (-2147483648), 2147483647)], [], [some (.inr (0, 0))])], [])
set_option maxRecDepth 100000 in
theorem z_x473_ok : z_chk z_D s_P (z_clq z_D z_x473.2.2.2 s_P []) 3000 z_x473 = true := z_chk2_ok (by decide +kernel)
theorem z_x473_s {J : aH → Prop} (hJ : z_jl J) {X : aX} : z_spec J z_D s_P X z_x473 := z_ctx_ok (z_hlen hJ) (fun H0 C S => z_clq_ok (z_hlen hJ) (z_nil) _ H0 C S) z_x473_ok
/-- $Spans.findReach 120 3 153 154 -/
def z_x474 : zQ := ((120, 5, 3, 4), [(0, ([(0, 2), (0, 3), (1, 128)], [(1, 0, 9), (1, 0, 1), (1, 1, 10)], [(0, 2, (-1))], [some (.inl (.ref 120)), some (.inl (.ref 3)), some (.inr (0, 0)), some (.inr (1, 0)), some (.inl (.ref 153)), some (.inl (.ref 154)), none, none, none]), [(0, 0, 2), (0, 0, 0), (0, 0, 0), (0, 0, 0)]),
  (11, ([(0, 2), (0, 3), (0, 6), (0, 7), (1, 128), (2, 2)], [(1, 0, 9), (1, 0, 1), (1, 0, 1), (1, 0, 64), (1, 1, 10), (1, 1, 10)], [(0, 4, (-1)), (2, 3, 0), (4, 5, 0), (5, 4, 0)], [some (.inl (.ref 120)), some (.inl (.ref 3)), some (.inr (0, 0)), some (.inr (1, 0)), some (.inl (.ref 153)), some (.inl (.ref 154)), some (.inr (2, 0)), some (.inr (3, 0)), none]), [(0, 0, 1), (1, 3, 64), (0, 0, 1), (0, 0, 0)]),
  (25, ([(0, 2), (0, 3), (0, 6), (0, 7), (0, 8), (1, 128), (1, 15104), (2, 2)], [(1, 0, 9), (1, 0, 1), (1, 0, 1), (1, 0, 63), (1, 0, 6), (1, 1, 10), (1, 0, 6), (1, 1, 10)], [(0, 5, (-1)), (2, 3, 0), (4, 6, 0), (5, 7, 0), (7, 5, 0)], [some (.inl (.ref 120)), some (.inl (.ref 3)), some (.inr (0, 0)), some (.inr (1, 0)), some (.inl (.ref 153)), some (.inl (.ref 154)), some (.inr (2, 0)), some (.inr (3, 0)), some (.inr (4, 0))]), [(0, 0, 1), (1, 3, 64), (0, 0, 0), (1, 4, 6)])], [([(0, 0), (2, 2)], [(1, 0, 1), (1, 1, 10)], [], [some (.inr (0, 0))])], [143, 768, 1152, 15744, 19328, 19329, 19456, 19457])
set_option maxRecDepth 100000 in
theorem z_x474_ok : z_chk z_D s_P (z_clq z_D z_x474.2.2.2 s_P [z_x473, z_x472, z_x471, z_x470, z_x13, z_x9]) 3000 z_x474 = true := z_chk2_ok (by decide +kernel)
theorem z_x474_s {J : aH → Prop} (hJ : z_jl J) {X : aX} : z_spec J z_D s_P X z_x474 := z_ctx_ok (z_hlen hJ) (fun H0 C S => z_clq_ok (z_hlen hJ) (z_cons (z_x473_s hJ) (z_cons (z_x472_s hJ) (z_cons (z_x471_s hJ) (z_cons (z_x470_s hJ) (z_cons (z_x13_s hJ) (z_cons (z_x9_s hJ) (z_nil))))))) _ H0 C S) z_x474_ok
/-- .reach 2 -/
def z_x475 : zQ := ((119, 6, 3, 2), [(0, ([(0, 1), (0, 2), (1, 128)], [(1, (-2147483648), 2147483647), (1, (-2147483648), 2147483647), (1, 0, 10)], [], [some (.inl (.ref 2)), some (.inr (0, 0)), some (.inr (1, 0))]), [(0, 0, 1), (0, 0, 0)])], [([], [], [], [some (.inl (.int (-1)))]),
  ([(2, 2)], [(1, 1, 10)], [], [some (.inl (.int (-2)))]),
  ([(2, 2), (1, 1281)], [(1, 1, 10), (1, 1, 8)], [], [some (.inl (.int 0))])], [143, 768, 1152, 1281, 1408, 15744, 19328, 19329, 19456, 19457])
set_option maxRecDepth 100000 in
theorem z_x475_ok : z_chk z_D s_P (z_clq z_D z_x475.2.2.2 s_P [z_x474, z_x17]) 3000 z_x475 = true := z_chk2_ok (by decide +kernel)
theorem z_x475_s {J : aH → Prop} (hJ : z_jl J) {X : aX} : z_spec J z_D s_P X z_x475 := z_ctx_ok (z_hlen hJ) (fun H0 C S => z_clq_ok (z_hlen hJ) (z_cons (z_x474_s hJ) (z_cons (z_x17_s hJ) (z_nil))) _ H0 C S) z_x475_ok
/-- .leans 2 -/
def z_x476 : zQ := ((125, 6, 3, 2), [(0, ([(0, 1), (1, 128), (1, 15104)], [(1, (-2147483648), 2147483647), (1, 0, 10), (1, 0, 6)], [], [some (.inl (.ref 2)), some (.inr (0, 0)), none, none]), [(0, 0, 2), (0, 0, 0)]),
  (37, ([(0, 1), (0, 2), (0, 3), (1, 128), (1, 15104), (2, 1), (2, 2)], [(1, 0, 9), (1, 0, 63), (1, 0, 6), (1, 1, 10), (1, 0, 6), (1, 0, 10), (1, 0, 6)], [(0, 3, (-1)), (2, 4, 0), (3, 5, 0), (5, 3, 0), (4, 6, 0), (6, 4, 0)], [some (.inl (.ref 2)), some (.inr (0, 0)), some (.inr (1, 0)), some (.inr (2, 0))]), [(0, 0, 1), (1, 2, 6)])], [([], [], [], [some (.inl (.int (-1)))]),
  ([(2, 1), (1, 143)], [(1, 1, 10), (1, 1, 1)], [], [some (.inl (.int (-2)))]),
  ([(2, 1), (1, 143), (2, 2)], [(1, 1, 10), (1, 1, 1), (1, 0, 0)], [], [some (.inl (.int 0))]),
  ([(0, 0), (2, 1)], [(1, 0, 63), (1, 1, 10)], [], [some (.inr (0, 0))])], [143, 768, 1152, 15744, 19328, 19329, 19456, 19457])
set_option maxRecDepth 100000 in
theorem z_x476_ok : z_chk z_D s_P (z_clq z_D z_x476.2.2.2 s_P [z_x472, z_x471, z_x470, z_x27, z_x14, z_x11, z_x9]) 3000 z_x476 = true := z_chk2_ok (by decide +kernel)
theorem z_x476_s {J : aH → Prop} (hJ : z_jl J) {X : aX} : z_spec J z_D s_P X z_x476 := z_ctx_ok (z_hlen hJ) (fun H0 C S => z_clq_ok (z_hlen hJ) (z_cons (z_x472_s hJ) (z_cons (z_x471_s hJ) (z_cons (z_x470_s hJ) (z_cons (z_x27_s hJ) (z_cons (z_x14_s hJ) (z_cons (z_x11_s hJ) (z_cons (z_x9_s hJ) (z_nil)))))))) _ H0 C S) z_x476_ok
/-- .head 2 -/
def z_x477 : zQ := ((127, 0, 2, 2), [(0, ([(0, 1), (0, 2)], [(1, (-2147483648), 2147483647), (1, (-2147483648), 2147483647)], [], [some (.inl (.ref 2)), some (.inr (0, 0)), some (.inr (1, 0))]), [(0, 0, 1), (0, 0, 0)])], [([], [], [], [some (.inl (.int (-1)))]),
  ([(0, 0), (1, 16)], [(1, 0, 5), (1, 1, 6)], [(0, 1, (-1)), (1, 0, 1)], [some (.inr (0, 0))])], [16, 18944, 19072])
set_option maxRecDepth 100000 in
theorem z_x477_ok : z_chk z_D s_P (z_clq z_D z_x477.2.2.2 s_P []) 3000 z_x477 = true := z_chk2_ok (by decide +kernel)
theorem z_x477_s {J : aH → Prop} (hJ : z_jl J) {X : aX} : z_spec J z_D s_P X z_x477 := z_ctx_ok (z_hlen hJ) (fun H0 C S => z_clq_ok (z_hlen hJ) (z_nil) _ H0 C S) z_x477_ok
/-- $Hearing.addThose 126 -/
def z_x478 : zQ := ((131, 0, 2, 2), [(0, ([(0, 1), (0, 2)], [(1, 1, 512), (1, 2, 1024)], [], [some (.inl (.ref 126)), some (.inr (0, 0)), some (.inr (1, 0)), none]), [(0, 0, 2), (0, 0, 0)]),
  (2, ([(0, 1), (0, 2), (0, 3)], [(1, 1, 512), (1, 2, 1024), (1, 0, 1024)], [(2, 1, 0)], [some (.inl (.ref 126)), some (.inr (0, 0)), some (.inr (1, 0)), some (.inr (2, 0))]), [(0, 0, 1), (1, 2, 1024)])], [([], [], [], [])], [16512])
set_option maxRecDepth 100000 in
theorem z_x478_ok : z_chk z_D s_P (z_clq z_D z_x478.2.2.2 s_P []) 3000 z_x478 = true := z_chk2_ok (by decide +kernel)
theorem z_x478_s {J : aH → Prop} (hJ : z_jl J) {X : aX} : z_spec J z_D s_P X z_x478 := z_ctx_ok (z_hlen hJ) (fun H0 C S => z_clq_ok (z_hlen hJ) (z_nil) _ H0 C S) z_x478_ok
/-- $Hearing.prepare 126 3 -/
def z_x479 : zQ := ((130, 3, 3, 2), [(0, ([(0, 2), (1, 128), (1, 140)], [(1, 0, 9), (1, 1, 10), (1, 0, 10)], [(0, 1, (-1))], [some (.inl (.ref 126)), some (.inl (.ref 3)), some (.inr (0, 0)), none, none]), [(0, 0, 5), (0, 0, 0)]),
  (29, ([(0, 2), (0, 3), (1, 128), (1, 140), (1, 15874), (1, 15878), (2, 1), (2, 2)], [(1, 0, 9), (1, 0, 10), (1, 1, 10), (1, 0, 10), (1, 0, 10), (1, 1, 512), (1, 1, 10), (1, 0, 10)], [(0, 2, (-1)), (1, 3, 0), (4, 1, 0), (4, 3, 0), (2, 6, 0), (6, 2, 0), (3, 7, 0), (7, 3, 0)], [some (.inl (.ref 126)), some (.inl (.ref 3)), some (.inr (0, 0)), some (.inr (1, 0)), none]), [(0, 0, 4), (1, 1, 10)]),
  (92, ([(0, 2), (0, 3), (0, 4), (1, 128), (1, 140), (1, 143), (1, 15874), (1, 15878), (2, 1), (2, 2)], [(1, 0, 9), (1, 2, 1024), (1, 0, 1024), (1, 1, 10), (1, 0, 10), (1, 1, 1), (1, 0, 10), (1, 1, 512), (1, 1, 10), (1, 0, 10)], [(0, 3, (-1)), (2, 1, 0), (6, 4, 0), (3, 8, 0), (8, 3, 0), (4, 9, 0), (9, 4, 0)], [some (.inl (.ref 126)), some (.inl (.ref 3)), some (.inr (0, 0)), some (.inr (1, 0)), some (.inr (2, 0))]), [(0, 0, 3), (1, 2, 1024)]),
  (115, ([(0, 2), (0, 3), (0, 4), (1, 128), (1, 140), (1, 143), (1, 15874), (1, 15878), (2, 1), (2, 2)], [(1, 0, 9), (1, 2, 1024), (1, 0, 1024), (1, 1, 10), (1, 0, 10), (1, 1, 1), (1, 0, 10), (1, 1, 512), (1, 1, 10), (1, 0, 10)], [(0, 3, (-1)), (2, 1, 0), (6, 4, 0), (3, 8, 0), (8, 3, 0), (4, 9, 0), (9, 4, 0)], [some (.inl (.ref 126)), some (.inl (.ref 3)), some (.inr (0, 0)), some (.inr (1, 0)), some (.inr (2, 0))]), [(0, 0, 2), (1, 2, 1024)]),
  (167, ([(0, 2), (0, 3), (0, 4), (1, 128), (1, 140), (1, 143), (1, 15874), (1, 15878), (2, 1), (2, 2)], [(1, 0, 9), (1, 2, 1024), (1, 0, 10), (1, 1, 10), (1, 0, 10), (1, 1, 1), (1, 0, 10), (1, 1, 512), (1, 1, 10), (1, 0, 10)], [(0, 3, (-1)), (2, 4, 0), (2, 6, 0), (6, 4, 0), (3, 8, 0), (8, 3, 0), (4, 9, 0), (9, 4, 0)], [some (.inl (.ref 126)), some (.inl (.ref 3)), some (.inr (0, 0)), some (.inr (1, 0)), some (.inr (2, 0))]), [(0, 0, 1), (1, 2, 10)])], [([(2, 1), (2, 2), (1, 143), (1, 15874), (1, 15878)], [(1, 1, 10), (1, 0, 10), (1, 1, 1), (1, 0, 10), (1, 1, 512)], [(3, 1, 0)], [])], [143, 1152, 15874, 15878, 15879, 16128, 16512])
set_option maxRecDepth 100000 in
theorem z_x479_ok : z_chk z_D s_P (z_clq z_D z_x479.2.2.2 s_P [z_x478, z_x9]) 3000 z_x479 = true := z_chk2_ok (by decide +kernel)
theorem z_x479_s {J : aH → Prop} (hJ : z_jl J) {X : aX} : z_spec J z_D s_P X z_x479 := z_ctx_ok (z_hlen hJ) (fun H0 C S => z_clq_ok (z_hlen hJ) (z_cons (z_x478_s hJ) (z_cons (z_x9_s hJ) (z_nil))) _ H0 C S) z_x479_ok
/-- $Fraction.put 127 -/
def z_x480 : zQ := ((39, 1, 2, 2), [(0, ([(0, 1), (0, 3)], [(2, (-9223372036854775808), 9223372036854775807), (2, (-9223372036854775808), 9223372036854775807)], [], [some (.inl (.ref 127)), some (.inr (0, 0)), none, some (.inr (1, 0)), none, none, none]), [(0, 0, 1), (0, 0, 0)])], [([], [], [], [])], [16000, 16001])
set_option maxRecDepth 100000 in
theorem z_x480_ok : z_chk z_D s_P (z_clq z_D z_x480.2.2.2 s_P [z_x12]) 3000 z_x480 = true := z_chk2_ok (by decide +kernel)
theorem z_x480_s {J : aH → Prop} (hJ : z_jl J) {X : aX} : z_spec J z_D s_P X z_x480 := z_ctx_ok (z_hlen hJ) (fun H0 C S => z_clq_ok (z_hlen hJ) (z_cons (z_x12_s hJ) (z_nil)) _ H0 C S) z_x480_ok
/-- $Hearing.begin 126 -/
def z_x481 : zQ := ((133, 2, 2, 2), [(0, ([(0, 1), (1, 15878)], [(1, 0, 31), (1, 1, 512)], [], [some (.inl (.ref 126)), some (.inr (0, 0))]), [(0, 0, 1), (0, 0, 0)])], [([(2, 1)], [(1, 1, 512)], [], [some (.inl (.int 0))]),
  ([(2, 1)], [(1, 1, 512)], [], [some (.inl (.int 1))])], [16000, 16001])
set_option maxRecDepth 100000 in
theorem z_x481_ok : z_chk z_D s_P (z_clq z_D z_x481.2.2.2 s_P [z_x480]) 3000 z_x481 = true := z_chk2_ok (by decide +kernel)
theorem z_x481_s {J : aH → Prop} (hJ : z_jl J) {X : aX} : z_spec J z_D s_P X z_x481 := z_ctx_ok (z_hlen hJ) (fun H0 C S => z_clq_ok (z_hlen hJ) (z_cons (z_x480_s hJ) (z_nil)) _ H0 C S) z_x481_ok
/-- $Hearing.turnAbout 126 -/
def z_x482 : zQ := ((135, 2, 0, 2), [(0, ([], [], [], [some (.inl (.ref 126))]), [(0, 0, 1), (0, 0, 0)])], [([], [], [], [some (.inl (.int 2))]),
  ([], [], [], [some (.inl (.int 1))])], [16000, 16001])
set_option maxRecDepth 100000 in
theorem z_x482_ok : z_chk z_D s_P (z_clq z_D z_x482.2.2.2 s_P [z_x480]) 3000 z_x482 = true := z_chk2_ok (by decide +kernel)
theorem z_x482_s {J : aH → Prop} (hJ : z_jl J) {X : aX} : z_spec J z_D s_P X z_x482 := z_ctx_ok (z_hlen hJ) (fun H0 C S => z_clq_ok (z_hlen hJ) (z_cons (z_x480_s hJ) (z_nil)) _ H0 C S) z_x482_ok
/-- $Fraction.times 127 -/
def z_x483 : zQ := ((69, 1, 2, 2), [(0, ([(0, 1), (0, 3)], [(2, (-9223372036854775808), 9223372036854775807), (2, (-9223372036854775808), 9223372036854775807)], [], [some (.inl (.ref 127)), some (.inr (0, 0)), none, some (.inr (1, 0)), none, none, none, none, none]), [(0, 0, 1), (0, 0, 0)])], [([], [], [], [some (.inl (.int 0))]),
  ([], [], [], [some (.inl (.int 1))])], [16000, 16001])
set_option maxRecDepth 100000 in
theorem z_x483_ok : z_chk z_D s_P (z_clq z_D z_x483.2.2.2 s_P [z_x12]) 3000 z_x483 = true := z_chk2_ok (by decide +kernel)
theorem z_x483_s {J : aH → Prop} (hJ : z_jl J) {X : aX} : z_spec J z_D s_P X z_x483 := z_ctx_ok (z_hlen hJ) (fun H0 C S => z_clq_ok (z_hlen hJ) (z_cons (z_x12_s hJ) (z_nil)) _ H0 C S) z_x483_ok
/-- $Hearing.takeIn 126 -/
def z_x484 : zQ := ((136, 2, 0, 2), [(0, ([], [], [], [some (.inl (.ref 126)), none, none, none, none]), [(0, 0, 1), (0, 0, 0)])], [([], [], [], [some (.inl (.int (-9)))]),
  ([], [], [], [some (.inl (.int 2))]),
  ([], [], [], [some (.inl (.int 3))]),
  ([], [], [], [some (.inl (.int 1))])], [16000, 16001])
set_option maxRecDepth 100000 in
theorem z_x484_ok : z_chk z_D s_P (z_clq z_D z_x484.2.2.2 s_P [z_x483, z_x480]) 3000 z_x484 = true := z_chk2_ok (by decide +kernel)
theorem z_x484_s {J : aH → Prop} (hJ : z_jl J) {X : aX} : z_spec J z_D s_P X z_x484 := z_ctx_ok (z_hlen hJ) (fun H0 C S => z_clq_ok (z_hlen hJ) (z_cons (z_x483_s hJ) (z_cons (z_x480_s hJ) (z_nil))) _ H0 C S) z_x484_ok
/-- $Fraction.put 129 -/
def z_x485 : zQ := ((39, 1, 2, 2), [(0, ([(0, 1), (0, 3)], [(2, (-2147483648), 2147483647), (2, (-2147483648), 2147483647)], [], [some (.inl (.ref 129)), some (.inr (0, 0)), none, some (.inr (1, 0)), none, none, none]), [(0, 0, 1), (0, 0, 0)])], [([], [], [], [])], [16256, 16257])
set_option maxRecDepth 100000 in
theorem z_x485_ok : z_chk z_D s_P (z_clq z_D z_x485.2.2.2 s_P [z_x12]) 3000 z_x485 = true := z_chk2_ok (by decide +kernel)
theorem z_x485_s {J : aH → Prop} (hJ : z_jl J) {X : aX} : z_spec J z_D s_P X z_x485 := z_ctx_ok (z_hlen hJ) (fun H0 C S => z_clq_ok (z_hlen hJ) (z_cons (z_x12_s hJ) (z_nil)) _ H0 C S) z_x485_ok
/-- $Fraction.put 130 -/
def z_x486 : zQ := ((39, 1, 2, 2), [(0, ([(0, 1), (0, 3)], [(2, (-2147483648), 2147483647), (2, (-2147483648), 2147483647)], [], [some (.inl (.ref 130)), some (.inr (0, 0)), none, some (.inr (1, 0)), none, none, none]), [(0, 0, 1), (0, 0, 0)])], [([], [], [], [])], [16384, 16385])
set_option maxRecDepth 100000 in
theorem z_x486_ok : z_chk z_D s_P (z_clq z_D z_x486.2.2.2 s_P [z_x12]) 3000 z_x486 = true := z_chk2_ok (by decide +kernel)
theorem z_x486_s {J : aH → Prop} (hJ : z_jl J) {X : aX} : z_spec J z_D s_P X z_x486 := z_ctx_ok (z_hlen hJ) (fun H0 C S => z_clq_ok (z_hlen hJ) (z_cons (z_x12_s hJ) (z_nil)) _ H0 C S) z_x486_ok
/-- $Hearing.listenTo 126 -/
def z_x487 : zQ := ((134, 3, 5, 2), [(0, ([(0, 1), (0, 2), (0, 3), (0, 4), (1, 15878)], [(1, 0, 31), (1, (-2147483648), 2147483647), (1, 0, 1023), (1, 1, 512), (1, 1, 512)], [], [some (.inl (.ref 126)), some (.inr (0, 0)), some (.inr (1, 0)), some (.inr (2, 0)), some (.inr (3, 0)), none]), [(0, 0, 1), (0, 0, 0)])], [([(2, 4)], [(1, 1, 512)], [], [some (.inl (.int 3))]),
  ([(2, 4)], [(1, 1, 512)], [], [some (.inl (.int 2))]),
  ([(2, 4)], [(1, 1, 512)], [], [some (.inl (.int 1))]),
  ([(2, 4)], [(1, 1, 512)], [], [some (.inl (.int (-9)))])], [16000, 16001, 16256, 16257, 16384, 16385])
set_option maxRecDepth 100000 in
theorem z_x487_ok : z_chk z_D s_P (z_clq z_D z_x487.2.2.2 s_P [z_x486, z_x485, z_x484, z_x482]) 3000 z_x487 = true := z_chk2_ok (by decide +kernel)
theorem z_x487_s {J : aH → Prop} (hJ : z_jl J) {X : aX} : z_spec J z_D s_P X z_x487 := z_ctx_ok (z_hlen hJ) (fun H0 C S => z_clq_ok (z_hlen hJ) (z_cons (z_x486_s hJ) (z_cons (z_x485_s hJ) (z_cons (z_x484_s hJ) (z_cons (z_x482_s hJ) (z_nil))))) _ H0 C S) z_x487_ok
/-- $Hearing.listen 126 -/
def z_x488 : zQ := ((132, 4, 4, 2), [(0, ([(0, 1), (0, 2), (1, 15878), (1, 15874)], [(1, 0, 31), (1, (-2147483648), 2147483647), (1, 1, 512), (1, 0, 10)], [], [some (.inl (.ref 126)), some (.inr (0, 0)), some (.inr (1, 0)), none, none, none, none, none]), [(0, 0, 2), (0, 0, 0)]),
  (39, ([(0, 1), (0, 2), (0, 3), (0, 4), (0, 5), (1, 15874), (1, 15878), (2, 3), (2, 2)], [(1, 0, 31), (1, (-2147483648), 2147483647), (1, 0, 1023), (1, (-2147483648), 10), (1, 0, 10), (1, 0, 10), (1, 1, 512), (1, 0, 10), (1, 1, 512)], [(3, 5, 0), (4, 5, 0), (5, 7, 0), (7, 5, 0), (6, 8, 0), (8, 6, 0)], [some (.inl (.ref 126)), some (.inr (0, 0)), some (.inr (1, 0)), some (.inr (2, 0)), some (.inr (3, 0)), some (.inr (4, 0)), none, none]), [(0, 0, 1), (1, 4, 10)])], [([(2, 2)], [(1, 1, 512)], [], [some (.inl (.int 1))]),
  ([(2, 2)], [(1, 1, 512)], [], [some (.inl (.int 0))]),
  ([(2, 3), (2, 2)], [(1, 0, 10), (1, 1, 512)], [], [some (.inl (.int (-9)))])], [16000, 16001, 16256, 16257, 16384, 16385])
set_option maxRecDepth 100000 in
theorem z_x488_ok : z_chk z_D s_P (z_clq z_D z_x488.2.2.2 s_P [z_x487, z_x481]) 3000 z_x488 = true := z_chk2_ok (by decide +kernel)
theorem z_x488_s {J : aH → Prop} (hJ : z_jl J) {X : aX} : z_spec J z_D s_P X z_x488 := z_ctx_ok (z_hlen hJ) (fun H0 C S => z_clq_ok (z_hlen hJ) (z_cons (z_x487_s hJ) (z_cons (z_x481_s hJ) (z_nil))) _ H0 C S) z_x488_ok
/-- $Row.tellToo 12 127 -/
def z_x489 : zQ := ((44, 1, 1, 2), [(0, ([(1, 1281)], [(1, 0, 0)], [], [some (.inl (.ref 12)), some (.inl (.ref 127))]), [(0, 0, 1), (0, 0, 0)])], [([(1, 1281)], [(1, 1, 8)], [], [])], [1281, 1408])
set_option maxRecDepth 100000 in
theorem z_x489_ok : z_chk z_D s_P (z_clq z_D z_x489.2.2.2 s_P [z_x15]) 3000 z_x489 = true := z_chk2_ok (by decide +kernel)
theorem z_x489_s {J : aH → Prop} (hJ : z_jl J) {X : aX} : z_spec J z_D s_P X z_x489 := z_ctx_ok (z_hlen hJ) (fun H0 C S => z_clq_ok (z_hlen hJ) (z_cons (z_x15_s hJ) (z_nil)) _ H0 C S) z_x489_ok
/-- $Row.tell 12 127 -/
def z_x490 : zQ := ((42, 2, 0, 2), [(0, ([], [], [], [some (.inl (.ref 12)), some (.inl (.ref 127))]), [(0, 0, 1), (0, 0, 0)])], [([(1, 1281)], [(1, 1, 8)], [], [])], [1281, 1408])
set_option maxRecDepth 100000 in
theorem z_x490_ok : z_chk z_D s_P (z_clq z_D z_x490.2.2.2 s_P [z_x489]) 3000 z_x490 = true := z_chk2_ok (by decide +kernel)
theorem z_x490_s {J : aH → Prop} (hJ : z_jl J) {X : aX} : z_spec J z_D s_P X z_x490 := z_ctx_ok (z_hlen hJ) (fun H0 C S => z_clq_ok (z_hlen hJ) (z_cons (z_x489_s hJ) (z_nil)) _ H0 C S) z_x490_ok
/-- .hear 2 -/
def z_x491 : zQ := ((128, 5, 5, 2), [(0, ([(0, 1), (0, 2), (1, 16), (1, 128), (1, 140)], [(1, (-2147483648), 2147483647), (1, (-2147483648), 2147483647), (1, 0, 6), (1, 0, 10), (1, 0, 10)], [], [some (.inl (.ref 2)), some (.inr (0, 0)), some (.inr (1, 0)), none]), [(0, 0, 1), (0, 0, 0)])], [([], [], [], [some (.inl (.int (-1)))]),
  ([(2, 2), (2, 3), (2, 4), (1, 143), (1, 15874), (1, 15878)], [(1, 1, 6), (1, 1, 10), (1, 0, 10), (1, 1, 1), (1, 0, 10), (1, 1, 512)], [(4, 2, 0)], [some (.inl (.int 1))]),
  ([(2, 2), (2, 3), (2, 4), (1, 143), (1, 1281), (1, 15874), (1, 15878)], [(1, 1, 6), (1, 1, 10), (1, 0, 10), (1, 1, 1), (1, 1, 8), (1, 0, 10), (1, 1, 512)], [(5, 2, 0)], [some (.inl (.int 0))]),
  ([(2, 2), (2, 3), (2, 4), (1, 143), (1, 15874), (1, 15878)], [(1, 1, 6), (1, 1, 10), (1, 0, 10), (1, 1, 1), (1, 0, 10), (1, 1, 512)], [(4, 2, 0)], [some (.inl (.int (-9)))])], [143, 1152, 1281, 1408, 15874, 15878, 15879, 16000, 16001, 16128, 16256, 16257, 16384, 16385, 16512])
set_option maxRecDepth 100000 in
theorem z_x491_ok : z_chk z_D s_P (z_clq z_D z_x491.2.2.2 s_P [z_x490, z_x488, z_x479]) 3000 z_x491 = true := z_chk2_ok (by decide +kernel)
theorem z_x491_s {J : aH → Prop} (hJ : z_jl J) {X : aX} : z_spec J z_D s_P X z_x491 := z_ctx_ok (z_hlen hJ) (fun H0 C S => z_clq_ok (z_hlen hJ) (z_cons (z_x490_s hJ) (z_cons (z_x488_s hJ) (z_cons (z_x479_s hJ) (z_nil)))) _ H0 C S) z_x491_ok
/-- $Fraction.compare 127 153 -/
def z_x492 : zQ := ((53, 0, 0, 2), [(0, ([], [], [], [some (.inl (.ref 127)), some (.inl (.ref 153)), none, none, none, none, none, none, none, none, none, none, none, none, none, none]), [(0, 0, 2), (0, 0, 0)]),
  (29, ([(0, 2), (0, 4), (0, 6), (0, 8), (0, 10), (0, 11)], [(2, (-9223372036854775808), 9223372036854775807), (2, (-9223372036854775808), 9223372036854775807), (2, (-9223372036854775808), 9223372036854775807), (2, (-9223372036854775808), 9223372036854775807), (1, (-2147483648), 2147483647), (1, 0, 255)], [], [some (.inl (.ref 127)), some (.inl (.ref 153)), some (.inr (0, 0)), none, some (.inr (1, 0)), none, some (.inr (2, 0)), none, some (.inr (3, 0)), none, some (.inr (4, 0)), some (.inr (5, 0)), none, none, none, none]), [(0, 0, 1), (1, 5, 200)])], [([(0, 0)], [(1, (-2147483648), 2147483647)], [], [some (.inr (0, 0))])], [])
set_option maxRecDepth 100000 in
theorem z_x492_ok : z_chk z_D s_P (z_clq z_D z_x492.2.2.2 s_P []) 3000 z_x492 = true := z_chk2_ok (by decide +kernel)
theorem z_x492_s {J : aH → Prop} (hJ : z_jl J) {X : aX} : z_spec J z_D s_P X z_x492 := z_ctx_ok (z_hlen hJ) (fun H0 C S => z_clq_ok (z_hlen hJ) (z_nil) _ H0 C S) z_x492_ok
/-- .errs 2 -/
def z_x493 : zQ := ((137, 5, 5, 2), [(0, ([(0, 1), (0, 2), (1, 16), (1, 128), (1, 140)], [(1, (-2147483648), 2147483647), (1, (-2147483648), 2147483647), (1, 0, 6), (1, 0, 10), (1, 0, 10)], [], [some (.inl (.ref 2)), some (.inr (0, 0)), some (.inr (1, 0)), none, none, none, none]), [(0, 0, 1), (0, 0, 0)])], [([], [], [], [some (.inl (.int (-1)))]),
  ([(2, 2), (2, 3), (2, 4), (1, 143), (1, 15874), (1, 15878)], [(1, 1, 6), (1, 1, 10), (1, 0, 10), (1, 1, 1), (1, 0, 10), (1, 1, 512)], [(4, 2, 0)], [some (.inl (.int (-2)))]),
  ([(2, 2), (2, 3), (2, 4), (1, 143), (1, 15874), (1, 15878)], [(1, 1, 6), (1, 1, 10), (1, 0, 10), (1, 1, 1), (1, 0, 10), (1, 1, 512)], [(4, 2, 0)], [some (.inl (.int 1))]),
  ([(2, 2), (2, 3), (2, 4), (1, 143), (1, 15874), (1, 15878)], [(1, 1, 6), (1, 1, 10), (1, 0, 10), (1, 1, 1), (1, 0, 10), (1, 1, 512)], [(4, 2, 0)], [some (.inl (.int 0))]),
  ([(2, 2), (2, 3), (2, 4), (1, 143), (1, 15874), (1, 15878)], [(1, 1, 6), (1, 1, 10), (1, 0, 10), (1, 1, 1), (1, 0, 10), (1, 1, 512)], [(4, 2, 0)], [some (.inl (.int 2))]),
  ([(2, 2), (2, 3), (2, 4), (1, 143), (1, 15874), (1, 15878)], [(1, 1, 6), (1, 1, 10), (1, 0, 10), (1, 1, 1), (1, 0, 10), (1, 1, 512)], [(4, 2, 0)], [some (.inl (.int (-9)))])], [143, 1152, 15874, 15878, 15879, 16000, 16001, 16128, 16256, 16257, 16384, 16385, 16512, 19328, 19329])
set_option maxRecDepth 100000 in
theorem z_x493_ok : z_chk z_D s_P (z_clq z_D z_x493.2.2.2 s_P [z_x492, z_x488, z_x479, z_x13]) 3000 z_x493 = true := z_chk2_ok (by decide +kernel)
theorem z_x493_s {J : aH → Prop} (hJ : z_jl J) {X : aX} : z_spec J z_D s_P X z_x493 := z_ctx_ok (z_hlen hJ) (fun H0 C S => z_clq_ok (z_hlen hJ) (z_cons (z_x492_s hJ) (z_cons (z_x488_s hJ) (z_cons (z_x479_s hJ) (z_cons (z_x13_s hJ) (z_nil))))) _ H0 C S) z_x493_ok
/-- $Hearing.sortThings 126 -/
def z_x494 : zQ := ((140, 0, 1, 2), [(0, ([(1, 15874)], [(1, 0, 5)], [], [some (.inl (.ref 126)), none, none]), [(0, 0, 2), (0, 0, 0)]),
  (4, ([(0, 1), (0, 2), (1, 15874), (2, 0)], [(1, 0, 5), (1, 0, 10), (1, 0, 5), (1, 0, 5)], [(0, 1, 0), (0, 2, 0), (2, 3, 0), (3, 2, 0)], [some (.inl (.ref 126)), some (.inr (0, 0)), some (.inr (1, 0))]), [(0, 0, 1), (1, 1, 10)])], [([(2, 0)], [(1, 0, 5)], [], [])], [16128])
set_option maxRecDepth 100000 in
theorem z_x494_ok : z_chk z_D s_P (z_clq z_D z_x494.2.2.2 s_P []) 3000 z_x494 = true := z_chk2_ok (by decide +kernel)
theorem z_x494_s {J : aH → Prop} (hJ : z_jl J) {X : aX} : z_spec J z_D s_P X z_x494 := z_ctx_ok (z_hlen hJ) (fun H0 C S => z_clq_ok (z_hlen hJ) (z_nil) _ H0 C S) z_x494_ok
/-- $Hearing.nextOrder 126 -/
def z_x495 : zQ := ((141, 1, 1, 2), [(0, ([(1, 15874)], [(1, 0, 5)], [], [some (.inl (.ref 126)), none, none, none, none]), [(0, 0, 4), (0, 0, 0)]),
  (7, ([(0, 1), (1, 15874), (2, 0)], [(1, (-2), 3), (1, 0, 5), (1, 0, 5)], [(0, 1, (-2)), (1, 2, 0), (2, 1, 0)], [some (.inl (.ref 126)), some (.inr (0, 0)), none, none, none]), [(0, 0, 3), (2, 0, (-1))]),
  (47, ([(0, 1), (0, 2), (1, 15874), (2, 0)], [(1, 0, 3), (1, 0, 4), (1, 2, 5), (1, 0, 5)], [(0, 1, 0), (0, 2, (-2)), (1, 2, (-1)), (2, 3, 0), (3, 2, 0)], [some (.inl (.ref 126)), some (.inr (0, 0)), some (.inr (1, 0)), none, none]), [(0, 0, 2), (2, 1, 0)]),
  (91, ([(0, 1), (0, 2), (0, 3), (0, 4), (1, 15874), (2, 0)], [(1, 0, 3), (1, 0, 4), (1, 1, 4), (1, 1, 4), (1, 2, 5), (1, 0, 5)], [(0, 1, 0), (0, 2, (-1)), (0, 3, (-1)), (0, 4, (-2)), (1, 4, (-1)), (2, 3, 1), (2, 4, (-1)), (3, 4, (-1)), (4, 5, 0), (5, 4, 0)], [some (.inl (.ref 126)), some (.inr (0, 0)), some (.inr (1, 0)), some (.inr (2, 0)), some (.inr (3, 0))]), [(0, 0, 1), (1, 2, 4)])], [([(2, 0)], [(1, 0, 5)], [], [some (.inl (.int 0))]),
  ([(2, 0)], [(1, 2, 5)], [], [some (.inl (.int 1))])], [16128])
set_option maxRecDepth 100000 in
theorem z_x495_ok : z_chk z_D s_P (z_clq z_D z_x495.2.2.2 s_P []) 3000 z_x495 = true := z_chk2_ok (by decide +kernel)
theorem z_x495_s {J : aH → Prop} (hJ : z_jl J) {X : aX} : z_spec J z_D s_P X z_x495 := z_ctx_ok (z_hlen hJ) (fun H0 C S => z_clq_ok (z_hlen hJ) (z_nil) _ H0 C S) z_x495_ok
/-- .order 2 -/
def z_x496 : zQ := ((139, 5, 5, 2), [(0, ([(0, 1), (0, 2), (1, 16), (1, 128), (1, 140)], [(1, (-2147483648), 2147483647), (1, (-2147483648), 2147483647), (1, 0, 6), (1, 0, 10), (1, 0, 10)], [], [some (.inl (.ref 2)), some (.inr (0, 0)), some (.inr (1, 0)), none, none, none, none, none]), [(0, 0, 3), (0, 0, 0)]),
  (61, ([(0, 1), (0, 2), (0, 3), (0, 4), (0, 5), (1, 16), (1, 128), (1, 140), (1, 143), (1, 15874), (1, 15878), (2, 2), (2, 3), (2, 4)], [(1, 0, 5), (1, 0, 9), (1, 0, 1), (1, 0, 1), (1, 0, 120), (1, 1, 6), (1, 1, 10), (1, 0, 10), (1, 1, 1), (1, 0, 5), (1, 1, 512), (1, 0, 6), (1, 0, 10), (1, 0, 10)], [(0, 5, (-1)), (1, 6, (-1)), (2, 4, 0), (2, 7, 1), (2, 9, 1), (3, 2, 0), (3, 4, 0), (3, 7, 1), (3, 9, 1), (9, 7, 0), (5, 11, 0), (11, 5, 0), (6, 12, 0), (12, 6, 0), (7, 13, 0), (13, 7, 0)], [some (.inl (.ref 2)), some (.inr (0, 0)), some (.inr (1, 0)), some (.inr (2, 0)), some (.inr (3, 0)), some (.inr (4, 0)), none, none]), [(0, 0, 2), (1, 4, 120)]),
  (239, ([(0, 1), (0, 2), (0, 3), (0, 4), (0, 5), (1, 16), (1, 128), (1, 140), (1, 143), (1, 15874), (1, 15878), (2, 2), (2, 3), (2, 4)], [(1, 0, 5), (1, 0, 9), (1, 1, 1), (1, 0, 1), (1, 0, 5), (1, 1, 6), (1, 1, 10), (1, 0, 10), (1, 1, 1), (1, 0, 5), (1, 1, 512), (1, 0, 6), (1, 0, 10), (1, 0, 10)], [(0, 5, (-1)), (1, 6, (-1)), (4, 7, 0), (4, 9, 0), (9, 7, 0), (5, 11, 0), (11, 5, 0), (6, 12, 0), (12, 6, 0), (7, 13, 0), (13, 7, 0)], [some (.inl (.ref 2)), some (.inr (0, 0)), some (.inr (1, 0)), some (.inr (2, 0)), some (.inr (3, 0)), some (.inr (4, 0)), none, none]), [(0, 0, 1), (1, 4, 5)])], [([], [], [], [some (.inl (.int (-1)))]),
  ([(2, 2), (2, 3), (2, 4), (1, 143), (1, 15874), (1, 15878)], [(1, 1, 6), (1, 1, 10), (1, 0, 10), (1, 1, 1), (1, 0, 5), (1, 1, 512)], [(4, 2, 0)], [some (.inl (.int 0))]),
  ([(2, 2), (2, 3), (2, 4), (1, 143), (1, 15874), (1, 15878)], [(1, 1, 6), (1, 1, 10), (1, 0, 10), (1, 1, 1), (1, 0, 5), (1, 1, 512)], [(4, 2, 0)], [some (.inl (.int (-2)))])], [143, 1152, 1281, 1408, 15874, 15878, 15879, 16000, 16001, 16128, 16256, 16257, 16384, 16385, 16512, 19200, 19328, 19329])
set_option maxRecDepth 100000 in
theorem z_x496_ok : z_chk z_D s_P (z_clq z_D z_x496.2.2.2 s_P [z_x495, z_x494, z_x492, z_x488, z_x479, z_x15, z_x13]) 3000 z_x496 = true := z_chk2_ok (by decide +kernel)
theorem z_x496_s {J : aH → Prop} (hJ : z_jl J) {X : aX} : z_spec J z_D s_P X z_x496 := z_ctx_ok (z_hlen hJ) (fun H0 C S => z_clq_ok (z_hlen hJ) (z_cons (z_x495_s hJ) (z_cons (z_x494_s hJ) (z_cons (z_x492_s hJ) (z_cons (z_x488_s hJ) (z_cons (z_x479_s hJ) (z_cons (z_x15_s hJ) (z_cons (z_x13_s hJ) (z_nil)))))))) _ H0 C S) z_x496_ok
/-- .list 2 -/
def z_x497 : zQ := ((143, 3, 4, 2), [(0, ([(0, 1), (0, 2), (0, 3), (0, 4)], [(1, (-2147483648), 2147483647), (1, (-2147483648), 2147483647), (1, (-2147483648), 2147483647), (1, (-2147483648), 2147483647)], [], [some (.inl (.ref 2)), some (.inr (0, 0)), some (.inr (1, 0)), some (.inr (2, 0)), some (.inr (3, 0))]), [(0, 0, 1), (0, 0, 0)])], [([], [], [], [some (.inl (.int (-1)))]),
  ([(1, 1281)], [(1, 1, 8)], [], [some (.inl (.int 0))])], [1281, 1408, 19328, 19329])
set_option maxRecDepth 100000 in
theorem z_x497_ok : z_chk z_D s_P (z_clq z_D z_x497.2.2.2 s_P [z_x17, z_x13]) 3000 z_x497 = true := z_chk2_ok (by decide +kernel)
theorem z_x497_s {J : aH → Prop} (hJ : z_jl J) {X : aX} : z_spec J z_D s_P X z_x497 := z_ctx_ok (z_hlen hJ) (fun H0 C S => z_clq_ok (z_hlen hJ) (z_cons (z_x17_s hJ) (z_cons (z_x13_s hJ) (z_nil))) _ H0 C S) z_x497_ok
/-- .many 2 -/
def z_x498 : zQ := ((145, 1, 2, 2), [(0, ([(0, 1), (0, 2)], [(1, (-2147483648), 2147483647), (1, (-2147483648), 2147483647)], [], [some (.inl (.ref 2)), some (.inr (0, 0)), some (.inr (1, 0)), none, none, none]), [(0, 0, 2), (0, 0, 0)]),
  (17, ([(0, 1), (0, 2), (0, 3), (0, 5)], [(1, 1, 1000000), (1, 1, 1000000), (2, (-9223372036854775808), 9223372036854775807), (1, 0, 100001)], [(0, 1, 0)], [some (.inl (.ref 2)), some (.inr (0, 0)), some (.inr (1, 0)), some (.inr (2, 0)), none, some (.inr (3, 0))]), [(0, 0, 1), (1, 3, 100001)])], [([], [], [], [some (.inl (.int (-1)))]),
  ([(0, 0)], [(1, 0, 100000)], [], [some (.inr (0, 0))]),
  ([], [], [], [some (.inl (.int (-2)))])], [])
set_option maxRecDepth 100000 in
theorem z_x498_ok : z_chk z_D s_P (z_clq z_D z_x498.2.2.2 s_P []) 3000 z_x498 = true := z_chk2_ok (by decide +kernel)
theorem z_x498_s {J : aH → Prop} (hJ : z_jl J) {X : aX} : z_spec J z_D s_P X z_x498 := z_ctx_ok (z_hlen hJ) (fun H0 C S => z_clq_ok (z_hlen hJ) (z_nil) _ H0 C S) z_x498_ok
/-- .testAgain 2 -/
def z_x499 : zQ := ((148, 3, 1, 2), [(0, ([(0, 1)], [(1, 1, 6)], [], [some (.inl (.ref 2)), some (.inr (0, 0)), none]), [(0, 0, 2), (0, 0, 0)]),
  (2, ([(0, 1), (0, 2)], [(1, 1, 6), (1, 0, 6)], [(1, 0, 0)], [some (.inl (.ref 2)), some (.inr (0, 0)), some (.inr (1, 0))]), [(0, 0, 1), (1, 1, 6)])], [([], [], [], [some (.inl (.int (-9)))]),
  ([(1, 1281)], [(1, 1, 8)], [], [some (.inl (.int 0))])], [1281, 1408, 19328, 19329])
set_option maxRecDepth 100000 in
theorem z_x499_ok : z_chk z_D s_P (z_clq z_D z_x499.2.2.2 s_P [z_x38, z_x17, z_x13]) 3000 z_x499 = true := z_chk2_ok (by decide +kernel)
theorem z_x499_s {J : aH → Prop} (hJ : z_jl J) {X : aX} : z_spec J z_D s_P X z_x499 := z_ctx_ok (z_hlen hJ) (fun H0 C S => z_clq_ok (z_hlen hJ) (z_cons (z_x38_s hJ) (z_cons (z_x17_s hJ) (z_cons (z_x13_s hJ) (z_nil)))) _ H0 C S) z_x499_ok
/-- .test 2 -/
def z_x500 : zQ := ((146, 4, 4, 2), [(0, ([(0, 1), (0, 2), (0, 3), (1, 128)], [(1, (-2147483648), 2147483647), (1, (-2147483648), 2147483647), (1, (-2147483648), 2147483647), (1, 0, 10)], [], [some (.inl (.ref 2)), some (.inr (0, 0)), some (.inr (1, 0)), some (.inr (2, 0)), none, none, none, none, none, none, none, none, none]), [(0, 0, 1), (0, 0, 0)])], [([], [], [], [some (.inl (.int (-1)))]),
  ([(2, 3), (1, 143)], [(1, 1, 10), (1, 1, 1)], [], [some (.inl (.int (-2)))]),
  ([(2, 3), (1, 143)], [(1, 1, 10), (1, 1, 1)], [], [some (.inl (.int (-9)))]),
  ([(2, 3), (1, 143), (1, 1281)], [(1, 1, 10), (1, 1, 1), (1, 1, 8)], [], [some (.inl (.int 0))])], [143, 1152, 1281, 1408, 19328, 19329, 19456, 19457])
set_option maxRecDepth 100000 in
theorem z_x500_ok : z_chk z_D s_P (z_clq z_D z_x500.2.2.2 s_P [z_x499, z_x24, z_x17, z_x13, z_x11, z_x9]) 3000 z_x500 = true := z_chk2_ok (by decide +kernel)
theorem z_x500_s {J : aH → Prop} (hJ : z_jl J) {X : aX} : z_spec J z_D s_P X z_x500 := z_ctx_ok (z_hlen hJ) (fun H0 C S => z_clq_ok (z_hlen hJ) (z_cons (z_x499_s hJ) (z_cons (z_x24_s hJ) (z_cons (z_x17_s hJ) (z_cons (z_x13_s hJ) (z_cons (z_x11_s hJ) (z_cons (z_x9_s hJ) (z_nil))))))) _ H0 C S) z_x500_ok
/-- .land 2 -/
def z_x501 : zQ := ((149, 1, 5, 2), [(0, ([(0, 1), (0, 2), (0, 3), (0, 4), (0, 5)], [(1, (-2147483648), 2147483647), (1, (-2147483648), 2147483647), (1, (-2147483648), 2147483647), (1, (-2147483648), 2147483647), (1, (-2147483648), 2147483647)], [], [some (.inl (.ref 2)), some (.inr (0, 0)), some (.inr (1, 0)), some (.inr (2, 0)), some (.inr (3, 0)), some (.inr (4, 0)), none, none]), [(0, 0, 2), (0, 0, 0)]),
  (68, ([(0, 1), (0, 2), (0, 3), (0, 4), (0, 5), (0, 6), (1, 16640)], [(1, 1, 1000000), (1, 0, 2), (1, 0, 6), (1, (-2147483648), 2147483647), (1, (-2147483648), 2147483647), (1, 0, 6), (1, 0, 7)], [(5, 2, 0)], [some (.inl (.ref 2)), some (.inr (0, 0)), some (.inr (1, 0)), some (.inr (2, 0)), some (.inr (3, 0)), some (.inr (4, 0)), some (.inr (5, 0)), none]), [(0, 0, 1), (1, 5, 6)])], [([], [], [], [some (.inl (.int (-1)))]),
  ([(0, 0), (1, 16640)], [(1, 0, 7), (1, 1, 8)], [(0, 1, (-1)), (1, 0, 1)], [some (.inr (0, 0))]),
  ([(1, 16640)], [(1, 0, 7)], [], [some (.inl (.int (-2)))])], [16640, 16768, 16896, 17024])
set_option maxRecDepth 100000 in
theorem z_x501_ok : z_chk z_D s_P (z_clq z_D z_x501.2.2.2 s_P []) 3000 z_x501 = true := z_chk2_ok (by decide +kernel)
theorem z_x501_s {J : aH → Prop} (hJ : z_jl J) {X : aX} : z_spec J z_D s_P X z_x501 := z_ctx_ok (z_hlen hJ) (fun H0 C S => z_clq_ok (z_hlen hJ) (z_nil) _ H0 C S) z_x501_ok
/-- .mark 2 -/
def z_x502 : zQ := ((153, 3, 3, 2), [(0, ([(0, 1), (0, 2), (1, 16640)], [(1, (-2147483648), 2147483647), (1, (-2147483648), 2147483647), (1, 0, 8)], [], [some (.inl (.ref 2)), some (.inr (0, 0)), some (.inr (1, 0))]), [(0, 0, 1), (0, 0, 0)])], [([], [], [], [some (.inl (.int (-1)))]),
  ([(2, 2)], [(1, 1, 8)], [], [some (.inl (.int (-2)))]),
  ([(1, 1281), (2, 2)], [(1, 1, 8), (1, 1, 8)], [], [some (.inl (.int 0))])], [1281, 1408, 19328, 19329])
set_option maxRecDepth 100000 in
theorem z_x502_ok : z_chk z_D s_P (z_clq z_D z_x502.2.2.2 s_P [z_x17, z_x13]) 3000 z_x502 = true := z_chk2_ok (by decide +kernel)
theorem z_x502_s {J : aH → Prop} (hJ : z_jl J) {X : aX} : z_spec J z_D s_P X z_x502 := z_ctx_ok (z_hlen hJ) (fun H0 C S => z_clq_ok (z_hlen hJ) (z_cons (z_x17_s hJ) (z_cons (z_x13_s hJ) (z_nil))) _ H0 C S) z_x502_ok
/-- .rare 2 -/
def z_x503 : zQ := ((156, 3, 3, 2), [(0, ([(0, 1), (0, 2), (1, 16640)], [(1, (-2147483648), 2147483647), (1, (-2147483648), 2147483647), (1, 0, 8)], [], [some (.inl (.ref 2)), some (.inr (0, 0)), some (.inr (1, 0)), none, none, none]), [(0, 0, 2), (0, 0, 0)]),
  (27, ([(0, 1), (0, 2), (0, 3), (0, 4), (1, 16640), (2, 2)], [(1, 0, 5), (1, 0, 1), (1, (-2), 7), (1, 0, 8), (1, 0, 8), (1, 0, 8)], [(2, 3, (-1)), (2, 4, (-1)), (3, 4, 0), (4, 5, 0), (5, 4, 0)], [some (.inl (.ref 2)), some (.inr (0, 0)), some (.inr (1, 0)), some (.inr (2, 0)), some (.inr (3, 0)), none]), [(0, 0, 1), (1, 3, 8)])], [([], [], [], [some (.inl (.int (-1)))]),
  ([(2, 2)], [(1, 0, 4)], [], [some (.inl (.int (-2)))]),
  ([(0, 0), (2, 2)], [(1, (-2), 7), (1, 0, 8)], [(0, 1, (-1))], [some (.inr (0, 0))])], [19328, 19329, 19456, 19457])
set_option maxRecDepth 100000 in
theorem z_x503_ok : z_chk z_D s_P (z_clq z_D z_x503.2.2.2 s_P [z_x27, z_x24, z_x13]) 3000 z_x503 = true := z_chk2_ok (by decide +kernel)
theorem z_x503_s {J : aH → Prop} (hJ : z_jl J) {X : aX} : z_spec J z_D s_P X z_x503 := z_ctx_ok (z_hlen hJ) (fun H0 C S => z_clq_ok (z_hlen hJ) (z_cons (z_x27_s hJ) (z_cons (z_x24_s hJ) (z_cons (z_x13_s hJ) (z_nil)))) _ H0 C S) z_x503_ok
/-- .day 2 -/
def z_x504 : zQ := ((157, 1, 9, 2), [(0, ([(0, 1), (0, 2), (0, 3), (1, 17152), (1, 17153), (1, 17154), (1, 17155), (1, 17156), (1, 17157)], [(1, 0, 1), (1, 0, 1), (1, 0, 1), (1, 0, 30), (1, 0, 30), (1, 0, 30), (1, 0, 30), (1, 0, 30), (1, 0, 30)], [(4, 3, 0), (5, 3, 0), (6, 3, 0), (7, 3, 0), (8, 3, 0)], [some (.inl (.ref 2)), some (.inr (0, 0)), some (.inr (1, 0)), some (.inr (2, 0))]), [(0, 0, 1), (0, 0, 0)])], [([(0, 0), (1, 17152), (1, 17153), (1, 17154), (1, 17155), (1, 17156), (1, 17157)], [(1, 1, 30), (1, 1, 30), (1, 0, 30), (1, 0, 30), (1, 0, 30), (1, 0, 30), (1, 0, 30)], [(0, 1, 0), (1, 0, 0), (2, 0, 0), (2, 1, 0), (3, 0, 0), (3, 1, 0), (4, 0, 0), (4, 1, 0), (5, 0, 0), (5, 1, 0), (6, 0, 0), (6, 1, 0)], [some (.inr (0, 0))]),
  ([(1, 17152), (1, 17153), (1, 17154), (1, 17155), (1, 17156), (1, 17157)], [(1, 0, 30), (1, 0, 30), (1, 0, 30), (1, 0, 30), (1, 0, 30), (1, 0, 30)], [(1, 0, 0), (2, 0, 0), (3, 0, 0), (4, 0, 0), (5, 0, 0)], [some (.inl (.int (-1)))])], [17152, 17153, 17154, 17155, 17156, 17157])
set_option maxRecDepth 100000 in
theorem z_x504_ok : z_chk z_D s_P (z_clq z_D z_x504.2.2.2 s_P []) 3000 z_x504 = true := z_chk2_ok (by decide +kernel)
theorem z_x504_s {J : aH → Prop} (hJ : z_jl J) {X : aX} : z_spec J z_D s_P X z_x504 := z_ctx_ok (z_hlen hJ) (fun H0 C S => z_clq_ok (z_hlen hJ) (z_nil) _ H0 C S) z_x504_ok
/-- $Shifts.choices  -/
def z_x505 : zQ := ((161, 0, 2, 2), [(0, ([(0, 0), (0, 1)], [(1, 0, 30), (1, 0, 120)], [], [some (.inr (0, 0)), some (.inr (1, 0)), none, none, none]), [(0, 0, 2), (0, 0, 0)]),
  (16, ([(0, 0), (0, 1), (0, 2), (0, 4)], [(1, 0, 30), (1, 0, 30), (2, (-9223372036854775808), 9223372036854775807), (1, 1, 31)], [(1, 0, 0), (3, 0, 1), (3, 1, 1)], [some (.inr (0, 0)), some (.inr (1, 0)), some (.inr (2, 0)), none, some (.inr (3, 0))]), [(0, 0, 1), (1, 3, 31)])], [([(0, 0)], [(2, (-9223372036854775808), 9223372036854775807)], [], [some (.inr (0, 0))])], [])
set_option maxRecDepth 100000 in
theorem z_x505_ok : z_chk z_D s_P (z_clq z_D z_x505.2.2.2 s_P []) 3000 z_x505 = true := z_chk2_ok (by decide +kernel)
theorem z_x505_s {J : aH → Prop} (hJ : z_jl J) {X : aX} : z_spec J z_D s_P X z_x505 := z_ctx_ok (z_hlen hJ) (fun H0 C S => z_clq_ok (z_hlen hJ) (z_nil) _ H0 C S) z_x505_ok
/-- $Shifts.lots 136 -/
def z_x506 : zQ := ((160, 1, 4, 2), [(0, ([(0, 1), (0, 2), (1, 17152), (1, 17153)], [(1, 0, 120), (1, 0, 120), (1, 1, 30), (1, 0, 30)], [(3, 2, 0)], [some (.inl (.ref 136)), some (.inr (0, 0)), some (.inr (1, 0)), none, none, none]), [(0, 0, 2), (0, 0, 0)]),
  (5, ([(0, 1), (0, 2), (0, 3), (0, 5), (1, 17152), (1, 17153), (2, 2), (2, 3)], [(1, 0, 120), (1, 0, 120), (2, (-9223372036854775808), 9223372036854775807), (1, 0, 127), (1, 1, 30), (1, 0, 30), (1, 1, 30), (1, 0, 30)], [(0, 3, 0), (5, 4, 0), (4, 6, 0), (6, 4, 0), (5, 7, 0), (7, 5, 0)], [some (.inl (.ref 136)), some (.inr (0, 0)), some (.inr (1, 0)), some (.inr (2, 0)), none, some (.inr (3, 0))]), [(0, 0, 1), (1, 3, 121)])], [([(0, 0), (2, 2), (2, 3)], [(2, (-9223372036854775808), 9223372036854775807), (1, 1, 30), (1, 0, 30)], [], [some (.inr (0, 0))])], [])
set_option maxRecDepth 100000 in
theorem z_x506_ok : z_chk z_D s_P (z_clq z_D z_x506.2.2.2 s_P [z_x505]) 3000 z_x506 = true := z_chk2_ok (by decide +kernel)
theorem z_x506_s {J : aH → Prop} (hJ : z_jl J) {X : aX} : z_spec J z_D s_P X z_x506 := z_ctx_ok (z_hlen hJ) (fun H0 C S => z_clq_ok (z_hlen hJ) (z_cons (z_x505_s hJ) (z_nil)) _ H0 C S) z_x506_ok
/-- .shifts 2 -/
def z_x507 : zQ := ((159, 3, 7, 2), [(0, ([(0, 1), (1, 17152), (1, 17153), (1, 17154), (1, 17155), (1, 17156), (1, 17157)], [(1, (-2147483648), 2147483647), (1, 0, 30), (1, 0, 30), (1, 0, 30), (1, 0, 30), (1, 0, 30), (1, 0, 30)], [(2, 1, 0), (3, 1, 0), (4, 1, 0), (5, 1, 0), (6, 1, 0)], [some (.inl (.ref 2)), some (.inr (0, 0)), none, none]), [(0, 0, 1), (0, 0, 0)])], [([(2, 1), (2, 2), (2, 3), (2, 4), (2, 5), (2, 6)], [(1, 0, 30), (1, 0, 30), (1, 0, 30), (1, 0, 30), (1, 0, 30), (1, 0, 30)], [(1, 0, 0), (2, 0, 0), (3, 0, 0), (4, 0, 0), (5, 0, 0)], [some (.inl (.int (-1)))]),
  ([(1, 1281), (2, 1), (2, 2), (2, 3), (2, 4), (2, 5), (2, 6)], [(1, 1, 8), (1, 1, 30), (1, 0, 30), (1, 0, 30), (1, 0, 30), (1, 0, 30), (1, 0, 30)], [(2, 1, 0), (3, 1, 0), (4, 1, 0), (5, 1, 0), (6, 1, 0)], [some (.inl (.int 0))])], [1281, 1408, 19328, 19329])
set_option maxRecDepth 100000 in
theorem z_x507_ok : z_chk z_D s_P (z_clq z_D z_x507.2.2.2 s_P [z_x506, z_x505, z_x17, z_x15, z_x13]) 3000 z_x507 = true := z_chk2_ok (by decide +kernel)
theorem z_x507_s {J : aH → Prop} (hJ : z_jl J) {X : aX} : z_spec J z_D s_P X z_x507 := z_ctx_ok (z_hlen hJ) (fun H0 C S => z_clq_ok (z_hlen hJ) (z_cons (z_x506_s hJ) (z_cons (z_x505_s hJ) (z_cons (z_x17_s hJ) (z_cons (z_x15_s hJ) (z_cons (z_x13_s hJ) (z_nil)))))) _ H0 C S) z_x507_ok
/-- .enough 2 -/
def z_x508 : zQ := ((162, 2, 7, 2), [(0, ([(0, 1), (1, 17152), (1, 17153), (1, 17154), (1, 17155), (1, 17156), (1, 17157)], [(1, (-2147483648), 2147483647), (1, 0, 30), (1, 0, 30), (1, 0, 30), (1, 0, 30), (1, 0, 30), (1, 0, 30)], [(2, 1, 0), (3, 1, 0), (4, 1, 0), (5, 1, 0), (6, 1, 0)], [some (.inl (.ref 2)), some (.inr (0, 0)), none, none, none, none, none]), [(0, 0, 2), (0, 0, 0)]),
  (59, ([(0, 1), (0, 2), (0, 3), (0, 4), (1, 17152), (1, 17153), (1, 17154), (1, 17155), (1, 17156), (1, 17157), (2, 1), (2, 2), (2, 3), (2, 4), (2, 5), (2, 6)], [(1, 1, 1000000), (1, (-30), 30), (1, (-30), 30), (1, 0, 61), (1, 1, 30), (1, 0, 30), (1, 0, 30), (1, 0, 30), (1, 0, 30), (1, 0, 30), (1, 0, 30), (1, 0, 30), (1, 0, 30), (1, 0, 30), (1, 0, 30), (1, 0, 30)], [(5, 4, 0), (6, 4, 0), (7, 4, 0), (8, 4, 0), (9, 4, 0), (4, 10, 0), (10, 4, 0), (5, 11, 0), (11, 5, 0), (6, 12, 0), (12, 6, 0), (7, 13, 0), (13, 7, 0), (8, 14, 0), (14, 8, 0), (9, 15, 0), (15, 9, 0)], [some (.inl (.ref 2)), some (.inr (0, 0)), some (.inr (1, 0)), some (.inr (2, 0)), some (.inr (3, 0)), none, none]), [(0, 0, 1), (1, 3, 61)])], [([(2, 1), (2, 2), (2, 3), (2, 4), (2, 5), (2, 6)], [(1, 0, 30), (1, 0, 30), (1, 0, 30), (1, 0, 30), (1, 0, 30), (1, 0, 30)], [(1, 0, 0), (2, 0, 0), (3, 0, 0), (4, 0, 0), (5, 0, 0)], [some (.inl (.int (-1)))]),
  ([(2, 1), (2, 2), (2, 3), (2, 4), (2, 5), (2, 6)], [(1, 1, 30), (1, 0, 30), (1, 0, 30), (1, 0, 30), (1, 0, 30), (1, 0, 30)], [], [some (.inl (.int (-2)))]),
  ([(2, 1), (2, 2), (2, 3), (2, 4), (2, 5), (2, 6)], [(1, 1, 30), (1, 0, 30), (1, 0, 30), (1, 0, 30), (1, 0, 30), (1, 0, 30)], [(1, 0, 0), (2, 0, 0), (3, 0, 0), (4, 0, 0), (5, 0, 0)], [some (.inl (.int 0))]),
  ([(0, 0), (2, 1), (2, 2), (2, 3), (2, 4), (2, 5), (2, 6)], [(1, 0, 60), (1, 1, 30), (1, 0, 30), (1, 0, 30), (1, 0, 30), (1, 0, 30), (1, 0, 30)], [], [some (.inr (0, 0))])], [])
set_option maxRecDepth 100000 in
theorem z_x508_ok : z_chk z_D s_P (z_clq z_D z_x508.2.2.2 s_P [z_x506, z_x505]) 3000 z_x508 = true := z_chk2_ok (by decide +kernel)
theorem z_x508_s {J : aH → Prop} (hJ : z_jl J) {X : aX} : z_spec J z_D s_P X z_x508 := z_ctx_ok (z_hlen hJ) (fun H0 C S => z_clq_ok (z_hlen hJ) (z_cons (z_x506_s hJ) (z_cons (z_x505_s hJ) (z_nil))) _ H0 C S) z_x508_ok
/-- .keep 2 -/
def z_x509 : zQ := ((163, 1, 1, 2), [(0, ([(0, 1)], [(1, (-2147483648), 2147483647)], [], [some (.inl (.ref 2)), some (.inr (0, 0))]), [(0, 0, 1), (0, 0, 0)])], [([], [], [], [some (.inl (.int 0))]),
  ([], [], [], [some (.inl (.int 1))])], [17408, 17409, 17410, 17411, 17412, 17413, 17414, 17536, 17664, 17792, 17920, 17921, 17922, 17923, 17924, 17925, 17926, 18048, 18176, 18304, 18432, 18433, 18434, 18435, 18436, 18437, 18438, 18560, 18688, 18816])
set_option maxRecDepth 100000 in
theorem z_x509_ok : z_chk z_D s_P (z_clq z_D z_x509.2.2.2 s_P []) 3000 z_x509 = true := z_chk2_ok (by decide +kernel)
theorem z_x509_s {J : aH → Prop} (hJ : z_jl J) {X : aX} : z_spec J z_D s_P X z_x509 := z_ctx_ok (z_hlen hJ) (fun H0 C S => z_clq_ok (z_hlen hJ) (z_nil) _ H0 C S) z_x509_ok
/-- .again 2 -/
def z_x510 : zQ := ((165, 2, 1, 2), [(0, ([(0, 1)], [(1, (-2147483648), 2147483647)], [], [some (.inl (.ref 2)), some (.inr (0, 0))]), [(0, 0, 1), (0, 0, 0)])], [([], [], [], [some (.inl (.int 0))]),
  ([(1, 143)], [(1, 0, 0)], [], [some (.inl (.int 1))])], [136, 137, 138, 139, 140, 143, 768, 896, 1024])
set_option maxRecDepth 100000 in
theorem z_x510_ok : z_chk z_D s_P (z_clq z_D z_x510.2.2.2 s_P []) 3000 z_x510 = true := z_chk2_ok (by decide +kernel)
theorem z_x510_s {J : aH → Prop} (hJ : z_jl J) {X : aX} : z_spec J z_D s_P X z_x510 := z_ctx_ok (z_hlen hJ) (fun H0 C S => z_clq_ok (z_hlen hJ) (z_nil) _ H0 C S) z_x510_ok
/-- .count 2 -/
def z_x511 : zQ := ((168, 0, 1, 2), [(0, ([(0, 1)], [(1, (-2147483648), 2147483647)], [], [some (.inl (.ref 2)), some (.inr (0, 0))]), [(0, 0, 1), (0, 0, 0)])], [([], [], [], [some (.inl (.int (-1)))]),
  ([(0, 0)], [(1, (-2147483648), 2147483647)], [], [some (.inr (0, 0))])], [])
set_option maxRecDepth 100000 in
theorem z_x511_ok : z_chk z_D s_P (z_clq z_D z_x511.2.2.2 s_P []) 3000 z_x511 = true := z_chk2_ok (by decide +kernel)
theorem z_x511_s {J : aH → Prop} (hJ : z_jl J) {X : aX} : z_spec J z_D s_P X z_x511 := z_ctx_ok (z_hlen hJ) (fun H0 C S => z_clq_ok (z_hlen hJ) (z_nil) _ H0 C S) z_x511_ok
