/-! ===== runs of single calls (laid by wip/tools/ops.py) ===== -/
set_option maxRecDepth 100000 in
theorem s_op33 : s_runX s_P s_sm s_ct 3000 (s_c0 (s_opf 33)) = true := by decide +kernel
set_option maxRecDepth 100000 in
theorem s_op35 : s_runX s_P s_sm s_ct 3000 (s_c0 (s_opf 35)) = true := by decide +kernel
set_option maxRecDepth 100000 in
theorem s_op36 : s_runX s_P s_sm s_ct 3000 (s_c0 (s_opf 36)) = true := by decide +kernel
set_option maxRecDepth 100000 in
theorem s_op37 : s_runX s_P s_sm s_ct 3000 (s_c0 (s_opf 37)) = true := by decide +kernel
set_option maxRecDepth 100000 in
theorem s_op38 : s_runX s_P s_sm s_ct 3000 (s_c0 (s_opf 38)) = true := by decide +kernel
set_option maxRecDepth 100000 in
theorem s_op39 : s_runX s_P s_sm s_ct 3000 (s_c0 (s_opf 39)) = true := by decide +kernel
set_option maxRecDepth 100000 in
theorem s_op41 : s_runX s_P s_sm s_ct 3000 (s_c0 (s_opf 41)) = true := by decide +kernel
set_option maxRecDepth 100000 in
theorem s_op42 : s_runX s_P s_sm s_ct 3000 (s_c0 (s_opf 42)) = true := by decide +kernel
set_option maxRecDepth 100000 in
theorem s_op43 : s_runX s_P s_sm s_ct 3000 (s_c0 (s_opf 43)) = true := by decide +kernel
set_option maxRecDepth 100000 in
theorem s_op44 : s_runX s_P s_sm s_ct 3000 (s_c0 (s_opf 44)) = true := by decide +kernel
/-- no call at all -/
def s_opd : sFa := ([([.inr (.inl 0), .inl (.int 63), .inr (.inr (.inl .iand))], 45, 63)], [])
set_option maxRecDepth 100000 in
theorem s_op_d : s_runX s_P s_sm s_ct 3000 (s_c0 (s_opd)) = true := by decide +kernel
