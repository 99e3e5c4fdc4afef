/-! ===== runs of single calls (laid by wip/tools/ops.py) ===== -/
set_option maxRecDepth 100000 in
theorem s_op0 : s_runX s_P s_sm s_ct 3000 (s_c0 (s_opf 0)) = true := by decide +kernel
set_option maxRecDepth 100000 in
theorem s_op1 : s_runX s_P s_sm s_ct 3000 (s_c0 (s_opf 1)) = true := by decide +kernel
set_option maxRecDepth 100000 in
theorem s_op2 : s_runX s_P s_sm s_ct 3000 (s_c0 (s_opf 2)) = true := by decide +kernel
set_option maxRecDepth 100000 in
theorem s_op3 : s_runX s_P s_sm s_ct 3000 (s_c0 (s_opf 3)) = true := by decide +kernel
set_option maxRecDepth 100000 in
theorem s_op4 : s_runX s_P s_sm s_ct 3000 (s_c0 (s_opf 4)) = true := by decide +kernel
set_option maxRecDepth 100000 in
theorem s_op5 : s_runX s_P s_sm s_ct 3000 (s_c0 (s_opf 5)) = true := by decide +kernel
set_option maxRecDepth 100000 in
theorem s_op6 : s_runX s_P s_sm s_ct 3000 (s_c0 (s_opf 6)) = true := by decide +kernel
set_option maxRecDepth 100000 in
theorem s_op7 : s_runX s_P s_sm s_ct 3000 (s_c0 (s_opf 7)) = true := by decide +kernel
set_option maxRecDepth 100000 in
theorem s_op8 : s_runX s_P s_sm s_ct 3000 (s_c0 (s_opf 8)) = true := by decide +kernel
set_option maxRecDepth 100000 in
theorem s_op9 : s_runX s_P s_sm s_ct 3000 (s_c0 (s_opf 9)) = true := by decide +kernel
set_option maxRecDepth 100000 in
theorem s_op10 : s_runX s_P s_sm s_ct 3000 (s_c0 (s_opf 10)) = true := by decide +kernel
set_option maxRecDepth 100000 in
theorem s_op11 : s_runX s_P s_sm s_ct 3000 (s_c0 (s_opf 11)) = true := by decide +kernel
set_option maxRecDepth 100000 in
theorem s_op12 : s_runX s_P s_sm s_ct 3000 (s_c0 (s_opf 12)) = true := by decide +kernel
set_option maxRecDepth 100000 in
theorem s_op13 : s_runX s_P s_sm s_ct 3000 (s_c0 (s_opf 13)) = true := by decide +kernel
set_option maxRecDepth 100000 in
theorem s_op14 : s_runX s_P s_sm s_ct 3000 (s_c0 (s_opf 14)) = true := by decide +kernel
set_option maxRecDepth 100000 in
theorem s_op15 : s_runX s_P s_sm s_ct 3000 (s_c0 (s_opf 15)) = true := by decide +kernel
set_option maxRecDepth 100000 in
theorem s_op16 : s_runX s_P s_sm s_ct 3000 (s_c0 (s_opf 16)) = true := by decide +kernel
