/-! ===== runs of single calls (laid by wip/tools/ops.py) ===== -/
set_option maxRecDepth 100000 in
theorem s_op17 : s_runX s_P s_sm s_ct 3000 (s_c0 (s_opf 17)) = true := by decide +kernel
set_option maxRecDepth 100000 in
theorem s_op18 : s_runX s_P s_sm s_ct 3000 (s_c0 (s_opf 18)) = true := by decide +kernel
set_option maxRecDepth 100000 in
theorem s_op19 : s_runX s_P s_sm s_ct 3000 (s_c0 (s_opf 19)) = true := by decide +kernel
set_option maxRecDepth 100000 in
theorem s_op20 : s_runX s_P s_sm s_ct 3000 (s_c0 (s_opf 20)) = true := by decide +kernel
set_option maxRecDepth 100000 in
theorem s_op21 : s_runX s_P s_sm s_ct 3000 (s_c0 (s_opf 21)) = true := by decide +kernel
set_option maxRecDepth 100000 in
theorem s_op22 : s_runX s_P s_sm s_ct 3000 (s_c0 (s_opf 22)) = true := by decide +kernel
set_option maxRecDepth 100000 in
theorem s_op23 : s_runX s_P s_sm s_ct 3000 (s_c0 (s_opf 23)) = true := by decide +kernel
set_option maxRecDepth 100000 in
theorem s_op24 : s_runX s_P s_sm s_ct 3000 (s_c0 (s_opf 24)) = true := by decide +kernel
set_option maxRecDepth 100000 in
theorem s_op25 : s_runX s_P s_sm s_ct 3000 (s_c0 (s_opf 25)) = true := by decide +kernel
set_option maxRecDepth 100000 in
theorem s_op26 : s_runX s_P s_sm s_ct 3000 (s_c0 (s_opf 26)) = true := by decide +kernel
set_option maxRecDepth 100000 in
theorem s_op27 : s_runX s_P s_sm s_ct 3000 (s_c0 (s_opf 27)) = true := by decide +kernel
set_option maxRecDepth 100000 in
theorem s_op28 : s_runX s_P s_sm s_ct 3000 (s_c0 (s_opf 28)) = true := by decide +kernel
set_option maxRecDepth 100000 in
theorem s_op29 : s_runX s_P s_sm s_ct 3000 (s_c0 (s_opf 29)) = true := by decide +kernel
set_option maxRecDepth 100000 in
theorem s_op30 : s_runX s_P s_sm s_ct 3000 (s_c0 (s_opf 30)) = true := by decide +kernel
set_option maxRecDepth 100000 in
theorem s_op31 : s_runX s_P s_sm s_ct 3000 (s_c0 (s_opf 31)) = true := by decide +kernel
set_option maxRecDepth 100000 in
theorem s_op32 : s_runX s_P s_sm s_ct 3000 (s_c0 (s_opf 32)) = true := by decide +kernel
