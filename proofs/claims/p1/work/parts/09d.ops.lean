/-! ===== runs of single calls (laid by wip/tools/ops.py) ===== -/
set_option maxRecDepth 100000 in
theorem s_op40_0 : s_runX s_P s_sm s_ct 3000 (s_c0 (s_opl 40 [(1, (-2147483648), (-1))])) = true := by decide +kernel
set_option maxRecDepth 100000 in
theorem s_op40_1 : s_runX s_P s_sm s_ct 3000 (s_c0 (s_opl 40 [(1, 0, 0)])) = true := by decide +kernel
set_option maxRecDepth 100000 in
theorem s_op40_2 : s_runX s_P s_sm s_ct 3000 (s_c0 (s_opl 40 [(1, 1, 1)])) = true := by decide +kernel
set_option maxRecDepth 100000 in
theorem s_op40_3 : s_runX s_P s_sm s_ct 3000 (s_c0 (s_opl 40 [(1, 2, 2)])) = true := by decide +kernel
set_option maxRecDepth 100000 in
theorem s_op40_4 : s_runX s_P s_sm s_ct 3000 (s_c0 (s_opl 40 [(1, 3, 2147483647)])) = true := by decide +kernel
