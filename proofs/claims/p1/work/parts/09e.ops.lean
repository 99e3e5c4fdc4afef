/-! ===== runs of single calls (laid by wip/tools/ops.py) ===== -/
set_option maxRecDepth 100000 in
theorem s_op34_a : s_runX s_P s_sm s_ct 3000 (s_c0 (s_opl 34 [(2, (-2147483648), (-1))])) = true := by decide +kernel
set_option maxRecDepth 100000 in
theorem s_op34_b : s_runX s_P s_sm s_ct 3000 (s_c0 (s_opl 34 [(2, 3, 2147483647)])) = true := by decide +kernel
