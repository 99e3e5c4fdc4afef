/-! ===== runs of single calls (laid by wip/tools/ops.py) ===== -/
set_option maxRecDepth 100000 in
theorem s_op34_2 : s_runX s_P s_sm s_ct 3000 (s_c0 (s_opl 34 [(2, 2, 2)])) = true := by decide +kernel
