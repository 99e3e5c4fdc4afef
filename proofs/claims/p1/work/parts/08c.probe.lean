set_option maxRecDepth 100000 in
theorem pr1 : s_run s_P (fun _ _ _ => none) 3000 (s_c0 (s_opf 50)) = true := by decide +kernel
set_option maxRecDepth 100000 in
theorem pr2 : s_run s_P (fun _ _ _ => none) 3000 (s_c0 (s_opf 1)) = true := by decide +kernel
