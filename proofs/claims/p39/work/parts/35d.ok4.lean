/-! ===== the tables of instructions are the program's, 4 ===== -/
set_option maxRecDepth 100000 in
theorem a_o215 : a_mb a_z215 = true ∧ a_c215.all (a_okb a_Z a_m215) = true := by decide +kernel
set_option maxRecDepth 100000 in
theorem a_o216 : a_mb a_z216 = true ∧ a_c216.all (a_okb a_Z a_m216) = true := by decide +kernel
set_option maxRecDepth 100000 in
theorem a_o217 : a_mb a_z217 = true ∧ a_c217.all (a_okb a_Z a_m217) = true := by decide +kernel
set_option maxRecDepth 100000 in
theorem a_o218 : a_mb a_z218 = true ∧ a_c218.all (a_okb a_Z a_m218) = true := by decide +kernel
set_option maxRecDepth 100000 in
theorem a_o219 : a_mb a_z219 = true ∧ a_c219.all (a_okb a_Z a_m219) = true := by decide +kernel
set_option maxRecDepth 100000 in
theorem a_o220 : a_mb a_z220 = true ∧ a_c220.all (a_okb a_Z a_m220) = true := by decide +kernel
set_option maxRecDepth 100000 in
theorem a_o221 : a_mb a_z221 = true ∧ a_c221.all (a_okb a_Z a_m221) = true := by decide +kernel
set_option maxRecDepth 100000 in
theorem a_o222 : a_mb a_z222 = true ∧ a_c222.all (a_okb a_Z a_m222) = true := by decide +kernel
set_option maxRecDepth 100000 in
theorem a_o223 : a_mb a_z223 = true ∧ a_c223.all (a_okb a_Z a_m223) = true := by decide +kernel
set_option maxRecDepth 100000 in
theorem a_o224 : a_mb a_z224 = true ∧ a_c224.all (a_okb a_Z a_m224) = true := by decide +kernel
set_option maxRecDepth 100000 in
theorem a_o225 : a_mb a_z225 = true ∧ a_c225.all (a_okb a_Z a_m225) = true := by decide +kernel
set_option maxRecDepth 100000 in
theorem a_o226 : a_mb a_z226 = true ∧ a_c226.all (a_okb a_Z a_m226) = true := by decide +kernel
set_option maxRecDepth 100000 in
theorem a_o227 : a_mb a_z227 = true ∧ a_c227.all (a_okb a_Z a_m227) = true := by decide +kernel
set_option maxRecDepth 100000 in
theorem a_o228 : a_mb a_z228 = true ∧ a_c228.all (a_okb a_Z a_m228) = true := by decide +kernel
set_option maxRecDepth 100000 in
theorem a_o229 : a_mb a_z229 = true ∧ a_c229.all (a_okb a_Z a_m229) = true := by decide +kernel
set_option maxRecDepth 100000 in
theorem a_o230 : a_mb a_z230 = true ∧ a_c230.all (a_okb a_Z a_m230) = true := by decide +kernel
set_option maxRecDepth 100000 in
theorem a_o231 : a_mb a_z231 = true ∧ a_c231.all (a_okb a_Z a_m231) = true := by decide +kernel
set_option maxRecDepth 100000 in
theorem a_o232 : a_mb a_z232 = true ∧ a_c232.all (a_okb a_Z a_m232) = true := by decide +kernel
set_option maxRecDepth 100000 in
theorem a_o233 : a_mb a_z233 = true ∧ a_c233.all (a_okb a_Z a_m233) = true := by decide +kernel
set_option maxRecDepth 100000 in
theorem a_o234 : a_mb a_z234 = true ∧ a_c234.all (a_okb a_Z a_m234) = true := by decide +kernel
set_option maxRecDepth 100000 in
theorem a_o235 : a_mb a_z235 = true ∧ a_c235.all (a_okb a_Z a_m235) = true := by decide +kernel
set_option maxRecDepth 100000 in
theorem a_o236 : a_mb a_z236 = true ∧ a_c236.all (a_okb a_Z a_m236) = true := by decide +kernel
set_option maxRecDepth 100000 in
theorem a_o237 : a_mb a_z237 = true ∧ a_c237.all (a_okb a_Z a_m237) = true := by decide +kernel
set_option maxRecDepth 100000 in
theorem a_o238 : a_mb a_z238 = true ∧ a_c238.all (a_okb a_Z a_m238) = true := by decide +kernel
set_option maxRecDepth 100000 in
theorem a_o239 : a_mb a_z239 = true ∧ a_c239.all (a_okb a_Z a_m239) = true := by decide +kernel
set_option maxRecDepth 100000 in
theorem a_o240 : a_mb a_z240 = true ∧ a_c240.all (a_okb a_Z a_m240) = true := by decide +kernel
set_option maxRecDepth 100000 in
theorem a_o241 : a_mb a_z241 = true ∧ a_c241.all (a_okb a_Z a_m241) = true := by decide +kernel
set_option maxRecDepth 100000 in
theorem a_o242 : a_mb a_z242 = true ∧ a_c242.all (a_okb a_Z a_m242) = true := by decide +kernel
set_option maxRecDepth 100000 in
theorem a_o243 : a_mb a_z243 = true ∧ a_c243.all (a_okb a_Z a_m243) = true := by decide +kernel
set_option maxRecDepth 100000 in
theorem a_o244 : a_mb a_z244 = true ∧ a_c244.all (a_okb a_Z a_m244) = true := by decide +kernel
set_option maxRecDepth 100000 in
theorem a_o245 : a_mb a_z245 = true ∧ a_c245.all (a_okb a_Z a_m245) = true := by decide +kernel
set_option maxRecDepth 100000 in
theorem a_o246 : a_mb a_z246 = true ∧ a_c246.all (a_okb a_Z a_m246) = true := by decide +kernel
set_option maxRecDepth 100000 in
theorem a_o247 : a_mb a_z247 = true ∧ a_c247.all (a_okb a_Z a_m247) = true := by decide +kernel
set_option maxRecDepth 100000 in
theorem a_o248 : a_mb a_z248 = true ∧ a_c248.all (a_okb a_Z a_m248) = true := by decide +kernel
set_option maxRecDepth 100000 in
theorem a_o249 : a_mb a_z249 = true ∧ a_c249.all (a_okb a_Z a_m249) = true := by decide +kernel
set_option maxRecDepth 100000 in
theorem a_o250 : a_mb a_z250 = true ∧ a_c250.all (a_okb a_Z a_m250) = true := by decide +kernel
set_option maxRecDepth 100000 in
theorem a_o251 : a_mb a_z251 = true ∧ a_c251.all (a_okb a_Z a_m251) = true := by decide +kernel
set_option maxRecDepth 100000 in
theorem a_o252 : a_mb a_z252 = true ∧ a_c252.all (a_okb a_Z a_m252) = true := by decide +kernel
set_option maxRecDepth 100000 in
theorem a_o253 : a_mb a_z253 = true ∧ a_c253.all (a_okb a_Z a_m253) = true := by decide +kernel
set_option maxRecDepth 100000 in
theorem a_o254 : a_mb a_z254 = true ∧ a_c254.all (a_okb a_Z a_m254) = true := by decide +kernel
set_option maxRecDepth 100000 in
theorem a_o255 : a_mb a_z255 = true ∧ a_c255.all (a_okb a_Z a_m255) = true := by decide +kernel
set_option maxRecDepth 100000 in
theorem a_o256 : a_mb a_z256 = true ∧ a_c256.all (a_okb a_Z a_m256) = true := by decide +kernel
set_option maxRecDepth 100000 in
theorem a_o257 : a_mb a_z257 = true ∧ a_c257.all (a_okb a_Z a_m257) = true := by decide +kernel
set_option maxRecDepth 100000 in
theorem a_o258 : a_mb a_z258 = true ∧ a_c258.all (a_okb a_Z a_m258) = true := by decide +kernel
set_option maxRecDepth 100000 in
theorem a_o259 : a_mb a_z259 = true ∧ a_c259.all (a_okb a_Z a_m259) = true := by decide +kernel
set_option maxRecDepth 100000 in
theorem a_o260 : a_mb a_z260 = true ∧ a_c260.all (a_okb a_Z a_m260) = true := by decide +kernel
set_option maxRecDepth 100000 in
theorem a_o261 : a_mb a_z261 = true ∧ a_c261.all (a_okb a_Z a_m261) = true := by decide +kernel
set_option maxRecDepth 100000 in
theorem a_o262 : a_mb a_z262 = true ∧ a_c262.all (a_okb a_Z a_m262) = true := by decide +kernel
