/-! ===== the tables of instructions are the program's, 2 ===== -/
set_option maxRecDepth 100000 in
theorem a_o80 : a_mb a_z80 = true ∧ a_c80.all (a_okb a_Z a_m80) = true := by decide +kernel
set_option maxRecDepth 100000 in
theorem a_o81 : a_mb a_z81 = true ∧ a_c81.all (a_okb a_Z a_m81) = true := by decide +kernel
set_option maxRecDepth 100000 in
theorem a_o82 : a_mb a_z82 = true ∧ a_c82.all (a_okb a_Z a_m82) = true := by decide +kernel
set_option maxRecDepth 100000 in
theorem a_o83 : a_mb a_z83 = true ∧ a_c83.all (a_okb a_Z a_m83) = true := by decide +kernel
set_option maxRecDepth 100000 in
theorem a_o84 : a_mb a_z84 = true ∧ a_c84.all (a_okb a_Z a_m84) = true := by decide +kernel
set_option maxRecDepth 100000 in
theorem a_o85 : a_mb a_z85 = true ∧ a_c85.all (a_okb a_Z a_m85) = true := by decide +kernel
set_option maxRecDepth 100000 in
theorem a_o86 : a_mb a_z86 = true ∧ a_c86.all (a_okb a_Z a_m86) = true := by decide +kernel
set_option maxRecDepth 100000 in
theorem a_o87 : a_mb a_z87 = true ∧ a_c87.all (a_okb a_Z a_m87) = true := by decide +kernel
set_option maxRecDepth 100000 in
theorem a_o88 : a_mb a_z88 = true ∧ a_c88.all (a_okb a_Z a_m88) = true := by decide +kernel
set_option maxRecDepth 100000 in
theorem a_o89 : a_mb a_z89 = true ∧ a_c89.all (a_okb a_Z a_m89) = true := by decide +kernel
set_option maxRecDepth 100000 in
theorem a_o90 : a_mb a_z90 = true ∧ a_c90.all (a_okb a_Z a_m90) = true := by decide +kernel
set_option maxRecDepth 100000 in
theorem a_o91 : a_mb a_z91 = true ∧ a_c91.all (a_okb a_Z a_m91) = true := by decide +kernel
set_option maxRecDepth 100000 in
theorem a_o92 : a_mb a_z92 = true ∧ a_c92.all (a_okb a_Z a_m92) = true := by decide +kernel
set_option maxRecDepth 100000 in
theorem a_o93 : a_mb a_z93 = true ∧ a_c93.all (a_okb a_Z a_m93) = true := by decide +kernel
set_option maxRecDepth 100000 in
theorem a_o94 : a_mb a_z94 = true ∧ a_c94.all (a_okb a_Z a_m94) = true := by decide +kernel
set_option maxRecDepth 100000 in
theorem a_o95 : a_mb a_z95 = true ∧ a_c95.all (a_okb a_Z a_m95) = true := by decide +kernel
set_option maxRecDepth 100000 in
theorem a_o96 : a_mb a_z96 = true ∧ a_c96.all (a_okb a_Z a_m96) = true := by decide +kernel
set_option maxRecDepth 100000 in
theorem a_o97 : a_mb a_z97 = true ∧ a_c97.all (a_okb a_Z a_m97) = true := by decide +kernel
set_option maxRecDepth 100000 in
theorem a_o98 : a_mb a_z98 = true ∧ a_c98.all (a_okb a_Z a_m98) = true := by decide +kernel
set_option maxRecDepth 100000 in
theorem a_o99 : a_mb a_z99 = true ∧ a_c99.all (a_okb a_Z a_m99) = true := by decide +kernel
set_option maxRecDepth 100000 in
theorem a_o100 : a_mb a_z100 = true ∧ a_c100.all (a_okb a_Z a_m100) = true := by decide +kernel
set_option maxRecDepth 100000 in
theorem a_o101 : a_mb a_z101 = true ∧ a_c101.all (a_okb a_Z a_m101) = true := by decide +kernel
set_option maxRecDepth 100000 in
theorem a_o102 : a_mb a_z102 = true ∧ a_c102.all (a_okb a_Z a_m102) = true := by decide +kernel
set_option maxRecDepth 100000 in
theorem a_o103 : a_mb a_z103 = true ∧ a_c103.all (a_okb a_Z a_m103) = true := by decide +kernel
set_option maxRecDepth 100000 in
theorem a_o104 : a_mb a_z104 = true ∧ a_c104.all (a_okb a_Z a_m104) = true := by decide +kernel
set_option maxRecDepth 100000 in
theorem a_o105 : a_mb a_z105 = true ∧ a_c105.all (a_okb a_Z a_m105) = true := by decide +kernel
set_option maxRecDepth 100000 in
theorem a_o106 : a_mb a_z106 = true ∧ a_c106.all (a_okb a_Z a_m106) = true := by decide +kernel
set_option maxRecDepth 100000 in
theorem a_o107 : a_mb a_z107 = true ∧ a_c107.all (a_okb a_Z a_m107) = true := by decide +kernel
set_option maxRecDepth 100000 in
theorem a_o108 : a_mb a_z108 = true ∧ a_c108.all (a_okb a_Z a_m108) = true := by decide +kernel
set_option maxRecDepth 100000 in
theorem a_o109 : a_mb a_z109 = true ∧ a_c109.all (a_okb a_Z a_m109) = true := by decide +kernel
set_option maxRecDepth 100000 in
theorem a_o110 : a_mb a_z110 = true ∧ a_c110.all (a_okb a_Z a_m110) = true := by decide +kernel
set_option maxRecDepth 100000 in
theorem a_o111 : a_mb a_z111 = true ∧ a_c111.all (a_okb a_Z a_m111) = true := by decide +kernel
set_option maxRecDepth 100000 in
theorem a_o112 : a_mb a_z112 = true ∧ a_c112.all (a_okb a_Z a_m112) = true := by decide +kernel
set_option maxRecDepth 100000 in
theorem a_o113 : a_mb a_z113 = true ∧ a_c113.all (a_okb a_Z a_m113) = true := by decide +kernel
set_option maxRecDepth 100000 in
theorem a_o114 : a_mb a_z114 = true ∧ a_c114.all (a_okb a_Z a_m114) = true := by decide +kernel
set_option maxRecDepth 100000 in
theorem a_o115 : a_mb a_z115 = true ∧ a_c115.all (a_okb a_Z a_m115) = true := by decide +kernel
set_option maxRecDepth 100000 in
theorem a_o116 : a_mb a_z116 = true ∧ a_c116.all (a_okb a_Z a_m116) = true := by decide +kernel
set_option maxRecDepth 100000 in
theorem a_o117 : a_mb a_z117 = true ∧ a_c117.all (a_okb a_Z a_m117) = true := by decide +kernel
set_option maxRecDepth 100000 in
theorem a_o118 : a_mb a_z118 = true ∧ a_c118.all (a_okb a_Z a_m118) = true := by decide +kernel
set_option maxRecDepth 100000 in
theorem a_o119 : a_mb a_z119 = true ∧ a_c119.all (a_okb a_Z a_m119) = true := by decide +kernel
set_option maxRecDepth 100000 in
theorem a_o120 : a_mb a_z120 = true ∧ a_c120.all (a_okb a_Z a_m120) = true := by decide +kernel
set_option maxRecDepth 100000 in
theorem a_o121 : a_mb a_z121 = true ∧ a_c121.all (a_okb a_Z a_m121) = true := by decide +kernel
set_option maxRecDepth 100000 in
theorem a_o122 : a_mb a_z122 = true ∧ a_c122.all (a_okb a_Z a_m122) = true := by decide +kernel
set_option maxRecDepth 100000 in
theorem a_o123 : a_mb a_z123 = true ∧ a_c123.all (a_okb a_Z a_m123) = true := by decide +kernel
set_option maxRecDepth 100000 in
theorem a_o124 : a_mb a_z124 = true ∧ a_c124.all (a_okb a_Z a_m124) = true := by decide +kernel
set_option maxRecDepth 100000 in
theorem a_o125 : a_mb a_z125 = true ∧ a_c125.all (a_okb a_Z a_m125) = true := by decide +kernel
set_option maxRecDepth 100000 in
theorem a_o126 : a_mb a_z126 = true ∧ a_c126.all (a_okb a_Z a_m126) = true := by decide +kernel
set_option maxRecDepth 100000 in
theorem a_o127 : a_mb a_z127 = true ∧ a_c127.all (a_okb a_Z a_m127) = true := by decide +kernel
set_option maxRecDepth 100000 in
theorem a_o128 : a_mb a_z128 = true ∧ a_c128.all (a_okb a_Z a_m128) = true := by decide +kernel
set_option maxRecDepth 100000 in
theorem a_o129 : a_mb a_z129 = true ∧ a_c129.all (a_okb a_Z a_m129) = true := by decide +kernel
set_option maxRecDepth 100000 in
theorem a_o130 : a_mb a_z130 = true ∧ a_c130.all (a_okb a_Z a_m130) = true := by decide +kernel
set_option maxRecDepth 100000 in
theorem a_o131 : a_mb a_z131 = true ∧ a_c131.all (a_okb a_Z a_m131) = true := by decide +kernel
set_option maxRecDepth 100000 in
theorem a_o132 : a_mb a_z132 = true ∧ a_c132.all (a_okb a_Z a_m132) = true := by decide +kernel
set_option maxRecDepth 100000 in
theorem a_o133 : a_mb a_z133 = true ∧ a_c133.all (a_okb a_Z a_m133) = true := by decide +kernel
set_option maxRecDepth 100000 in
theorem a_o134 : a_mb a_z134 = true ∧ a_c134.all (a_okb a_Z a_m134) = true := by decide +kernel
set_option maxRecDepth 100000 in
theorem a_o135 : a_mb a_z135 = true ∧ a_c135.all (a_okb a_Z a_m135) = true := by decide +kernel
set_option maxRecDepth 100000 in
theorem a_o136 : a_mb a_z136 = true ∧ a_c136.all (a_okb a_Z a_m136) = true := by decide +kernel
set_option maxRecDepth 100000 in
theorem a_o137 : a_mb a_z137 = true ∧ a_c137.all (a_okb a_Z a_m137) = true := by decide +kernel
set_option maxRecDepth 100000 in
theorem a_o138 : a_mb a_z138 = true ∧ a_c138.all (a_okb a_Z a_m138) = true := by decide +kernel
set_option maxRecDepth 100000 in
theorem a_o139 : a_mb a_z139 = true ∧ a_c139.all (a_okb a_Z a_m139) = true := by decide +kernel
set_option maxRecDepth 100000 in
theorem a_o140 : a_mb a_z140 = true ∧ a_c140.all (a_okb a_Z a_m140) = true := by decide +kernel
set_option maxRecDepth 100000 in
theorem a_o141 : a_mb a_z141 = true ∧ a_c141.all (a_okb a_Z a_m141) = true := by decide +kernel
set_option maxRecDepth 100000 in
theorem a_o142 : a_mb a_z142 = true ∧ a_c142.all (a_okb a_Z a_m142) = true := by decide +kernel
set_option maxRecDepth 100000 in
theorem a_o143 : a_mb a_z143 = true ∧ a_c143.all (a_okb a_Z a_m143) = true := by decide +kernel
set_option maxRecDepth 100000 in
theorem a_o144 : a_mb a_z144 = true ∧ a_c144.all (a_okb a_Z a_m144) = true := by decide +kernel
set_option maxRecDepth 100000 in
theorem a_o145 : a_mb a_z145 = true ∧ a_c145.all (a_okb a_Z a_m145) = true := by decide +kernel
