/-! ===== the tables of instructions are the program's, 2 ===== -/
set_option maxRecDepth 100000 in
theorem a_o100 : a_mb a_z100 = true ∧ a_c100.all (a_okb a_Z a_m100) = true := a_wk0 (by decide +kernel)
set_option maxRecDepth 100000 in
theorem a_o101 : a_mb a_z101 = true ∧ a_c101.all (a_okb a_Z a_m101) = true := a_wk0 (by decide +kernel)
set_option maxRecDepth 100000 in
theorem a_o102 : a_mb a_z102 = true ∧ a_c102.all (a_okb a_Z a_m102) = true := a_wk0 (by decide +kernel)
set_option maxRecDepth 100000 in
theorem a_o103 : a_mb a_z103 = true ∧ a_c103.all (a_okb a_Z a_m103) = true := a_wk0 (by decide +kernel)
set_option maxRecDepth 100000 in
theorem a_o104 : a_mb a_z104 = true ∧ a_c104.all (a_okb a_Z a_m104) = true := a_wk0 (by decide +kernel)
set_option maxRecDepth 100000 in
theorem a_o105 : a_mb a_z105 = true ∧ a_c105.all (a_okb a_Z a_m105) = true := a_wk0 (by decide +kernel)
set_option maxRecDepth 100000 in
theorem a_o106 : a_mb a_z106 = true ∧ a_c106.all (a_okb a_Z a_m106) = true := a_wk0 (by decide +kernel)
set_option maxRecDepth 100000 in
theorem a_o107 : a_mb a_z107 = true ∧ a_c107.all (a_okb a_Z a_m107) = true := a_wk0 (by decide +kernel)
set_option maxRecDepth 100000 in
theorem a_o108 : a_mb a_z108 = true ∧ a_c108.all (a_okb a_Z a_m108) = true := a_wk0 (by decide +kernel)
set_option maxRecDepth 100000 in
theorem a_o109 : a_mb a_z109 = true ∧ a_c109.all (a_okb a_Z a_m109) = true := a_wk0 (by decide +kernel)
set_option maxRecDepth 100000 in
theorem a_o110 : a_mb a_z110 = true ∧ a_c110.all (a_okb a_Z a_m110) = true := a_wk0 (by decide +kernel)
set_option maxRecDepth 100000 in
theorem a_o111 : a_mb a_z111 = true ∧ a_c111.all (a_okb a_Z a_m111) = true := a_wk0 (by decide +kernel)
set_option maxRecDepth 100000 in
theorem a_o112 : a_mb a_z112 = true ∧ a_c112.all (a_okb a_Z a_m112) = true := a_wk0 (by decide +kernel)
set_option maxRecDepth 100000 in
theorem a_o113 : a_mb a_z113 = true ∧ a_c113.all (a_okb a_Z a_m113) = true := a_wk0 (by decide +kernel)
set_option maxRecDepth 100000 in
theorem a_o114 : a_mb a_z114 = true ∧ a_c114.all (a_okb a_Z a_m114) = true := a_wk0 (by decide +kernel)
set_option maxRecDepth 100000 in
theorem a_o115 : a_mb a_z115 = true ∧ a_c115.all (a_okb a_Z a_m115) = true := a_wk0 (by decide +kernel)
set_option maxRecDepth 100000 in
theorem a_o116 : a_mb a_z116 = true ∧ a_c116.all (a_okb a_Z a_m116) = true := a_wk0 (by decide +kernel)
set_option maxRecDepth 100000 in
theorem a_o117 : a_mb a_z117 = true ∧ a_c117.all (a_okb a_Z a_m117) = true := a_wk0 (by decide +kernel)
set_option maxRecDepth 100000 in
theorem a_o118 : a_mb a_z118 = true ∧ a_c118.all (a_okb a_Z a_m118) = true := a_wk0 (by decide +kernel)
set_option maxRecDepth 100000 in
theorem a_o119 : a_mb a_z119 = true ∧ a_c119.all (a_okb a_Z a_m119) = true := a_wk0 (by decide +kernel)
set_option maxRecDepth 100000 in
theorem a_o120 : a_mb a_z120 = true ∧ a_c120.all (a_okb a_Z a_m120) = true := a_wk0 (by decide +kernel)
set_option maxRecDepth 100000 in
theorem a_o121 : a_mb a_z121 = true ∧ a_c121.all (a_okb a_Z a_m121) = true := a_wk0 (by decide +kernel)
set_option maxRecDepth 100000 in
theorem a_o122 : a_mb a_z122 = true ∧ a_c122.all (a_okb a_Z a_m122) = true := a_wk0 (by decide +kernel)
set_option maxRecDepth 100000 in
theorem a_o123 : a_mb a_z123 = true ∧ a_c123.all (a_okb a_Z a_m123) = true := a_wk0 (by decide +kernel)
set_option maxRecDepth 100000 in
theorem a_o124 : a_mb a_z124 = true ∧ a_c124.all (a_okb a_Z a_m124) = true := a_wk0 (by decide +kernel)
set_option maxRecDepth 100000 in
theorem a_o125 : a_mb a_z125 = true ∧ a_c125.all (a_okb a_Z a_m125) = true := a_wk0 (by decide +kernel)
set_option maxRecDepth 100000 in
theorem a_o126 : a_mb a_z126 = true ∧ a_c126.all (a_okb a_Z a_m126) = true := a_wk0 (by decide +kernel)
set_option maxRecDepth 100000 in
theorem a_o127 : a_mb a_z127 = true ∧ a_c127.all (a_okb a_Z a_m127) = true := a_wk0 (by decide +kernel)
set_option maxRecDepth 100000 in
theorem a_o128 : a_mb a_z128 = true ∧ a_c128.all (a_okb a_Z a_m128) = true := a_wk0 (by decide +kernel)
set_option maxRecDepth 100000 in
theorem a_o129 : a_mb a_z129 = true ∧ a_c129.all (a_okb a_Z a_m129) = true := a_wk0 (by decide +kernel)
set_option maxRecDepth 100000 in
theorem a_o130 : a_mb a_z130 = true ∧ a_c130.all (a_okb a_Z a_m130) = true := a_wk0 (by decide +kernel)
set_option maxRecDepth 100000 in
theorem a_o131 : a_mb a_z131 = true ∧ a_c131.all (a_okb a_Z a_m131) = true := a_wk0 (by decide +kernel)
set_option maxRecDepth 100000 in
theorem a_o132 : a_mb a_z132 = true ∧ a_c132.all (a_okb a_Z a_m132) = true := a_wk0 (by decide +kernel)
set_option maxRecDepth 100000 in
theorem a_o133 : a_mb a_z133 = true ∧ a_c133.all (a_okb a_Z a_m133) = true := a_wk0 (by decide +kernel)
set_option maxRecDepth 100000 in
theorem a_o134 : a_mb a_z134 = true ∧ a_c134.all (a_okb a_Z a_m134) = true := a_wk0 (by decide +kernel)
set_option maxRecDepth 100000 in
theorem a_o135 : a_mb a_z135 = true ∧ a_c135.all (a_okb a_Z a_m135) = true := a_wk0 (by decide +kernel)
set_option maxRecDepth 100000 in
theorem a_o136 : a_mb a_z136 = true ∧ a_c136.all (a_okb a_Z a_m136) = true := a_wk0 (by decide +kernel)
set_option maxRecDepth 100000 in
theorem a_o137 : a_mb a_z137 = true ∧ a_c137.all (a_okb a_Z a_m137) = true := a_wk0 (by decide +kernel)
set_option maxRecDepth 100000 in
theorem a_o138 : a_mb a_z138 = true ∧ a_c138.all (a_okb a_Z a_m138) = true := a_wk0 (by decide +kernel)
set_option maxRecDepth 100000 in
theorem a_o139 : a_mb a_z139 = true ∧ a_c139.all (a_okb a_Z a_m139) = true := a_wk0 (by decide +kernel)
set_option maxRecDepth 100000 in
theorem a_o140 : a_mb a_z140 = true ∧ a_c140.all (a_okb a_Z a_m140) = true := a_wk0 (by decide +kernel)
set_option maxRecDepth 100000 in
theorem a_o141 : a_mb a_z141 = true ∧ a_c141.all (a_okb a_Z a_m141) = true := a_wk0 (by decide +kernel)
set_option maxRecDepth 100000 in
theorem a_o142 : a_mb a_z142 = true ∧ a_c142.all (a_okb a_Z a_m142) = true := a_wk0 (by decide +kernel)
set_option maxRecDepth 100000 in
theorem a_o143 : a_mb a_z143 = true ∧ a_c143.all (a_okb a_Z a_m143) = true := a_wk0 (by decide +kernel)
set_option maxRecDepth 100000 in
theorem a_o144 : a_mb a_z144 = true ∧ a_c144.all (a_okb a_Z a_m144) = true := a_wk0 (by decide +kernel)
set_option maxRecDepth 100000 in
theorem a_o145 : a_mb a_z145 = true ∧ a_c145.all (a_okb a_Z a_m145) = true := a_wk0 (by decide +kernel)
set_option maxRecDepth 100000 in
theorem a_o146 : a_mb a_z146 = true ∧ a_c146.all (a_okb a_Z a_m146) = true := a_wk0 (by decide +kernel)
set_option maxRecDepth 100000 in
theorem a_o147 : a_mb a_z147 = true ∧ a_c147.all (a_okb a_Z a_m147) = true := a_wk0 (by decide +kernel)
set_option maxRecDepth 100000 in
theorem a_o148 : a_mb a_z148 = true ∧ a_c148.all (a_okb a_Z a_m148) = true := a_wk0 (by decide +kernel)
set_option maxRecDepth 100000 in
theorem a_o149 : a_mb a_z149 = true ∧ a_c149.all (a_okb a_Z a_m149) = true := a_wk0 (by decide +kernel)
set_option maxRecDepth 100000 in
theorem a_o150 : a_mb a_z150 = true ∧ a_c150.all (a_okb a_Z a_m150) = true := a_wk0 (by decide +kernel)
set_option maxRecDepth 100000 in
theorem a_o151 : a_mb a_z151 = true ∧ a_c151.all (a_okb a_Z a_m151) = true := a_wk0 (by decide +kernel)
set_option maxRecDepth 100000 in
theorem a_o152 : a_mb a_z152 = true ∧ a_c152.all (a_okb a_Z a_m152) = true := a_wk0 (by decide +kernel)
set_option maxRecDepth 100000 in
theorem a_o153 : a_mb a_z153 = true ∧ a_c153.all (a_okb a_Z a_m153) = true := a_wk0 (by decide +kernel)
set_option maxRecDepth 100000 in
theorem a_o154 : a_mb a_z154 = true ∧ a_c154.all (a_okb a_Z a_m154) = true := a_wk0 (by decide +kernel)
set_option maxRecDepth 100000 in
theorem a_o155 : a_mb a_z155 = true ∧ a_c155.all (a_okb a_Z a_m155) = true := a_wk0 (by decide +kernel)
set_option maxRecDepth 100000 in
theorem a_o156 : a_mb a_z156 = true ∧ a_c156.all (a_okb a_Z a_m156) = true := a_wk0 (by decide +kernel)
set_option maxRecDepth 100000 in
theorem a_o157 : a_mb a_z157 = true ∧ a_c157.all (a_okb a_Z a_m157) = true := a_wk0 (by decide +kernel)
set_option maxRecDepth 100000 in
theorem a_o158 : a_mb a_z158 = true ∧ a_c158.all (a_okb a_Z a_m158) = true := a_wk0 (by decide +kernel)
set_option maxRecDepth 100000 in
theorem a_o159 : a_mb a_z159 = true ∧ a_c159.all (a_okb a_Z a_m159) = true := a_wk0 (by decide +kernel)
set_option maxRecDepth 100000 in
theorem a_o160 : a_mb a_z160 = true ∧ a_c160.all (a_okb a_Z a_m160) = true := a_wk0 (by decide +kernel)
set_option maxRecDepth 100000 in
theorem a_o161 : a_mb a_z161 = true ∧ a_c161.all (a_okb a_Z a_m161) = true := a_wk0 (by decide +kernel)
set_option maxRecDepth 100000 in
theorem a_o162 : a_mb a_z162 = true ∧ a_c162.all (a_okb a_Z a_m162) = true := a_wk0 (by decide +kernel)
set_option maxRecDepth 100000 in
theorem a_o163 : a_mb a_z163 = true ∧ a_c163.all (a_okb a_Z a_m163) = true := a_wk0 (by decide +kernel)
set_option maxRecDepth 100000 in
theorem a_o164 : a_mb a_z164 = true ∧ a_c164.all (a_okb a_Z a_m164) = true := a_wk0 (by decide +kernel)
set_option maxRecDepth 100000 in
theorem a_o165 : a_mb a_z165 = true ∧ a_c165.all (a_okb a_Z a_m165) = true := a_wk0 (by decide +kernel)
set_option maxRecDepth 100000 in
theorem a_o166 : a_mb a_z166 = true ∧ a_c166.all (a_okb a_Z a_m166) = true := a_wk0 (by decide +kernel)
set_option maxRecDepth 100000 in
theorem a_o167 : a_mb a_z167 = true ∧ a_c167.all (a_okb a_Z a_m167) = true := a_wk0 (by decide +kernel)
set_option maxRecDepth 100000 in
theorem a_o168 : a_mb a_z168 = true ∧ a_c168.all (a_okb a_Z a_m168) = true := a_wk0 (by decide +kernel)
set_option maxRecDepth 100000 in
theorem a_o169 : a_mb a_z169 = true ∧ a_c169.all (a_okb a_Z a_m169) = true := a_wk0 (by decide +kernel)
set_option maxRecDepth 100000 in
theorem a_o170 : a_mb a_z170 = true ∧ a_c170.all (a_okb a_Z a_m170) = true := a_wk0 (by decide +kernel)
set_option maxRecDepth 100000 in
theorem a_o171 : a_mb a_z171 = true ∧ a_c171.all (a_okb a_Z a_m171) = true := a_wk0 (by decide +kernel)
set_option maxRecDepth 100000 in
theorem a_o172 : a_mb a_z172 = true ∧ a_c172.all (a_okb a_Z a_m172) = true := a_wk0 (by decide +kernel)
set_option maxRecDepth 100000 in
theorem a_o173 : a_mb a_z173 = true ∧ a_c173.all (a_okb a_Z a_m173) = true := a_wk0 (by decide +kernel)
set_option maxRecDepth 100000 in
theorem a_o174 : a_mb a_z174 = true ∧ a_c174.all (a_okb a_Z a_m174) = true := a_wk0 (by decide +kernel)
set_option maxRecDepth 100000 in
theorem a_o175 : a_mb a_z175 = true ∧ a_c175.all (a_okb a_Z a_m175) = true := a_wk0 (by decide +kernel)
set_option maxRecDepth 100000 in
theorem a_o176 : a_mb a_z176 = true ∧ a_c176.all (a_okb a_Z a_m176) = true := a_wk0 (by decide +kernel)
set_option maxRecDepth 100000 in
theorem a_o177 : a_mb a_z177 = true ∧ a_c177.all (a_okb a_Z a_m177) = true := a_wk0 (by decide +kernel)
set_option maxRecDepth 100000 in
theorem a_o178 : a_mb a_z178 = true ∧ a_c178.all (a_okb a_Z a_m178) = true := a_wk0 (by decide +kernel)
set_option maxRecDepth 100000 in
theorem a_o179 : a_mb a_z179 = true ∧ a_c179.all (a_okb a_Z a_m179) = true := a_wk0 (by decide +kernel)
set_option maxRecDepth 100000 in
theorem a_o180 : a_mb a_z180 = true ∧ a_c180.all (a_okb a_Z a_m180) = true := a_wk0 (by decide +kernel)
set_option maxRecDepth 100000 in
theorem a_o181 : a_mb a_z181 = true ∧ a_c181.all (a_okb a_Z a_m181) = true := a_wk0 (by decide +kernel)
set_option maxRecDepth 100000 in
theorem a_o182 : a_mb a_z182 = true ∧ a_c182.all (a_okb a_Z a_m182) = true := a_wk0 (by decide +kernel)
set_option maxRecDepth 100000 in
theorem a_o183 : a_mb a_z183 = true ∧ a_c183.all (a_okb a_Z a_m183) = true := a_wk0 (by decide +kernel)
set_option maxRecDepth 100000 in
theorem a_o184 : a_mb a_z184 = true ∧ a_c184.all (a_okb a_Z a_m184) = true := a_wk0 (by decide +kernel)
set_option maxRecDepth 100000 in
theorem a_o185 : a_mb a_z185 = true ∧ a_c185.all (a_okb a_Z a_m185) = true := a_wk0 (by decide +kernel)
set_option maxRecDepth 100000 in
theorem a_o186 : a_mb a_z186 = true ∧ a_c186.all (a_okb a_Z a_m186) = true := a_wk0 (by decide +kernel)
set_option maxRecDepth 100000 in
theorem a_o187 : a_mb a_z187 = true ∧ a_c187.all (a_okb a_Z a_m187) = true := a_wk0 (by decide +kernel)
set_option maxRecDepth 100000 in
theorem a_o188 : a_mb a_z188 = true ∧ a_c188.all (a_okb a_Z a_m188) = true := a_wk0 (by decide +kernel)
set_option maxRecDepth 100000 in
theorem a_o189 : a_mb a_z189 = true ∧ a_c189.all (a_okb a_Z a_m189) = true := a_wk0 (by decide +kernel)
set_option maxRecDepth 100000 in
theorem a_o190 : a_mb a_z190 = true ∧ a_c190.all (a_okb a_Z a_m190) = true := a_wk0 (by decide +kernel)
set_option maxRecDepth 100000 in
theorem a_o191 : a_mb a_z191 = true ∧ a_c191.all (a_okb a_Z a_m191) = true := a_wk0 (by decide +kernel)
set_option maxRecDepth 100000 in
theorem a_o192 : a_mb a_z192 = true ∧ a_c192.all (a_okb a_Z a_m192) = true := a_wk0 (by decide +kernel)
set_option maxRecDepth 100000 in
theorem a_o193 : a_mb a_z193 = true ∧ a_c193.all (a_okb a_Z a_m193) = true := a_wk0 (by decide +kernel)
set_option maxRecDepth 100000 in
theorem a_o194 : a_mb a_z194 = true ∧ a_c194.all (a_okb a_Z a_m194) = true := a_wk0 (by decide +kernel)
set_option maxRecDepth 100000 in
theorem a_o195 : a_mb a_z195 = true ∧ a_c195.all (a_okb a_Z a_m195) = true := a_wk0 (by decide +kernel)
set_option maxRecDepth 100000 in
theorem a_o196 : a_mb a_z196 = true ∧ a_c196.all (a_okb a_Z a_m196) = true := a_wk0 (by decide +kernel)
set_option maxRecDepth 100000 in
theorem a_o197 : a_mb a_z197 = true ∧ a_c197.all (a_okb a_Z a_m197) = true := a_wk0 (by decide +kernel)
set_option maxRecDepth 100000 in
theorem a_o198 : a_mb a_z198 = true ∧ a_c198.all (a_okb a_Z a_m198) = true := a_wk0 (by decide +kernel)
set_option maxRecDepth 100000 in
theorem a_o199 : a_mb a_z199 = true ∧ a_c199.all (a_okb a_Z a_m199) = true := a_wk0 (by decide +kernel)
