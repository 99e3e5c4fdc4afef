/-! ===== the tables of instructions are the program's, 3 ===== -/
set_option maxRecDepth 100000 in
theorem a_o146 : a_mb a_z146 = true ∧ a_c146.all (a_okb a_Z a_m146) = true := by decide +kernel
set_option maxRecDepth 100000 in
theorem a_o147 : a_mb a_z147 = true ∧ a_c147.all (a_okb a_Z a_m147) = true := by decide +kernel
set_option maxRecDepth 100000 in
theorem a_o148 : a_mb a_z148 = true ∧ a_c148.all (a_okb a_Z a_m148) = true := by decide +kernel
set_option maxRecDepth 100000 in
theorem a_o149 : a_mb a_z149 = true ∧ a_c149.all (a_okb a_Z a_m149) = true := by decide +kernel
set_option maxRecDepth 100000 in
theorem a_o150 : a_mb a_z150 = true ∧ a_c150.all (a_okb a_Z a_m150) = true := by decide +kernel
set_option maxRecDepth 100000 in
theorem a_o151 : a_mb a_z151 = true ∧ a_c151.all (a_okb a_Z a_m151) = true := by decide +kernel
set_option maxRecDepth 100000 in
theorem a_o152 : a_mb a_z152 = true ∧ a_c152.all (a_okb a_Z a_m152) = true := by decide +kernel
set_option maxRecDepth 100000 in
theorem a_o153 : a_mb a_z153 = true ∧ a_c153.all (a_okb a_Z a_m153) = true := by decide +kernel
set_option maxRecDepth 100000 in
theorem a_o154 : a_mb a_z154 = true ∧ a_c154.all (a_okb a_Z a_m154) = true := by decide +kernel
set_option maxRecDepth 100000 in
theorem a_o155 : a_mb a_z155 = true ∧ a_c155.all (a_okb a_Z a_m155) = true := by decide +kernel
set_option maxRecDepth 100000 in
theorem a_o156 : a_mb a_z156 = true ∧ a_c156.all (a_okb a_Z a_m156) = true := by decide +kernel
set_option maxRecDepth 100000 in
theorem a_o157 : a_mb a_z157 = true ∧ a_c157.all (a_okb a_Z a_m157) = true := by decide +kernel
set_option maxRecDepth 100000 in
theorem a_o158 : a_mb a_z158 = true ∧ a_c158.all (a_okb a_Z a_m158) = true := by decide +kernel
set_option maxRecDepth 100000 in
theorem a_o159 : a_mb a_z159 = true ∧ a_c159.all (a_okb a_Z a_m159) = true := by decide +kernel
set_option maxRecDepth 100000 in
theorem a_o160 : a_mb a_z160 = true ∧ a_c160.all (a_okb a_Z a_m160) = true := by decide +kernel
set_option maxRecDepth 100000 in
theorem a_o161 : a_mb a_z161 = true ∧ a_c161.all (a_okb a_Z a_m161) = true := by decide +kernel
set_option maxRecDepth 100000 in
theorem a_o162 : a_mb a_z162 = true ∧ a_c162.all (a_okb a_Z a_m162) = true := by decide +kernel
set_option maxRecDepth 100000 in
theorem a_o163 : a_mb a_z163 = true ∧ a_c163.all (a_okb a_Z a_m163) = true := by decide +kernel
set_option maxRecDepth 100000 in
theorem a_o164 : a_mb a_z164 = true ∧ a_c164.all (a_okb a_Z a_m164) = true := by decide +kernel
set_option maxRecDepth 100000 in
theorem a_o165 : a_mb a_z165 = true ∧ a_c165.all (a_okb a_Z a_m165) = true := by decide +kernel
set_option maxRecDepth 100000 in
theorem a_o166 : a_mb a_z166 = true ∧ a_c166.all (a_okb a_Z a_m166) = true := by decide +kernel
set_option maxRecDepth 100000 in
theorem a_o167 : a_mb a_z167 = true ∧ a_c167.all (a_okb a_Z a_m167) = true := by decide +kernel
set_option maxRecDepth 100000 in
theorem a_o168 : a_mb a_z168 = true ∧ a_c168.all (a_okb a_Z a_m168) = true := by decide +kernel
set_option maxRecDepth 100000 in
theorem a_o169 : a_mb a_z169 = true ∧ a_c169.all (a_okb a_Z a_m169) = true := by decide +kernel
set_option maxRecDepth 100000 in
theorem a_o170 : a_mb a_z170 = true ∧ a_c170.all (a_okb a_Z a_m170) = true := by decide +kernel
set_option maxRecDepth 100000 in
theorem a_o171 : a_mb a_z171 = true ∧ a_c171.all (a_okb a_Z a_m171) = true := by decide +kernel
set_option maxRecDepth 100000 in
theorem a_o172 : a_mb a_z172 = true ∧ a_c172.all (a_okb a_Z a_m172) = true := by decide +kernel
set_option maxRecDepth 100000 in
theorem a_o173 : a_mb a_z173 = true ∧ a_c173.all (a_okb a_Z a_m173) = true := by decide +kernel
set_option maxRecDepth 100000 in
theorem a_o174 : a_mb a_z174 = true ∧ a_c174.all (a_okb a_Z a_m174) = true := by decide +kernel
set_option maxRecDepth 100000 in
theorem a_o175 : a_mb a_z175 = true ∧ a_c175.all (a_okb a_Z a_m175) = true := by decide +kernel
set_option maxRecDepth 100000 in
theorem a_o176 : a_mb a_z176 = true ∧ a_c176.all (a_okb a_Z a_m176) = true := by decide +kernel
set_option maxRecDepth 100000 in
theorem a_o177 : a_mb a_z177 = true ∧ a_c177.all (a_okb a_Z a_m177) = true := by decide +kernel
set_option maxRecDepth 100000 in
theorem a_o178 : a_mb a_z178 = true ∧ a_c178.all (a_okb a_Z a_m178) = true := by decide +kernel
set_option maxRecDepth 100000 in
theorem a_o179 : a_mb a_z179 = true ∧ a_c179.all (a_okb a_Z a_m179) = true := by decide +kernel
set_option maxRecDepth 100000 in
theorem a_o180 : a_mb a_z180 = true ∧ a_c180.all (a_okb a_Z a_m180) = true := by decide +kernel
set_option maxRecDepth 100000 in
theorem a_o181 : a_mb a_z181 = true ∧ a_c181.all (a_okb a_Z a_m181) = true := by decide +kernel
set_option maxRecDepth 100000 in
theorem a_o182 : a_mb a_z182 = true ∧ a_c182.all (a_okb a_Z a_m182) = true := by decide +kernel
set_option maxRecDepth 100000 in
theorem a_o183 : a_mb a_z183 = true ∧ a_c183.all (a_okb a_Z a_m183) = true := by decide +kernel
set_option maxRecDepth 100000 in
theorem a_o184 : a_mb a_z184 = true ∧ a_c184.all (a_okb a_Z a_m184) = true := by decide +kernel
set_option maxRecDepth 100000 in
theorem a_o185 : a_mb a_z185 = true ∧ a_c185.all (a_okb a_Z a_m185) = true := by decide +kernel
set_option maxRecDepth 100000 in
theorem a_o186 : a_mb a_z186 = true ∧ a_c186.all (a_okb a_Z a_m186) = true := by decide +kernel
set_option maxRecDepth 100000 in
theorem a_o187 : a_mb a_z187 = true ∧ a_c187.all (a_okb a_Z a_m187) = true := by decide +kernel
set_option maxRecDepth 100000 in
theorem a_o188 : a_mb a_z188 = true ∧ a_c188.all (a_okb a_Z a_m188) = true := by decide +kernel
set_option maxRecDepth 100000 in
theorem a_o189 : a_mb a_z189 = true ∧ a_c189.all (a_okb a_Z a_m189) = true := by decide +kernel
set_option maxRecDepth 100000 in
theorem a_o190 : a_mb a_z190 = true ∧ a_c190.all (a_okb a_Z a_m190) = true := by decide +kernel
set_option maxRecDepth 100000 in
theorem a_o191 : a_mb a_z191 = true ∧ a_c191.all (a_okb a_Z a_m191) = true := by decide +kernel
set_option maxRecDepth 100000 in
theorem a_o192 : a_mb a_z192 = true ∧ a_c192.all (a_okb a_Z a_m192) = true := by decide +kernel
set_option maxRecDepth 100000 in
theorem a_o193 : a_mb a_z193 = true ∧ a_c193.all (a_okb a_Z a_m193) = true := by decide +kernel
set_option maxRecDepth 100000 in
theorem a_o194 : a_mb a_z194 = true ∧ a_c194.all (a_okb a_Z a_m194) = true := by decide +kernel
set_option maxRecDepth 100000 in
theorem a_o195 : a_mb a_z195 = true ∧ a_c195.all (a_okb a_Z a_m195) = true := by decide +kernel
set_option maxRecDepth 100000 in
theorem a_o196 : a_mb a_z196 = true ∧ a_c196.all (a_okb a_Z a_m196) = true := by decide +kernel
set_option maxRecDepth 100000 in
theorem a_o197 : a_mb a_z197 = true ∧ a_c197.all (a_okb a_Z a_m197) = true := by decide +kernel
set_option maxRecDepth 100000 in
theorem a_o198 : a_mb a_z198 = true ∧ a_c198.all (a_okb a_Z a_m198) = true := by decide +kernel
set_option maxRecDepth 100000 in
theorem a_o199 : a_mb a_z199 = true ∧ a_c199.all (a_okb a_Z a_m199) = true := by decide +kernel
set_option maxRecDepth 100000 in
theorem a_o200 : a_mb a_z200 = true ∧ a_c200.all (a_okb a_Z a_m200) = true := by decide +kernel
set_option maxRecDepth 100000 in
theorem a_o201 : a_mb a_z201 = true ∧ a_c201.all (a_okb a_Z a_m201) = true := by decide +kernel
set_option maxRecDepth 100000 in
theorem a_o202 : a_mb a_z202 = true ∧ a_c202.all (a_okb a_Z a_m202) = true := by decide +kernel
set_option maxRecDepth 100000 in
theorem a_o203 : a_mb a_z203 = true ∧ a_c203.all (a_okb a_Z a_m203) = true := by decide +kernel
set_option maxRecDepth 100000 in
theorem a_o204 : a_mb a_z204 = true ∧ a_c204.all (a_okb a_Z a_m204) = true := by decide +kernel
set_option maxRecDepth 100000 in
theorem a_o205 : a_mb a_z205 = true ∧ a_c205.all (a_okb a_Z a_m205) = true := by decide +kernel
set_option maxRecDepth 100000 in
theorem a_o206 : a_mb a_z206 = true ∧ a_c206.all (a_okb a_Z a_m206) = true := by decide +kernel
set_option maxRecDepth 100000 in
theorem a_o207 : a_mb a_z207 = true ∧ a_c207.all (a_okb a_Z a_m207) = true := by decide +kernel
set_option maxRecDepth 100000 in
theorem a_o208 : a_mb a_z208 = true ∧ a_c208.all (a_okb a_Z a_m208) = true := by decide +kernel
set_option maxRecDepth 100000 in
theorem a_o209 : a_mb a_z209 = true ∧ a_c209.all (a_okb a_Z a_m209) = true := by decide +kernel
set_option maxRecDepth 100000 in
theorem a_o210 : a_mb a_z210 = true ∧ a_c210.all (a_okb a_Z a_m210) = true := by decide +kernel
set_option maxRecDepth 100000 in
theorem a_o211 : a_mb a_z211 = true ∧ a_c211.all (a_okb a_Z a_m211) = true := by decide +kernel
set_option maxRecDepth 100000 in
theorem a_o212 : a_mb a_z212 = true ∧ a_c212.all (a_okb a_Z a_m212) = true := by decide +kernel
set_option maxRecDepth 100000 in
theorem a_o213 : a_mb a_z213 = true ∧ a_c213.all (a_okb a_Z a_m213) = true := by decide +kernel
set_option maxRecDepth 100000 in
theorem a_o214 : a_mb a_z214 = true ∧ a_c214.all (a_okb a_Z a_m214) = true := by decide +kernel
