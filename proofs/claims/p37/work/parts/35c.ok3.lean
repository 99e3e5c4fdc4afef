/-! ===== the tables of instructions are the program's, 3 ===== -/
set_option maxRecDepth 100000 in
theorem a_o200 : a_mb a_z200 = true ∧ a_c200.all (a_okb a_Z a_m200) = true := a_wk0 (by decide +kernel)
set_option maxRecDepth 100000 in
theorem a_o201 : a_mb a_z201 = true ∧ a_c201.all (a_okb a_Z a_m201) = true := a_wk0 (by decide +kernel)
set_option maxRecDepth 100000 in
theorem a_o202 : a_mb a_z202 = true ∧ a_c202.all (a_okb a_Z a_m202) = true := a_wk0 (by decide +kernel)
set_option maxRecDepth 100000 in
theorem a_o203 : a_mb a_z203 = true ∧ a_c203.all (a_okb a_Z a_m203) = true := a_wk0 (by decide +kernel)
set_option maxRecDepth 100000 in
theorem a_o204 : a_mb a_z204 = true ∧ a_c204.all (a_okb a_Z a_m204) = true := a_wk0 (by decide +kernel)
set_option maxRecDepth 100000 in
theorem a_o205 : a_mb a_z205 = true ∧ a_c205.all (a_okb a_Z a_m205) = true := a_wk0 (by decide +kernel)
set_option maxRecDepth 100000 in
theorem a_o206 : a_mb a_z206 = true ∧ a_c206.all (a_okb a_Z a_m206) = true := a_wk0 (by decide +kernel)
set_option maxRecDepth 100000 in
theorem a_o207 : a_mb a_z207 = true ∧ a_c207.all (a_okb a_Z a_m207) = true := a_wk0 (by decide +kernel)
set_option maxRecDepth 100000 in
theorem a_o208 : a_mb a_z208 = true ∧ a_c208.all (a_okb a_Z a_m208) = true := a_wk0 (by decide +kernel)
set_option maxRecDepth 100000 in
theorem a_o209 : a_mb a_z209 = true ∧ a_c209.all (a_okb a_Z a_m209) = true := a_wk0 (by decide +kernel)
set_option maxRecDepth 100000 in
theorem a_o210 : a_mb a_z210 = true ∧ a_c210.all (a_okb a_Z a_m210) = true := a_wk0 (by decide +kernel)
set_option maxRecDepth 100000 in
theorem a_o211 : a_mb a_z211 = true ∧ a_c211.all (a_okb a_Z a_m211) = true := a_wk0 (by decide +kernel)
set_option maxRecDepth 100000 in
theorem a_o212 : a_mb a_z212 = true ∧ a_c212.all (a_okb a_Z a_m212) = true := a_wk0 (by decide +kernel)
set_option maxRecDepth 100000 in
theorem a_o213 : a_mb a_z213 = true ∧ a_c213.all (a_okb a_Z a_m213) = true := a_wk0 (by decide +kernel)
set_option maxRecDepth 100000 in
theorem a_o214 : a_mb a_z214 = true ∧ a_c214.all (a_okb a_Z a_m214) = true := a_wk0 (by decide +kernel)
set_option maxRecDepth 100000 in
theorem a_o215 : a_mb a_z215 = true ∧ a_c215.all (a_okb a_Z a_m215) = true := a_wk0 (by decide +kernel)
set_option maxRecDepth 100000 in
theorem a_o216 : a_mb a_z216 = true ∧ a_c216.all (a_okb a_Z a_m216) = true := a_wk0 (by decide +kernel)
set_option maxRecDepth 100000 in
theorem a_o217 : a_mb a_z217 = true ∧ a_c217.all (a_okb a_Z a_m217) = true := a_wk0 (by decide +kernel)
set_option maxRecDepth 100000 in
theorem a_o218 : a_mb a_z218 = true ∧ a_c218.all (a_okb a_Z a_m218) = true := a_wk0 (by decide +kernel)
set_option maxRecDepth 100000 in
theorem a_o219 : a_mb a_z219 = true ∧ a_c219.all (a_okb a_Z a_m219) = true := a_wk0 (by decide +kernel)
set_option maxRecDepth 100000 in
theorem a_o220 : a_mb a_z220 = true ∧ a_c220.all (a_okb a_Z a_m220) = true := a_wk0 (by decide +kernel)
set_option maxRecDepth 100000 in
theorem a_o221 : a_mb a_z221 = true ∧ a_c221.all (a_okb a_Z a_m221) = true := a_wk0 (by decide +kernel)
set_option maxRecDepth 100000 in
theorem a_o222 : a_mb a_z222 = true ∧ a_c222.all (a_okb a_Z a_m222) = true := a_wk0 (by decide +kernel)
set_option maxRecDepth 100000 in
theorem a_o223 : a_mb a_z223 = true ∧ a_c223.all (a_okb a_Z a_m223) = true := a_wk0 (by decide +kernel)
set_option maxRecDepth 100000 in
theorem a_o224 : a_mb a_z224 = true ∧ a_c224.all (a_okb a_Z a_m224) = true := a_wk0 (by decide +kernel)
set_option maxRecDepth 100000 in
theorem a_o225 : a_mb a_z225 = true ∧ a_c225.all (a_okb a_Z a_m225) = true := a_wk0 (by decide +kernel)
set_option maxRecDepth 100000 in
theorem a_o226 : a_mb a_z226 = true ∧ a_c226.all (a_okb a_Z a_m226) = true := a_wk0 (by decide +kernel)
set_option maxRecDepth 100000 in
theorem a_o227 : a_mb a_z227 = true ∧ a_c227.all (a_okb a_Z a_m227) = true := a_wk0 (by decide +kernel)
set_option maxRecDepth 100000 in
theorem a_o228 : a_mb a_z228 = true ∧ a_c228.all (a_okb a_Z a_m228) = true := a_wk0 (by decide +kernel)
set_option maxRecDepth 100000 in
theorem a_o229 : a_mb a_z229 = true ∧ a_c229.all (a_okb a_Z a_m229) = true := a_wk0 (by decide +kernel)
set_option maxRecDepth 100000 in
theorem a_o230 : a_mb a_z230 = true ∧ a_c230.all (a_okb a_Z a_m230) = true := a_wk0 (by decide +kernel)
set_option maxRecDepth 100000 in
theorem a_o231 : a_mb a_z231 = true ∧ a_c231.all (a_okb a_Z a_m231) = true := a_wk0 (by decide +kernel)
set_option maxRecDepth 100000 in
theorem a_o232 : a_mb a_z232 = true ∧ a_c232.all (a_okb a_Z a_m232) = true := a_wk0 (by decide +kernel)
set_option maxRecDepth 100000 in
theorem a_o233 : a_mb a_z233 = true ∧ a_c233.all (a_okb a_Z a_m233) = true := a_wk0 (by decide +kernel)
set_option maxRecDepth 100000 in
theorem a_o234 : a_mb a_z234 = true ∧ a_c234.all (a_okb a_Z a_m234) = true := a_wk0 (by decide +kernel)
set_option maxRecDepth 100000 in
theorem a_o235 : a_mb a_z235 = true ∧ a_c235.all (a_okb a_Z a_m235) = true := a_wk0 (by decide +kernel)
set_option maxRecDepth 100000 in
theorem a_o236 : a_mb a_z236 = true ∧ a_c236.all (a_okb a_Z a_m236) = true := a_wk0 (by decide +kernel)
set_option maxRecDepth 100000 in
theorem a_o237 : a_mb a_z237 = true ∧ a_c237.all (a_okb a_Z a_m237) = true := a_wk0 (by decide +kernel)
set_option maxRecDepth 100000 in
theorem a_o238 : a_mb a_z238 = true ∧ a_c238.all (a_okb a_Z a_m238) = true := a_wk0 (by decide +kernel)
set_option maxRecDepth 100000 in
theorem a_o239 : a_mb a_z239 = true ∧ a_c239.all (a_okb a_Z a_m239) = true := a_wk0 (by decide +kernel)
set_option maxRecDepth 100000 in
theorem a_o240 : a_mb a_z240 = true ∧ a_c240.all (a_okb a_Z a_m240) = true := a_wk0 (by decide +kernel)
set_option maxRecDepth 100000 in
theorem a_o241 : a_mb a_z241 = true ∧ a_c241.all (a_okb a_Z a_m241) = true := a_wk0 (by decide +kernel)
set_option maxRecDepth 100000 in
theorem a_o242 : a_mb a_z242 = true ∧ a_c242.all (a_okb a_Z a_m242) = true := a_wk0 (by decide +kernel)
set_option maxRecDepth 100000 in
theorem a_o243 : a_mb a_z243 = true ∧ a_c243.all (a_okb a_Z a_m243) = true := a_wk0 (by decide +kernel)
set_option maxRecDepth 100000 in
theorem a_o244 : a_mb a_z244 = true ∧ a_c244.all (a_okb a_Z a_m244) = true := a_wk0 (by decide +kernel)
set_option maxRecDepth 100000 in
theorem a_o245 : a_mb a_z245 = true ∧ a_c245.all (a_okb a_Z a_m245) = true := a_wk0 (by decide +kernel)
set_option maxRecDepth 100000 in
theorem a_o246 : a_mb a_z246 = true ∧ a_c246.all (a_okb a_Z a_m246) = true := a_wk0 (by decide +kernel)
set_option maxRecDepth 100000 in
theorem a_o247 : a_mb a_z247 = true ∧ a_c247.all (a_okb a_Z a_m247) = true := a_wk0 (by decide +kernel)
set_option maxRecDepth 100000 in
theorem a_o248 : a_mb a_z248 = true ∧ a_c248.all (a_okb a_Z a_m248) = true := a_wk0 (by decide +kernel)
set_option maxRecDepth 100000 in
theorem a_o249 : a_mb a_z249 = true ∧ a_c249.all (a_okb a_Z a_m249) = true := a_wk0 (by decide +kernel)
set_option maxRecDepth 100000 in
theorem a_o250 : a_mb a_z250 = true ∧ a_c250.all (a_okb a_Z a_m250) = true := a_wk0 (by decide +kernel)
set_option maxRecDepth 100000 in
theorem a_o251 : a_mb a_z251 = true ∧ a_c251.all (a_okb a_Z a_m251) = true := a_wk0 (by decide +kernel)
set_option maxRecDepth 100000 in
theorem a_o252 : a_mb a_z252 = true ∧ a_c252.all (a_okb a_Z a_m252) = true := a_wk0 (by decide +kernel)
set_option maxRecDepth 100000 in
theorem a_o253 : a_mb a_z253 = true ∧ a_c253.all (a_okb a_Z a_m253) = true := a_wk0 (by decide +kernel)
set_option maxRecDepth 100000 in
theorem a_o254 : a_mb a_z254 = true ∧ a_c254.all (a_okb a_Z a_m254) = true := a_wk0 (by decide +kernel)
set_option maxRecDepth 100000 in
theorem a_o255 : a_mb a_z255 = true ∧ a_c255.all (a_okb a_Z a_m255) = true := a_wk0 (by decide +kernel)
set_option maxRecDepth 100000 in
theorem a_o256 : a_mb a_z256 = true ∧ a_c256.all (a_okb a_Z a_m256) = true := a_wk0 (by decide +kernel)
set_option maxRecDepth 100000 in
theorem a_o257 : a_mb a_z257 = true ∧ a_c257.all (a_okb a_Z a_m257) = true := a_wk0 (by decide +kernel)
set_option maxRecDepth 100000 in
theorem a_o258 : a_mb a_z258 = true ∧ a_c258.all (a_okb a_Z a_m258) = true := a_wk0 (by decide +kernel)
set_option maxRecDepth 100000 in
theorem a_o259 : a_mb a_z259 = true ∧ a_c259.all (a_okb a_Z a_m259) = true := a_wk0 (by decide +kernel)
set_option maxRecDepth 100000 in
theorem a_o260 : a_mb a_z260 = true ∧ a_c260.all (a_okb a_Z a_m260) = true := a_wk0 (by decide +kernel)
set_option maxRecDepth 100000 in
theorem a_o261 : a_mb a_z261 = true ∧ a_c261.all (a_okb a_Z a_m261) = true := a_wk0 (by decide +kernel)
set_option maxRecDepth 100000 in
theorem a_o262 : a_mb a_z262 = true ∧ a_c262.all (a_okb a_Z a_m262) = true := a_wk0 (by decide +kernel)
set_option maxRecDepth 100000 in
theorem a_o263 : a_mb a_z263 = true ∧ a_c263.all (a_okb a_Z a_m263) = true := a_wk0 (by decide +kernel)
set_option maxRecDepth 100000 in
theorem a_o264 : a_mb a_z264 = true ∧ a_c264.all (a_okb a_Z a_m264) = true := a_wk0 (by decide +kernel)
set_option maxRecDepth 100000 in
theorem a_o265 : a_mb a_z265 = true ∧ a_c265.all (a_okb a_Z a_m265) = true := a_wk0 (by decide +kernel)
set_option maxRecDepth 100000 in
theorem a_o266 : a_mb a_z266 = true ∧ a_c266.all (a_okb a_Z a_m266) = true := a_wk0 (by decide +kernel)
set_option maxRecDepth 100000 in
theorem a_o267 : a_mb a_z267 = true ∧ a_c267.all (a_okb a_Z a_m267) = true := a_wk0 (by decide +kernel)
set_option maxRecDepth 100000 in
theorem a_o268 : a_mb a_z268 = true ∧ a_c268.all (a_okb a_Z a_m268) = true := a_wk0 (by decide +kernel)
set_option maxRecDepth 100000 in
theorem a_o269 : a_mb a_z269 = true ∧ a_c269.all (a_okb a_Z a_m269) = true := a_wk0 (by decide +kernel)
set_option maxRecDepth 100000 in
theorem a_o270 : a_mb a_z270 = true ∧ a_c270.all (a_okb a_Z a_m270) = true := a_wk0 (by decide +kernel)
set_option maxRecDepth 100000 in
theorem a_o271 : a_mb a_z271 = true ∧ a_c271.all (a_okb a_Z a_m271) = true := a_wk0 (by decide +kernel)
set_option maxRecDepth 100000 in
theorem a_o272 : a_mb a_z272 = true ∧ a_c272.all (a_okb a_Z a_m272) = true := a_wk0 (by decide +kernel)
set_option maxRecDepth 100000 in
theorem a_o273 : a_mb a_z273 = true ∧ a_c273.all (a_okb a_Z a_m273) = true := a_wk0 (by decide +kernel)
set_option maxRecDepth 100000 in
theorem a_o274 : a_mb a_z274 = true ∧ a_c274.all (a_okb a_Z a_m274) = true := a_wk0 (by decide +kernel)
set_option maxRecDepth 100000 in
theorem a_o275 : a_mb a_z275 = true ∧ a_c275.all (a_okb a_Z a_m275) = true := a_wk0 (by decide +kernel)
set_option maxRecDepth 100000 in
theorem a_o276 : a_mb a_z276 = true ∧ a_c276.all (a_okb a_Z a_m276) = true := a_wk0 (by decide +kernel)
set_option maxRecDepth 100000 in
theorem a_o277 : a_mb a_z277 = true ∧ a_c277.all (a_okb a_Z a_m277) = true := a_wk0 (by decide +kernel)
set_option maxRecDepth 100000 in
theorem a_o278 : a_mb a_z278 = true ∧ a_c278.all (a_okb a_Z a_m278) = true := a_wk0 (by decide +kernel)
set_option maxRecDepth 100000 in
theorem a_o279 : a_mb a_z279 = true ∧ a_c279.all (a_okb a_Z a_m279) = true := a_wk0 (by decide +kernel)
set_option maxRecDepth 100000 in
theorem a_o280 : a_mb a_z280 = true ∧ a_c280.all (a_okb a_Z a_m280) = true := a_wk0 (by decide +kernel)
set_option maxRecDepth 100000 in
theorem a_o281 : a_mb a_z281 = true ∧ a_c281.all (a_okb a_Z a_m281) = true := a_wk0 (by decide +kernel)
set_option maxRecDepth 100000 in
theorem a_o282 : a_mb a_z282 = true ∧ a_c282.all (a_okb a_Z a_m282) = true := a_wk0 (by decide +kernel)
set_option maxRecDepth 100000 in
theorem a_o283 : a_mb a_z283 = true ∧ a_c283.all (a_okb a_Z a_m283) = true := a_wk0 (by decide +kernel)
set_option maxRecDepth 100000 in
theorem a_o284 : a_mb a_z284 = true ∧ a_c284.all (a_okb a_Z a_m284) = true := a_wk0 (by decide +kernel)
set_option maxRecDepth 100000 in
theorem a_o285 : a_mb a_z285 = true ∧ a_c285.all (a_okb a_Z a_m285) = true := a_wk0 (by decide +kernel)
set_option maxRecDepth 100000 in
theorem a_o286 : a_mb a_z286 = true ∧ a_c286.all (a_okb a_Z a_m286) = true := a_wk0 (by decide +kernel)
set_option maxRecDepth 100000 in
theorem a_o287 : a_mb a_z287 = true ∧ a_c287.all (a_okb a_Z a_m287) = true := a_wk0 (by decide +kernel)
theorem a_q {M : aM} {t : Nat} {ps : List Nat} (h : a_mb (M, t, ps) = true ∧ M.2.2.2.2.2.all (a_okb a_Z M) = true) : a_mb (M, t, ps) = true ∧ ∀ e ∈ M.2.2.2.2.2, a_okb a_Z M e = true := ⟨h.1, List.all_eq_true.mp h.2⟩
theorem a_ZOK_Z : a_ZOK a_Z := by
  unfold a_ZOK a_Z
  refine List.forall_mem_cons.mpr ⟨a_q a_o0, ?_⟩
  refine List.forall_mem_cons.mpr ⟨a_q a_o1, ?_⟩
  refine List.forall_mem_cons.mpr ⟨a_q a_o2, ?_⟩
  refine List.forall_mem_cons.mpr ⟨a_q a_o3, ?_⟩
  refine List.forall_mem_cons.mpr ⟨a_q a_o4, ?_⟩
  refine List.forall_mem_cons.mpr ⟨a_q a_o5, ?_⟩
  refine List.forall_mem_cons.mpr ⟨a_q a_o6, ?_⟩
  refine List.forall_mem_cons.mpr ⟨a_q a_o7, ?_⟩
  refine List.forall_mem_cons.mpr ⟨a_q a_o8, ?_⟩
  refine List.forall_mem_cons.mpr ⟨a_q a_o9, ?_⟩
  refine List.forall_mem_cons.mpr ⟨a_q a_o10, ?_⟩
  refine List.forall_mem_cons.mpr ⟨a_q a_o11, ?_⟩
  refine List.forall_mem_cons.mpr ⟨a_q a_o12, ?_⟩
  refine List.forall_mem_cons.mpr ⟨a_q a_o13, ?_⟩
  refine List.forall_mem_cons.mpr ⟨a_q a_o14, ?_⟩
  refine List.forall_mem_cons.mpr ⟨a_q a_o15, ?_⟩
  refine List.forall_mem_cons.mpr ⟨a_q a_o16, ?_⟩
  refine List.forall_mem_cons.mpr ⟨a_q a_o17, ?_⟩
  refine List.forall_mem_cons.mpr ⟨a_q a_o18, ?_⟩
  refine List.forall_mem_cons.mpr ⟨a_q a_o19, ?_⟩
  refine List.forall_mem_cons.mpr ⟨a_q a_o20, ?_⟩
  refine List.forall_mem_cons.mpr ⟨a_q a_o21, ?_⟩
  refine List.forall_mem_cons.mpr ⟨a_q a_o22, ?_⟩
  refine List.forall_mem_cons.mpr ⟨a_q a_o23, ?_⟩
  refine List.forall_mem_cons.mpr ⟨a_q a_o24, ?_⟩
  refine List.forall_mem_cons.mpr ⟨a_q a_o25, ?_⟩
  refine List.forall_mem_cons.mpr ⟨a_q a_o26, ?_⟩
  refine List.forall_mem_cons.mpr ⟨a_q a_o27, ?_⟩
  refine List.forall_mem_cons.mpr ⟨a_q a_o28, ?_⟩
  refine List.forall_mem_cons.mpr ⟨a_q a_o29, ?_⟩
  refine List.forall_mem_cons.mpr ⟨a_q a_o30, ?_⟩
  refine List.forall_mem_cons.mpr ⟨a_q a_o31, ?_⟩
  refine List.forall_mem_cons.mpr ⟨a_q a_o32, ?_⟩
  refine List.forall_mem_cons.mpr ⟨a_q a_o33, ?_⟩
  refine List.forall_mem_cons.mpr ⟨a_q a_o34, ?_⟩
  refine List.forall_mem_cons.mpr ⟨a_q a_o35, ?_⟩
  refine List.forall_mem_cons.mpr ⟨a_q a_o36, ?_⟩
  refine List.forall_mem_cons.mpr ⟨a_q a_o37, ?_⟩
  refine List.forall_mem_cons.mpr ⟨a_q a_o38, ?_⟩
  refine List.forall_mem_cons.mpr ⟨a_q a_o39, ?_⟩
  refine List.forall_mem_cons.mpr ⟨a_q a_o40, ?_⟩
  refine List.forall_mem_cons.mpr ⟨a_q a_o41, ?_⟩
  refine List.forall_mem_cons.mpr ⟨a_q a_o42, ?_⟩
  refine List.forall_mem_cons.mpr ⟨a_q a_o43, ?_⟩
  refine List.forall_mem_cons.mpr ⟨a_q a_o44, ?_⟩
  refine List.forall_mem_cons.mpr ⟨a_q a_o45, ?_⟩
  refine List.forall_mem_cons.mpr ⟨a_q a_o46, ?_⟩
  refine List.forall_mem_cons.mpr ⟨a_q a_o47, ?_⟩
  refine List.forall_mem_cons.mpr ⟨a_q a_o48, ?_⟩
  refine List.forall_mem_cons.mpr ⟨a_q a_o49, ?_⟩
  refine List.forall_mem_cons.mpr ⟨a_q a_o50, ?_⟩
  refine List.forall_mem_cons.mpr ⟨a_q a_o51, ?_⟩
  refine List.forall_mem_cons.mpr ⟨a_q a_o52, ?_⟩
  refine List.forall_mem_cons.mpr ⟨a_q a_o53, ?_⟩
  refine List.forall_mem_cons.mpr ⟨a_q a_o54, ?_⟩
  refine List.forall_mem_cons.mpr ⟨a_q a_o55, ?_⟩
  refine List.forall_mem_cons.mpr ⟨a_q a_o56, ?_⟩
  refine List.forall_mem_cons.mpr ⟨a_q a_o57, ?_⟩
  refine List.forall_mem_cons.mpr ⟨a_q a_o58, ?_⟩
  refine List.forall_mem_cons.mpr ⟨a_q a_o59, ?_⟩
  refine List.forall_mem_cons.mpr ⟨a_q a_o60, ?_⟩
  refine List.forall_mem_cons.mpr ⟨a_q a_o61, ?_⟩
  refine List.forall_mem_cons.mpr ⟨a_q a_o62, ?_⟩
  refine List.forall_mem_cons.mpr ⟨a_q a_o63, ?_⟩
  refine List.forall_mem_cons.mpr ⟨a_q a_o64, ?_⟩
  refine List.forall_mem_cons.mpr ⟨a_q a_o65, ?_⟩
  refine List.forall_mem_cons.mpr ⟨a_q a_o66, ?_⟩
  refine List.forall_mem_cons.mpr ⟨a_q a_o67, ?_⟩
  refine List.forall_mem_cons.mpr ⟨a_q a_o68, ?_⟩
  refine List.forall_mem_cons.mpr ⟨a_q a_o69, ?_⟩
  refine List.forall_mem_cons.mpr ⟨a_q a_o70, ?_⟩
  refine List.forall_mem_cons.mpr ⟨a_q a_o71, ?_⟩
  refine List.forall_mem_cons.mpr ⟨a_q a_o72, ?_⟩
  refine List.forall_mem_cons.mpr ⟨a_q a_o73, ?_⟩
  refine List.forall_mem_cons.mpr ⟨a_q a_o74, ?_⟩
  refine List.forall_mem_cons.mpr ⟨a_q a_o75, ?_⟩
  refine List.forall_mem_cons.mpr ⟨a_q a_o76, ?_⟩
  refine List.forall_mem_cons.mpr ⟨a_q a_o77, ?_⟩
  refine List.forall_mem_cons.mpr ⟨a_q a_o78, ?_⟩
  refine List.forall_mem_cons.mpr ⟨a_q a_o79, ?_⟩
  refine List.forall_mem_cons.mpr ⟨a_q a_o80, ?_⟩
  refine List.forall_mem_cons.mpr ⟨a_q a_o81, ?_⟩
  refine List.forall_mem_cons.mpr ⟨a_q a_o82, ?_⟩
  refine List.forall_mem_cons.mpr ⟨a_q a_o83, ?_⟩
  refine List.forall_mem_cons.mpr ⟨a_q a_o84, ?_⟩
  refine List.forall_mem_cons.mpr ⟨a_q a_o85, ?_⟩
  refine List.forall_mem_cons.mpr ⟨a_q a_o86, ?_⟩
  refine List.forall_mem_cons.mpr ⟨a_q a_o87, ?_⟩
  refine List.forall_mem_cons.mpr ⟨a_q a_o88, ?_⟩
  refine List.forall_mem_cons.mpr ⟨a_q a_o89, ?_⟩
  refine List.forall_mem_cons.mpr ⟨a_q a_o90, ?_⟩
  refine List.forall_mem_cons.mpr ⟨a_q a_o91, ?_⟩
  refine List.forall_mem_cons.mpr ⟨a_q a_o92, ?_⟩
  refine List.forall_mem_cons.mpr ⟨a_q a_o93, ?_⟩
  refine List.forall_mem_cons.mpr ⟨a_q a_o94, ?_⟩
  refine List.forall_mem_cons.mpr ⟨a_q a_o95, ?_⟩
  refine List.forall_mem_cons.mpr ⟨a_q a_o96, ?_⟩
  refine List.forall_mem_cons.mpr ⟨a_q a_o97, ?_⟩
  refine List.forall_mem_cons.mpr ⟨a_q a_o98, ?_⟩
  refine List.forall_mem_cons.mpr ⟨a_q a_o99, ?_⟩
  refine List.forall_mem_cons.mpr ⟨a_q a_o100, ?_⟩
  refine List.forall_mem_cons.mpr ⟨a_q a_o101, ?_⟩
  refine List.forall_mem_cons.mpr ⟨a_q a_o102, ?_⟩
  refine List.forall_mem_cons.mpr ⟨a_q a_o103, ?_⟩
  refine List.forall_mem_cons.mpr ⟨a_q a_o104, ?_⟩
  refine List.forall_mem_cons.mpr ⟨a_q a_o105, ?_⟩
  refine List.forall_mem_cons.mpr ⟨a_q a_o106, ?_⟩
  refine List.forall_mem_cons.mpr ⟨a_q a_o107, ?_⟩
  refine List.forall_mem_cons.mpr ⟨a_q a_o108, ?_⟩
  refine List.forall_mem_cons.mpr ⟨a_q a_o109, ?_⟩
  refine List.forall_mem_cons.mpr ⟨a_q a_o110, ?_⟩
  refine List.forall_mem_cons.mpr ⟨a_q a_o111, ?_⟩
  refine List.forall_mem_cons.mpr ⟨a_q a_o112, ?_⟩
  refine List.forall_mem_cons.mpr ⟨a_q a_o113, ?_⟩
  refine List.forall_mem_cons.mpr ⟨a_q a_o114, ?_⟩
  refine List.forall_mem_cons.mpr ⟨a_q a_o115, ?_⟩
  refine List.forall_mem_cons.mpr ⟨a_q a_o116, ?_⟩
  refine List.forall_mem_cons.mpr ⟨a_q a_o117, ?_⟩
  refine List.forall_mem_cons.mpr ⟨a_q a_o118, ?_⟩
  refine List.forall_mem_cons.mpr ⟨a_q a_o119, ?_⟩
  refine List.forall_mem_cons.mpr ⟨a_q a_o120, ?_⟩
  refine List.forall_mem_cons.mpr ⟨a_q a_o121, ?_⟩
  refine List.forall_mem_cons.mpr ⟨a_q a_o122, ?_⟩
  refine List.forall_mem_cons.mpr ⟨a_q a_o123, ?_⟩
  refine List.forall_mem_cons.mpr ⟨a_q a_o124, ?_⟩
  refine List.forall_mem_cons.mpr ⟨a_q a_o125, ?_⟩
  refine List.forall_mem_cons.mpr ⟨a_q a_o126, ?_⟩
  refine List.forall_mem_cons.mpr ⟨a_q a_o127, ?_⟩
  refine List.forall_mem_cons.mpr ⟨a_q a_o128, ?_⟩
  refine List.forall_mem_cons.mpr ⟨a_q a_o129, ?_⟩
  refine List.forall_mem_cons.mpr ⟨a_q a_o130, ?_⟩
  refine List.forall_mem_cons.mpr ⟨a_q a_o131, ?_⟩
  refine List.forall_mem_cons.mpr ⟨a_q a_o132, ?_⟩
  refine List.forall_mem_cons.mpr ⟨a_q a_o133, ?_⟩
  refine List.forall_mem_cons.mpr ⟨a_q a_o134, ?_⟩
  refine List.forall_mem_cons.mpr ⟨a_q a_o135, ?_⟩
  refine List.forall_mem_cons.mpr ⟨a_q a_o136, ?_⟩
  refine List.forall_mem_cons.mpr ⟨a_q a_o137, ?_⟩
  refine List.forall_mem_cons.mpr ⟨a_q a_o138, ?_⟩
  refine List.forall_mem_cons.mpr ⟨a_q a_o139, ?_⟩
  refine List.forall_mem_cons.mpr ⟨a_q a_o140, ?_⟩
  refine List.forall_mem_cons.mpr ⟨a_q a_o141, ?_⟩
  refine List.forall_mem_cons.mpr ⟨a_q a_o142, ?_⟩
  refine List.forall_mem_cons.mpr ⟨a_q a_o143, ?_⟩
  refine List.forall_mem_cons.mpr ⟨a_q a_o144, ?_⟩
  refine List.forall_mem_cons.mpr ⟨a_q a_o145, ?_⟩
  refine List.forall_mem_cons.mpr ⟨a_q a_o146, ?_⟩
  refine List.forall_mem_cons.mpr ⟨a_q a_o147, ?_⟩
  refine List.forall_mem_cons.mpr ⟨a_q a_o148, ?_⟩
  refine List.forall_mem_cons.mpr ⟨a_q a_o149, ?_⟩
  refine List.forall_mem_cons.mpr ⟨a_q a_o150, ?_⟩
  refine List.forall_mem_cons.mpr ⟨a_q a_o151, ?_⟩
  refine List.forall_mem_cons.mpr ⟨a_q a_o152, ?_⟩
  refine List.forall_mem_cons.mpr ⟨a_q a_o153, ?_⟩
  refine List.forall_mem_cons.mpr ⟨a_q a_o154, ?_⟩
  refine List.forall_mem_cons.mpr ⟨a_q a_o155, ?_⟩
  refine List.forall_mem_cons.mpr ⟨a_q a_o156, ?_⟩
  refine List.forall_mem_cons.mpr ⟨a_q a_o157, ?_⟩
  refine List.forall_mem_cons.mpr ⟨a_q a_o158, ?_⟩
  refine List.forall_mem_cons.mpr ⟨a_q a_o159, ?_⟩
  refine List.forall_mem_cons.mpr ⟨a_q a_o160, ?_⟩
  refine List.forall_mem_cons.mpr ⟨a_q a_o161, ?_⟩
  refine List.forall_mem_cons.mpr ⟨a_q a_o162, ?_⟩
  refine List.forall_mem_cons.mpr ⟨a_q a_o163, ?_⟩
  refine List.forall_mem_cons.mpr ⟨a_q a_o164, ?_⟩
  refine List.forall_mem_cons.mpr ⟨a_q a_o165, ?_⟩
  refine List.forall_mem_cons.mpr ⟨a_q a_o166, ?_⟩
  refine List.forall_mem_cons.mpr ⟨a_q a_o167, ?_⟩
  refine List.forall_mem_cons.mpr ⟨a_q a_o168, ?_⟩
  refine List.forall_mem_cons.mpr ⟨a_q a_o169, ?_⟩
  refine List.forall_mem_cons.mpr ⟨a_q a_o170, ?_⟩
  refine List.forall_mem_cons.mpr ⟨a_q a_o171, ?_⟩
  refine List.forall_mem_cons.mpr ⟨a_q a_o172, ?_⟩
  refine List.forall_mem_cons.mpr ⟨a_q a_o173, ?_⟩
  refine List.forall_mem_cons.mpr ⟨a_q a_o174, ?_⟩
  refine List.forall_mem_cons.mpr ⟨a_q a_o175, ?_⟩
  refine List.forall_mem_cons.mpr ⟨a_q a_o176, ?_⟩
  refine List.forall_mem_cons.mpr ⟨a_q a_o177, ?_⟩
  refine List.forall_mem_cons.mpr ⟨a_q a_o178, ?_⟩
  refine List.forall_mem_cons.mpr ⟨a_q a_o179, ?_⟩
  refine List.forall_mem_cons.mpr ⟨a_q a_o180, ?_⟩
  refine List.forall_mem_cons.mpr ⟨a_q a_o181, ?_⟩
  refine List.forall_mem_cons.mpr ⟨a_q a_o182, ?_⟩
  refine List.forall_mem_cons.mpr ⟨a_q a_o183, ?_⟩
  refine List.forall_mem_cons.mpr ⟨a_q a_o184, ?_⟩
  refine List.forall_mem_cons.mpr ⟨a_q a_o185, ?_⟩
  refine List.forall_mem_cons.mpr ⟨a_q a_o186, ?_⟩
  refine List.forall_mem_cons.mpr ⟨a_q a_o187, ?_⟩
  refine List.forall_mem_cons.mpr ⟨a_q a_o188, ?_⟩
  refine List.forall_mem_cons.mpr ⟨a_q a_o189, ?_⟩
  refine List.forall_mem_cons.mpr ⟨a_q a_o190, ?_⟩
  refine List.forall_mem_cons.mpr ⟨a_q a_o191, ?_⟩
  refine List.forall_mem_cons.mpr ⟨a_q a_o192, ?_⟩
  refine List.forall_mem_cons.mpr ⟨a_q a_o193, ?_⟩
  refine List.forall_mem_cons.mpr ⟨a_q a_o194, ?_⟩
  refine List.forall_mem_cons.mpr ⟨a_q a_o195, ?_⟩
  refine List.forall_mem_cons.mpr ⟨a_q a_o196, ?_⟩
  refine List.forall_mem_cons.mpr ⟨a_q a_o197, ?_⟩
  refine List.forall_mem_cons.mpr ⟨a_q a_o198, ?_⟩
  refine List.forall_mem_cons.mpr ⟨a_q a_o199, ?_⟩
  refine List.forall_mem_cons.mpr ⟨a_q a_o200, ?_⟩
  refine List.forall_mem_cons.mpr ⟨a_q a_o201, ?_⟩
  refine List.forall_mem_cons.mpr ⟨a_q a_o202, ?_⟩
  refine List.forall_mem_cons.mpr ⟨a_q a_o203, ?_⟩
  refine List.forall_mem_cons.mpr ⟨a_q a_o204, ?_⟩
  refine List.forall_mem_cons.mpr ⟨a_q a_o205, ?_⟩
  refine List.forall_mem_cons.mpr ⟨a_q a_o206, ?_⟩
  refine List.forall_mem_cons.mpr ⟨a_q a_o207, ?_⟩
  refine List.forall_mem_cons.mpr ⟨a_q a_o208, ?_⟩
  refine List.forall_mem_cons.mpr ⟨a_q a_o209, ?_⟩
  refine List.forall_mem_cons.mpr ⟨a_q a_o210, ?_⟩
  refine List.forall_mem_cons.mpr ⟨a_q a_o211, ?_⟩
  refine List.forall_mem_cons.mpr ⟨a_q a_o212, ?_⟩
  refine List.forall_mem_cons.mpr ⟨a_q a_o213, ?_⟩
  refine List.forall_mem_cons.mpr ⟨a_q a_o214, ?_⟩
  refine List.forall_mem_cons.mpr ⟨a_q a_o215, ?_⟩
  refine List.forall_mem_cons.mpr ⟨a_q a_o216, ?_⟩
  refine List.forall_mem_cons.mpr ⟨a_q a_o217, ?_⟩
  refine List.forall_mem_cons.mpr ⟨a_q a_o218, ?_⟩
  refine List.forall_mem_cons.mpr ⟨a_q a_o219, ?_⟩
  refine List.forall_mem_cons.mpr ⟨a_q a_o220, ?_⟩
  refine List.forall_mem_cons.mpr ⟨a_q a_o221, ?_⟩
  refine List.forall_mem_cons.mpr ⟨a_q a_o222, ?_⟩
  refine List.forall_mem_cons.mpr ⟨a_q a_o223, ?_⟩
  refine List.forall_mem_cons.mpr ⟨a_q a_o224, ?_⟩
  refine List.forall_mem_cons.mpr ⟨a_q a_o225, ?_⟩
  refine List.forall_mem_cons.mpr ⟨a_q a_o226, ?_⟩
  refine List.forall_mem_cons.mpr ⟨a_q a_o227, ?_⟩
  refine List.forall_mem_cons.mpr ⟨a_q a_o228, ?_⟩
  refine List.forall_mem_cons.mpr ⟨a_q a_o229, ?_⟩
  refine List.forall_mem_cons.mpr ⟨a_q a_o230, ?_⟩
  refine List.forall_mem_cons.mpr ⟨a_q a_o231, ?_⟩
  refine List.forall_mem_cons.mpr ⟨a_q a_o232, ?_⟩
  refine List.forall_mem_cons.mpr ⟨a_q a_o233, ?_⟩
  refine List.forall_mem_cons.mpr ⟨a_q a_o234, ?_⟩
  refine List.forall_mem_cons.mpr ⟨a_q a_o235, ?_⟩
  refine List.forall_mem_cons.mpr ⟨a_q a_o236, ?_⟩
  refine List.forall_mem_cons.mpr ⟨a_q a_o237, ?_⟩
  refine List.forall_mem_cons.mpr ⟨a_q a_o238, ?_⟩
  refine List.forall_mem_cons.mpr ⟨a_q a_o239, ?_⟩
  refine List.forall_mem_cons.mpr ⟨a_q a_o240, ?_⟩
  refine List.forall_mem_cons.mpr ⟨a_q a_o241, ?_⟩
  refine List.forall_mem_cons.mpr ⟨a_q a_o242, ?_⟩
  refine List.forall_mem_cons.mpr ⟨a_q a_o243, ?_⟩
  refine List.forall_mem_cons.mpr ⟨a_q a_o244, ?_⟩
  refine List.forall_mem_cons.mpr ⟨a_q a_o245, ?_⟩
  refine List.forall_mem_cons.mpr ⟨a_q a_o246, ?_⟩
  refine List.forall_mem_cons.mpr ⟨a_q a_o247, ?_⟩
  refine List.forall_mem_cons.mpr ⟨a_q a_o248, ?_⟩
  refine List.forall_mem_cons.mpr ⟨a_q a_o249, ?_⟩
  refine List.forall_mem_cons.mpr ⟨a_q a_o250, ?_⟩
  refine List.forall_mem_cons.mpr ⟨a_q a_o251, ?_⟩
  refine List.forall_mem_cons.mpr ⟨a_q a_o252, ?_⟩
  refine List.forall_mem_cons.mpr ⟨a_q a_o253, ?_⟩
  refine List.forall_mem_cons.mpr ⟨a_q a_o254, ?_⟩
  refine List.forall_mem_cons.mpr ⟨a_q a_o255, ?_⟩
  refine List.forall_mem_cons.mpr ⟨a_q a_o256, ?_⟩
  refine List.forall_mem_cons.mpr ⟨a_q a_o257, ?_⟩
  refine List.forall_mem_cons.mpr ⟨a_q a_o258, ?_⟩
  refine List.forall_mem_cons.mpr ⟨a_q a_o259, ?_⟩
  refine List.forall_mem_cons.mpr ⟨a_q a_o260, ?_⟩
  refine List.forall_mem_cons.mpr ⟨a_q a_o261, ?_⟩
  refine List.forall_mem_cons.mpr ⟨a_q a_o262, ?_⟩
  refine List.forall_mem_cons.mpr ⟨a_q a_o263, ?_⟩
  refine List.forall_mem_cons.mpr ⟨a_q a_o264, ?_⟩
  refine List.forall_mem_cons.mpr ⟨a_q a_o265, ?_⟩
  refine List.forall_mem_cons.mpr ⟨a_q a_o266, ?_⟩
  refine List.forall_mem_cons.mpr ⟨a_q a_o267, ?_⟩
  refine List.forall_mem_cons.mpr ⟨a_q a_o268, ?_⟩
  refine List.forall_mem_cons.mpr ⟨a_q a_o269, ?_⟩
  refine List.forall_mem_cons.mpr ⟨a_q a_o270, ?_⟩
  refine List.forall_mem_cons.mpr ⟨a_q a_o271, ?_⟩
  refine List.forall_mem_cons.mpr ⟨a_q a_o272, ?_⟩
  refine List.forall_mem_cons.mpr ⟨a_q a_o273, ?_⟩
  refine List.forall_mem_cons.mpr ⟨a_q a_o274, ?_⟩
  refine List.forall_mem_cons.mpr ⟨a_q a_o275, ?_⟩
  refine List.forall_mem_cons.mpr ⟨a_q a_o276, ?_⟩
  refine List.forall_mem_cons.mpr ⟨a_q a_o277, ?_⟩
  refine List.forall_mem_cons.mpr ⟨a_q a_o278, ?_⟩
  refine List.forall_mem_cons.mpr ⟨a_q a_o279, ?_⟩
  refine List.forall_mem_cons.mpr ⟨a_q a_o280, ?_⟩
  refine List.forall_mem_cons.mpr ⟨a_q a_o281, ?_⟩
  refine List.forall_mem_cons.mpr ⟨a_q a_o282, ?_⟩
  refine List.forall_mem_cons.mpr ⟨a_q a_o283, ?_⟩
  refine List.forall_mem_cons.mpr ⟨a_q a_o284, ?_⟩
  refine List.forall_mem_cons.mpr ⟨a_q a_o285, ?_⟩
  refine List.forall_mem_cons.mpr ⟨a_q a_o286, ?_⟩
  refine List.forall_mem_cons.mpr ⟨a_q a_o287, ?_⟩
  exact fun _ h => by cases h
/-! ===== the law's own instructions, in stretches of 60 ===== -/
theorem a_stretch {α : Type} (p : α → Bool) (l : List α) (a n : Nat) (h1 : ((l.drop a).take n).all p = true) (h2 : (l.drop (a + n)).all p = true) : (l.drop a).all p = true := by
  have e := List.take_append_drop n (l.drop a)
  rw [List.drop_drop] at e
  rw [← e, List.all_append, h1, h2]; rfl
set_option maxRecDepth 100000 in
theorem a_oL0 : ((a_cL.drop 0).take 200).all (a_okb a_Z a_mL) = true := a_wk_ok _ 0 a_mL.2.1.data.toList rfl (by decide +kernel)
set_option maxRecDepth 100000 in
theorem a_oL1 : ((a_cL.drop 200).take 200).all (a_okb a_Z a_mL) = true := a_wk_ok _ 0 a_mL.2.1.data.toList rfl (by decide +kernel)
set_option maxRecDepth 100000 in
theorem a_oL2 : ((a_cL.drop 400).take 200).all (a_okb a_Z a_mL) = true := a_wk_ok _ 0 a_mL.2.1.data.toList rfl (by decide +kernel)
set_option maxRecDepth 100000 in
theorem a_oL3 : ((a_cL.drop 600).take 200).all (a_okb a_Z a_mL) = true := a_wk_ok _ 0 a_mL.2.1.data.toList rfl (by decide +kernel)
set_option maxRecDepth 100000 in
theorem a_oL4 : ((a_cL.drop 800).take 200).all (a_okb a_Z a_mL) = true := a_wk_ok _ 0 a_mL.2.1.data.toList rfl (by decide +kernel)
set_option maxRecDepth 100000 in
theorem a_oLe : (a_cL.drop 1000).all (a_okb a_Z a_mL) = true := a_wk_ok _ 0 a_mL.2.1.data.toList rfl (by decide +kernel)
theorem a_oL : a_cL.all (a_okb a_Z a_mL) = true := (a_stretch _ a_cL 0 200 a_oL0 (a_stretch _ a_cL 200 200 a_oL1 (a_stretch _ a_cL 400 200 a_oL2 (a_stretch _ a_cL 600 200 a_oL3 (a_stretch _ a_cL 800 200 a_oL4 a_oLe)))))
