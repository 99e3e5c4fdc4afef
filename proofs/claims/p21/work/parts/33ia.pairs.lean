section PT33i
/-! ===== v5: methods that leave what is held alike (laid by wip/tools/mk33i.py) ===== -/
theorem n_a28 {X : aX} : n_toldI X 200 a_m28 2 1 false := n_ctxW (n := 1) (m := 0) (b := false) (fun v => z_x10_p n_Wv_p n_h9) rfl rfl rfl (by decide +kernel) (by decide +kernel) rfl rfl (by decide +kernel) (by decide +kernel) (by decide +kernel)
theorem n_a33 {X : aX} : n_toldI X 200 a_m33 2 1 false := n_ctxW (n := 1) (m := 0) (b := false) (fun v => z_x18_p n_Wv_p n_h9) rfl rfl rfl (by decide +kernel) (by decide +kernel) rfl rfl (by decide +kernel) (by decide +kernel) (by decide +kernel)
theorem n_a46 {X : aX} : n_toldI X 200 a_m46 2 1 false := n_ctxW (n := 1) (m := 2) (b := false) (fun v => z_x19_p n_Wv_p n_h9) rfl rfl rfl (by decide +kernel) (by decide +kernel) rfl rfl (by decide +kernel) (by decide +kernel) (by decide +kernel)
theorem n_a47 {X : aX} : n_toldI X 200 a_m47 2 0 false := n_ctxW (n := 0) (m := 2) (b := false) (fun v => z_x21_p n_Wv_p n_h9) rfl rfl rfl (by decide +kernel) (by decide +kernel) rfl rfl (by decide +kernel) (by decide +kernel) (by decide +kernel)
theorem n_a49 {X : aX} : n_toldI X 200 a_m49 2 2 false := n_ctxW (n := 2) (m := 0) (b := false) (fun v => z_x23_p n_Wv_p n_h9) rfl rfl rfl (by decide +kernel) (by decide +kernel) rfl rfl (by decide +kernel) (by decide +kernel) (by decide +kernel)
theorem n_a52 {X : aX} : n_toldI X 200 a_m52 2 1 false := n_ctxW (n := 1) (m := 3) (b := false) (fun v => z_x28_p n_Wv_p n_h9) rfl rfl rfl (by decide +kernel) (by decide +kernel) rfl rfl (by decide +kernel) (by decide +kernel) (by decide +kernel)
theorem n_a54 {X : aX} : n_toldI X 200 a_m54 2 2 false := n_ctxW (n := 2) (m := 0) (b := false) (fun v => z_x30_p n_Wv_p n_h9) rfl rfl rfl (by decide +kernel) (by decide +kernel) rfl rfl (by decide +kernel) (by decide +kernel) (by decide +kernel)
theorem n_a57 {X : aX} : n_told X 200 a_m57 2 2 false := n_ctx0 (n := 2) (m := 1) (b := false) (z_x31_s (y_jx_l y_JA_x)) rfl rfl rfl (by decide +kernel) (by decide +kernel) rfl rfl (by decide +kernel) (by decide +kernel) (by decide +kernel)
theorem n_a58 {X : aX} : n_toldI X 200 a_m58 2 1 false := n_ctxW (n := 1) (m := 2) (b := false) (fun v => z_x32_p n_Wv_p n_h9) rfl rfl rfl (by decide +kernel) (by decide +kernel) rfl rfl (by decide +kernel) (by decide +kernel) (by decide +kernel)
theorem n_a61 {X : aX} : n_told X 200 a_m61 2 3 false := n_ctx0 (n := 3) (m := 0) (b := false) (z_x35_s (y_jx_l y_JA_x)) rfl rfl rfl (by decide +kernel) (by decide +kernel) rfl rfl (by decide +kernel) (by decide +kernel) (by decide +kernel)
theorem n_a66 {X : aX} : n_toldI X 200 a_m66 2 3 false := n_ctxW (n := 3) (m := 3) (b := false) (fun v => z_x37_p n_Wv_p n_h9) rfl rfl rfl (by decide +kernel) (by decide +kernel) rfl rfl (by decide +kernel) (by decide +kernel) (by decide +kernel)
theorem n_a68 {X : aX} : n_toldI X 200 a_m68 2 1 false := n_ctxW (n := 1) (m := 2) (b := false) (fun v => z_x39_p n_Wv_p n_h9) rfl rfl rfl (by decide +kernel) (by decide +kernel) rfl rfl (by decide +kernel) (by decide +kernel) (by decide +kernel)
theorem n_a71 {X : aX} : n_toldI X 200 a_m71 2 1 false := n_ctxW (n := 1) (m := 6) (b := false) (fun v => z_x40_p n_Wv_p n_h9) rfl rfl rfl (by decide +kernel) (by decide +kernel) rfl rfl (by decide +kernel) (by decide +kernel) (by decide +kernel)
theorem n_a92 {X : aX} : n_toldI X 200 a_m92 2 1 false := n_ctxW (n := 1) (m := 0) (b := false) (fun v => z_x463_p n_Wv_p n_h9) rfl rfl rfl (by decide +kernel) (by decide +kernel) rfl rfl (by decide +kernel) (by decide +kernel) (by decide +kernel)
theorem n_a112 {X : aX} : n_toldI X 200 a_m112 2 2 false := n_ctxW (n := 2) (m := 1) (b := false) (fun v => z_x464_p n_Wv_p n_h9) rfl rfl rfl (by decide +kernel) (by decide +kernel) rfl rfl (by decide +kernel) (by decide +kernel) (by decide +kernel)
theorem n_a113 {X : aX} : n_toldI X 200 a_m113 2 2 false := n_ctxW (n := 2) (m := 0) (b := false) (fun v => z_x465_p n_Wv_p n_h9) rfl rfl rfl (by decide +kernel) (by decide +kernel) rfl rfl (by decide +kernel) (by decide +kernel) (by decide +kernel)
theorem n_a114 {X : aX} : n_toldI X 200 a_m114 2 1 false := n_ctxW (n := 1) (m := 3) (b := false) (fun v => z_x466_p n_Wv_p n_h9) rfl rfl rfl (by decide +kernel) (by decide +kernel) rfl rfl (by decide +kernel) (by decide +kernel) (by decide +kernel)
theorem n_a115 {X : aX} : n_told X 200 a_m115 2 4 false := n_ctx0 (n := 4) (m := 1) (b := false) (z_x469_s (y_jx_l y_JA_x)) rfl rfl rfl (by decide +kernel) (by decide +kernel) rfl rfl (by decide +kernel) (by decide +kernel) (by decide +kernel)
theorem n_a128 {X : aX} : n_toldI X 200 a_m128 2 2 false := n_ctxW (n := 2) (m := 1) (b := false) (fun v => z_x491_p n_Wv_p n_h9) rfl rfl rfl (by decide +kernel) (by decide +kernel) rfl rfl (by decide +kernel) (by decide +kernel) (by decide +kernel)
theorem n_a137 {X : aX} : n_toldI X 200 a_m137 2 2 false := n_ctxW (n := 2) (m := 4) (b := false) (fun v => z_x493_p n_Wv_p n_h9) rfl rfl rfl (by decide +kernel) (by decide +kernel) rfl rfl (by decide +kernel) (by decide +kernel) (by decide +kernel)
theorem n_a139 {X : aX} : n_toldI X 200 a_m139 2 2 false := n_ctxW (n := 2) (m := 5) (b := false) (fun v => z_x496_p n_Wv_p n_h9) rfl rfl rfl (by decide +kernel) (by decide +kernel) rfl rfl (by decide +kernel) (by decide +kernel) (by decide +kernel)
theorem n_a143 {X : aX} : n_told X 200 a_m143 2 4 false := n_ctx0 (n := 4) (m := 0) (b := false) (z_x497_s (y_jx_l y_JA_x)) rfl rfl rfl (by decide +kernel) (by decide +kernel) rfl rfl (by decide +kernel) (by decide +kernel) (by decide +kernel)
theorem n_a145 {X : aX} : n_told X 200 a_m145 2 2 false := n_ctx0 (n := 2) (m := 3) (b := false) (z_x498_s (y_jx_l y_JA_x)) rfl rfl rfl (by decide +kernel) (by decide +kernel) rfl rfl (by decide +kernel) (by decide +kernel) (by decide +kernel)
theorem n_a146 {X : aX} : n_toldI X 200 a_m146 2 3 false := n_ctxW (n := 3) (m := 9) (b := false) (fun v => z_x500_p n_Wv_p n_h9) rfl rfl rfl (by decide +kernel) (by decide +kernel) rfl rfl (by decide +kernel) (by decide +kernel) (by decide +kernel)
theorem n_a149 {X : aX} : n_told X 200 a_m149 2 5 false := n_ctx0 (n := 5) (m := 2) (b := false) (z_x501_s (y_jx_l y_JA_x)) rfl rfl rfl (by decide +kernel) (by decide +kernel) rfl rfl (by decide +kernel) (by decide +kernel) (by decide +kernel)
theorem n_a153 {X : aX} : n_told X 200 a_m153 2 2 false := n_ctx0 (n := 2) (m := 0) (b := false) (z_x502_s (y_jx_l y_JA_x)) rfl rfl rfl (by decide +kernel) (by decide +kernel) rfl rfl (by decide +kernel) (by decide +kernel) (by decide +kernel)
theorem n_a156 {X : aX} : n_told X 200 a_m156 2 2 false := n_ctx0 (n := 2) (m := 3) (b := false) (z_x503_s (y_jx_l y_JA_x)) rfl rfl rfl (by decide +kernel) (by decide +kernel) rfl rfl (by decide +kernel) (by decide +kernel) (by decide +kernel)
theorem n_a159 {X : aX} : n_told X 200 a_m159 2 1 false := n_ctx0 (n := 1) (m := 2) (b := false) (z_x507_s (y_jx_l y_JA_x)) rfl rfl rfl (by decide +kernel) (by decide +kernel) rfl rfl (by decide +kernel) (by decide +kernel) (by decide +kernel)
theorem n_a162 {X : aX} : n_told X 200 a_m162 2 1 false := n_ctx0 (n := 1) (m := 5) (b := false) (z_x508_s (y_jx_l y_JA_x)) rfl rfl rfl (by decide +kernel) (by decide +kernel) rfl rfl (by decide +kernel) (by decide +kernel) (by decide +kernel)
theorem n_a168 {X : aX} : n_told X 200 a_m168 2 1 false := n_ctx0 (n := 1) (m := 0) (b := false) (z_x511_s (y_jx_l y_JA_x)) rfl rfl rfl (by decide +kernel) (by decide +kernel) rfl rfl (by decide +kernel) (by decide +kernel) (by decide +kernel)
theorem n_a183 {X : aX} : n_told X 200 a_m183 155 1 false := by
  intro us h C S K0 hl hb hI hk
  obtain ⟨hr, ⟨hJ, hS, hC⟩, hday⟩ := hI
  match us, hl with
  | [u0], _ => exact p_weight hr hJ (fun r H hf => hk r H ⟨hf.1, ⟨(y_J_fr hf rfl rfl hJ), (j_say_e hf rfl rfl hS), (j_cost_e hf rfl rfl hC)⟩, t_day_fr hf rfl hday⟩ (n_fk_c (ex := []) hf rfl) (n_fk_m hf rfl))
theorem n_a187 {X : aX} : n_told X 200 a_m187 155 1 false := by
  intro us h C S K0 hl hb hI hk
  obtain ⟨hr, ⟨hJ, hS, hC⟩, hday⟩ := hI
  match us, hl with
  | [u0], _ => exact p_chance hr hJ (fun r H hf q0 => hk r H ⟨hf.1, ⟨q0, (j_say_e hf rfl rfl hS), (j_cost_e hf rfl rfl hC)⟩, t_day_fr hf rfl hday⟩ (n_fk_c (ex := []) hf rfl) (n_fk_m hf rfl))
theorem n_a198 {X : aX} : n_told X 200 a_m198 155 1 false := by
  intro us h C S K0 hl hb hI hk
  obtain ⟨hr, ⟨hJ, hS, hC⟩, hday⟩ := hI
  match us, hl with
  | [u0], _ => exact p_odds hr hJ (fun r H hf q0 => hk r H ⟨hf.1, ⟨q0, (j_say_e hf rfl rfl hS), (j_cost_e hf rfl rfl hC)⟩, t_day_fr hf rfl hday⟩ (n_fk_c (ex := []) hf rfl) (n_fk_m hf rfl))
theorem n_a199 {X : aX} : n_told X 200 a_m199 155 0 false := by
  intro us h C S K0 hl hb hI hk
  obtain ⟨hr, ⟨hJ, hS, hC⟩, hday⟩ := hI
  match us, hl with
  | [], _ => exact p_likely hr hJ (fun r H hf q0 => hk r H ⟨hf.1, ⟨q0, (j_say_e hf rfl rfl hS), (j_cost_e hf rfl rfl hC)⟩, t_day_fr hf rfl hday⟩ (n_fk_c (ex := []) hf rfl) (n_fk_m hf rfl))
theorem n_a200 {X : aX} : n_told X 200 a_m200 155 2 false := by
  intro us h C S K0 hl hb hI hk
  obtain ⟨hr, ⟨hJ, hS, hC⟩, hday⟩ := hI
  match us, hl with
  | [u0, u1], _ => exact p_moves hr hJ (fun r H hf q0 => hk r H ⟨hf.1, ⟨q0, (j_say_e hf rfl rfl hS), (j_cost_e hf rfl rfl hC)⟩, t_day_fr hf rfl hday⟩ (n_fk_c (ex := []) hf rfl) (n_fk_m hf rfl))
theorem n_a202 {X : aX} : n_told X 200 a_m202 155 1 false := by
  intro us h C S K0 hl hb hI hk
  obtain ⟨hr, ⟨hJ, hS, hC⟩, hday⟩ := hI
  match us, hl with
  | [u0], _ => exact p_most hr hJ (fun r H hf q0 => hk r H ⟨hf.1, ⟨q0, (j_say_e hf rfl rfl hS), (j_cost_e hf rfl rfl hC)⟩, t_day_fr hf rfl hday⟩ (n_fk_c (ex := []) hf rfl) (n_fk_m hf rfl))
theorem n_a204 {X : aX} : n_told X 200 a_m204 155 2 false := by
  intro us h C S K0 hl hb hI hk
  obtain ⟨hr, ⟨hJ, hS, hC⟩, hday⟩ := hI
  match us, hl with
  | [u0, u1], _ => exact p_worth hr hJ (fun r H hf q0 => hk r H ⟨hf.1, ⟨q0, (j_say_e hf rfl rfl hS), (j_cost_e hf rfl rfl hC)⟩, t_day_fr hf rfl hday⟩ (n_fk_c (ex := []) hf rfl) (n_fk_m hf rfl))
theorem n_a206 {X : aX} : n_told X 200 a_m206 155 2 false := by
  intro us h C S K0 hl hb hI hk
  obtain ⟨hr, ⟨hJ, hS, hC⟩, hday⟩ := hI
  match us, hl with
  | [u0, u1], _ => exact p_cost hr hJ hC (fun r H hf q0 => hk r H ⟨hf.1, ⟨(t_J161 hf hJ), (j_say_e hf rfl rfl hS), q0⟩, t_day_fr hf rfl hday⟩ (n_fk_c (ex := []) hf rfl) (n_fk_m hf rfl))
theorem n_a207 {X : aX} : n_told X 200 a_m207 155 1 false := by
  intro us h C S K0 hl hb hI hk
  obtain ⟨hr, ⟨hJ, hS, hC⟩, hday⟩ := hI
  match us, hl with
  | [u0], _ => exact p_need hr hJ hC (fun r H hf q0 => hk r H ⟨hf.1, ⟨q0, (j_say_e hf rfl rfl hS), (j_cost_e hf rfl rfl hC)⟩, t_day_fr hf rfl hday⟩ (n_fk_c (ex := []) hf rfl) (n_fk_m hf rfl))
theorem n_a208 {X : aX} : n_told X 200 a_m208 155 3 false := by
  intro us h C S K0 hl hb hI hk
  obtain ⟨hr, ⟨hJ, hS, hC⟩, hday⟩ := hI
  match us, hl with
  | [u0, u1, u2], _ => exact p_apart hr hJ (fun r H hf q0 => hk r H ⟨hf.1, ⟨q0, (j_say_e hf rfl rfl hS), (j_cost_e hf rfl rfl hC)⟩, t_day_fr hf rfl hday⟩ (n_fk_c (ex := []) hf rfl) (n_fk_m hf rfl))
theorem n_a213 {X : aX} : n_told X 200 a_m213 155 3 false := by
  intro us h C S K0 hl hb hI hk
  obtain ⟨hr, ⟨hJ, hS, hC⟩, hday⟩ := hI
  match us, hl with
  | [u0, u1, u2], _ => exact p_even hr hJ (fun r H hf q0 => hk r H ⟨hf.1, ⟨q0, (j_say_e hf rfl rfl hS), (j_cost_e hf rfl rfl hC)⟩, t_day_fr hf rfl hday⟩ (n_fk_c (ex := []) hf rfl) (n_fk_m hf rfl))
theorem n_a214 {X : aX} : n_told X 200 a_m214 155 1 false := by
  intro us h C S K0 hl hb hI hk
  obtain ⟨hr, ⟨hJ, hS, hC⟩, hday⟩ := hI
  match us, hl with
  | [u0], _ => exact p_joined hr hJ (fun r H hf q0 => hk r H ⟨hf.1, ⟨q0, (j_say_e hf rfl rfl hS), (j_cost_e hf rfl rfl hC)⟩, t_day_fr hf rfl hday⟩ (n_fk_c (ex := []) hf rfl) (n_fk_m hf rfl))
theorem n_a217 {X : aX} : n_told X 200 a_m217 155 1 false := by
  intro us h C S K0 hl hb hI hk
  obtain ⟨hr, ⟨hJ, hS, hC⟩, hday⟩ := hI
  match us, hl with
  | [u0], _ => exact p_bounds hr hJ (fun r H hf q0 => hk r H ⟨hf.1, ⟨q0, (j_say_e hf rfl rfl hS), (j_cost_e hf rfl rfl hC)⟩, t_day_fr hf rfl hday⟩ (n_fk_c (ex := []) hf rfl) (n_fk_m hf rfl))
theorem n_a233 {X : aX} : n_told X 200 a_m233 155 1 false := by
  intro us h C S K0 hl hb hI hk
  obtain ⟨hr, ⟨hJ, hS, hC⟩, hday⟩ := hI
  match us, hl with
  | [u0], _ => exact p_so hr hJ hS (fun r H hf q0 q1 => hk r H ⟨hf.1, ⟨q0, q1, (j_cost_e hf rfl rfl hC)⟩, t_day_fr hf rfl hday⟩ (n_fk_c (ex := []) hf rfl) (n_fk_m hf rfl))
theorem n_a246 {X : aX} : n_told X 200 a_m246 155 2 false := by
  intro us h C S K0 hl hb hI hk
  obtain ⟨hr, ⟨hJ, hS, hC⟩, hday⟩ := hI
  match us, hl with
  | [u0, u1], _ => exact p_term hr hJ hS (fun r H hf q0 q1 => hk r H ⟨hf.1, ⟨q0, q1, (j_cost_e hf rfl rfl hC)⟩, t_day_fr hf rfl hday⟩ (n_fk_c (ex := []) hf rfl) (n_fk_m hf rfl))
theorem n_a247 {X : aX} : n_told X 200 a_m247 155 2 false := by
  intro us h C S K0 hl hb hI hk
  obtain ⟨hr, ⟨hJ, hS, hC⟩, hday⟩ := hI
  match us, hl with
  | [u0, u1], _ => exact p_slip hr hJ hS (fun r H hf q0 q1 => hk r H ⟨hf.1, ⟨q0, q1, (j_cost_e hf rfl rfl hC)⟩, t_day_fr hf rfl hday⟩ (n_fk_c (ex := []) hf rfl) (n_fk_m hf rfl))
theorem n_a248 {X : aX} : n_told X 200 a_m248 155 1 false := by
  intro us h C S K0 hl hb hI hk
  obtain ⟨hr, ⟨hJ, hS, hC⟩, hday⟩ := hI
  match us, hl with
  | [u0], _ => exact p_which hr hJ hS (fun r H hf q0 q1 => hk r H ⟨hf.1, ⟨q0, q1, (j_cost_e hf rfl rfl hC)⟩, t_day_fr hf rfl hday⟩ (n_fk_c (ex := []) hf rfl) (n_fk_m hf rfl))
theorem n_a249 {X : aX} : n_told X 200 a_m249 155 4 false := by
  intro us h C S K0 hl hb hI hk
  obtain ⟨hr, ⟨hJ, hS, hC⟩, hday⟩ := hI
  match us, hl with
  | [u0, u1, u2, u3], _ => exact p_span hr hJ (fun r H hf q0 => hk r H ⟨hf.1, ⟨q0, (j_say_e hf rfl rfl hS), (j_cost_e hf rfl rfl hC)⟩, t_day_fr hf rfl hday⟩ (n_fk_c (ex := []) hf rfl) (n_fk_m hf rfl))
theorem n_a256 {X : aX} : n_told X 200 a_m256 155 2 false := by
  intro us h C S K0 hl hb hI hk
  obtain ⟨hr, ⟨hJ, hS, hC⟩, hday⟩ := hI
  match us, hl with
  | [u0, u1], _ => exact p_hear hr hJ (fun r H hf q0 => hk r H ⟨hf.1, ⟨q0, (j_say_e hf rfl rfl hS), (j_cost_e hf rfl rfl hC)⟩, t_day_fr hf rfl hday⟩ (n_fk_c (ex := []) hf rfl) (n_fk_m hf rfl))
theorem n_a262 {X : aX} : n_told X 200 a_m262 155 2 false := by
  intro us h C S K0 hl hb hI hk
  obtain ⟨hr, ⟨hJ, hS, hC⟩, hday⟩ := hI
  match us, hl with
  | [u0, u1], _ => exact p_errs hr hJ (fun r H hf q0 => hk r H ⟨hf.1, ⟨q0, (j_say_e hf rfl rfl hS), (j_cost_e hf rfl rfl hC)⟩, t_day_fr hf rfl hday⟩ (n_fk_c (ex := []) hf rfl) (n_fk_m hf rfl))
theorem n_a263 {X : aX} : n_told X 200 a_m263 155 2 false := by
  intro us h C S K0 hl hb hI hk
  obtain ⟨hr, ⟨hJ, hS, hC⟩, hday⟩ := hI
  match us, hl with
  | [u0, u1], _ => exact p_order hr hJ (fun r H hf q0 => hk r H ⟨hf.1, ⟨q0, (j_say_e hf rfl rfl hS), (j_cost_e hf rfl rfl hC)⟩, t_day_fr hf rfl hday⟩ (n_fk_c (ex := []) hf rfl) (n_fk_m hf rfl))
theorem n_a265 {X : aX} : n_told X 200 a_m265 155 4 false := by
  intro us h C S K0 hl hb hI hk
  obtain ⟨hr, ⟨hJ, hS, hC⟩, hday⟩ := hI
  match us, hl with
  | [u0, u1, u2, u3], _ => exact p_list hr (fun r H hf => hk r H ⟨hf.1, ⟨(y_J_fr hf rfl rfl hJ), (j_say_e hf rfl rfl hS), (j_cost_e hf rfl rfl hC)⟩, t_day_fr hf rfl hday⟩ (n_fk_c (ex := []) hf rfl) (n_fk_m hf rfl))
theorem n_a267 {X : aX} : n_told X 200 a_m267 155 2 false := by
  intro us h C S K0 hl hb hI hk
  obtain ⟨hr, ⟨hJ, hS, hC⟩, hday⟩ := hI
  match us, hl with
  | [u0, u1], _ => exact p_many hr (fun H hf => hk _ H ⟨hf.1, ⟨(y_J_fr hf rfl rfl hJ), (j_say_e hf rfl rfl hS), (j_cost_e hf rfl rfl hC)⟩, t_day_fr hf rfl hday⟩ (n_fk_c (ex := []) hf rfl) (n_fk_m hf rfl))
theorem n_a268 {X : aX} : n_told X 200 a_m268 155 3 false := by
  intro us h C S K0 hl hb hI hk
  obtain ⟨hr, ⟨hJ, hS, hC⟩, hday⟩ := hI
  match us, hl with
  | [u0, u1, u2], _ => exact p_test hr hJ (fun r H hf q0 => hk r H ⟨hf.1, ⟨q0, (j_say_e hf rfl rfl hS), (j_cost_e hf rfl rfl hC)⟩, t_day_fr hf rfl hday⟩ (n_fk_c (ex := []) hf rfl) (n_fk_m hf rfl))
theorem n_a270 {X : aX} : n_told X 200 a_m270 155 5 false := by
  intro us h C S K0 hl hb hI hk
  obtain ⟨hr, ⟨hJ, hS, hC⟩, hday⟩ := hI
  match us, hl with
  | [u0, u1, u2, u3, u4], _ => exact p_land hr hJ (fun r H hf q0 => hk r H ⟨hf.1, ⟨q0, (j_say_e hf rfl rfl hS), (j_cost_e hf rfl rfl hC)⟩, t_day_fr hf rfl hday⟩ (n_fk_c (ex := []) hf rfl) (n_fk_m hf rfl))
theorem n_a271 {X : aX} : n_told X 200 a_m271 155 2 false := by
  intro us h C S K0 hl hb hI hk
  obtain ⟨hr, ⟨hJ, hS, hC⟩, hday⟩ := hI
  match us, hl with
  | [u0, u1], _ => exact p_mark hr hJ (fun r H hf q0 => hk r H ⟨hf.1, ⟨q0, (j_say_e hf rfl rfl hS), (j_cost_e hf rfl rfl hC)⟩, t_day_fr hf rfl hday⟩ (n_fk_c (ex := []) hf rfl) (n_fk_m hf rfl))
theorem n_a272 {X : aX} : n_told X 200 a_m272 155 2 false := by
  intro us h C S K0 hl hb hI hk
  obtain ⟨hr, ⟨hJ, hS, hC⟩, hday⟩ := hI
  match us, hl with
  | [u0, u1], _ => exact p_rare hr hJ (fun r H hf => hk r H ⟨hf.1, ⟨(y_J_fr hf rfl rfl hJ), (j_say_e hf rfl rfl hS), (j_cost_e hf rfl rfl hC)⟩, t_day_fr hf rfl hday⟩ (n_fk_c (ex := []) hf rfl) (n_fk_m hf rfl))
theorem n_a274 {X : aX} : n_told X 200 a_m274 155 1 false := by
  intro us h C S K0 hl hb hI hk
  obtain ⟨hr, ⟨hJ, hS, hC⟩, hday⟩ := hI
  match us, hl with
  | [u0], _ => exact p_shifts hr (fun r H hf => hk r H ⟨hf.1, ⟨(y_J_fr hf rfl rfl hJ), (j_say_e hf rfl rfl hS), (j_cost_e hf rfl rfl hC)⟩, t_day_fr hf rfl hday⟩ (n_fk_c (ex := []) hf rfl) (n_fk_m hf rfl))
theorem n_a278 {X : aX} : n_told X 200 a_m278 155 1 false := by
  intro us h C S K0 hl hb hI hk
  obtain ⟨hr, ⟨hJ, hS, hC⟩, hday⟩ := hI
  match us, hl with
  | [u0], _ => exact p_enough hr (fun r H hf => hk r H ⟨hf.1, ⟨(y_J_fr hf rfl rfl hJ), (j_say_e hf rfl rfl hS), (j_cost_e hf rfl rfl hC)⟩, t_day_fr hf rfl hday⟩ (n_fk_c (ex := []) hf rfl) (n_fk_m hf rfl))
theorem n_a281 {X : aX} : n_told X 200 a_m281 155 1 false := by
  intro us h C S K0 hl hb hI hk
  obtain ⟨hr, ⟨hJ, hS, hC⟩, hday⟩ := hI
  match us, hl with
  | [u0], _ => exact p_count hr hJ (fun r H hf => hk r H ⟨hf.1, ⟨(y_J_fr hf rfl rfl hJ), (j_say_e hf rfl rfl hS), (j_cost_e hf rfl rfl hC)⟩, t_day_fr hf rfl hday⟩ (n_fk_c (ex := []) hf rfl) (n_fk_m hf rfl))
theorem n_a283 {X : aX} : n_told X 200 a_m283 155 2 false := by
  intro us h C S K0 hl hb hI hk
  obtain ⟨hr, ⟨hJ, hS, hC⟩, hday⟩ := hI
  match us, hl with
  | [u0, u1], _ => exact p_of hr hJ (fun r H hf => hk r H ⟨hf.1, ⟨(y_J_fr hf rfl rfl hJ), (j_say_e hf rfl rfl hS), (j_cost_e hf rfl rfl hC)⟩, t_day_fr hf rfl hday⟩ (n_fk_c (ex := []) hf rfl) (n_fk_m hf rfl))
theorem n_a287 {X : aX} : n_toldL X 200 a_m287 155 1 false := by
  intro us h C S K0 hl hb hI hk
  obtain ⟨hr, ⟨hJ, hS, hC⟩, hday⟩ := hI
  match us, hl with
  | [u0], _ => exact p_row hr (fun r H hf => hk r H ⟨hf.1, ⟨(y_J_fr hf rfl rfl hJ), (j_say_e hf rfl rfl hS), (j_cost_e hf rfl rfl hC)⟩, t_day_fr hf rfl hday⟩ (n_fk_c (ex := []) hf rfl) (n_fk_m hf rfl))
theorem n_I_out {h H : aH} (e : y_fr h H [] [195]) (q : n_I h) : n_I H := n_same_I (n_fk_c (ex := []) e rfl) (n_fk_m e rfl) (t_I_out e q.1) q
theorem n_I_app {H l : aH} (q : n_I H) : n_I (H ++ l) := by
  have hr := q.1.1
  have hlen : 195 < H.length := by
    obtain ⟨e, h1, -⟩ := hr.1 195 _ rfl
    exact (List.getElem?_eq_some_iff.mp h1).1
  have hg : ∀ o, o < 196 → (H ++ l)[o]? = H[o]? := fun o ho => List.getElem?_append_left (by omega)
  have hf : ∀ k, k < 196 * 128 → w_f (H ++ l) k = w_f H k := by
    intro k hk
    unfold w_f
    rw [hg _ (by omega)]
  have ha : ∀ o, o < 196 → w_a (H ++ l) o = w_a H o := by
    intro o ho
    unfold w_a
    rw [hg _ ho]
  refine n_same_I ⟨fun k hk => hf k ?_, fun o ho => ha o ?_⟩ ⟨fun p hp => hf p.2 ?_, fun o ho => ha o ?_, hf 19600 (by decide)⟩ (t_I_app q.1) q
  · have : ∀ k ∈ nC, k < 196 * 128 := by decide
    exact this k hk
  · have : ∀ o ∈ nCA, o < 196 := by decide
    exact this o ho
  · have : ∀ p ∈ nM, p.2 < 196 * 128 := by decide
    exact this p hp
  · have : ∀ o ∈ nMA, o < 196 := by decide
    exact this o ho
theorem n_S169 {X : aX} : n_S X n_I 169 2 := by
  refine ⟨a_m169, rfl, rfl, rfl, fun us h C S K0 hl hI hk => ?_⟩
  match us, hl with
  | [a, b], _ =>
    have T8 : ∀ {G : aH} {r : Int32}, y_fr h G [] [] → aOK s_P X 201 a_m169 8 [some (.ref 2), some (.int a), some (.int b), some (.ref 197), none] [.int r, .int (Int32.ofInt 0), .ref 197] G C S K0 := by
      intro G r e
      refine w_go z_hl [] [] 30 e.1 ?_
      exact ⟨⟨by decide, by decide⟩, y_l64 _, fun l hl len bb => fun H hH => hk _ H C S (n_I_out (y_st (y_mo e rfl rfl) hH (by repeat (first | exact w_nil | refine w_cons (Or.inl (y_m rfl)) ?_ | refine w_cons (Or.inr (by assumption)) ?_)) (by repeat (first | exact w_nil | refine w_cons (Or.inl (y_m rfl)) ?_ | refine w_cons (Or.inr (by assumption)) ?_))) hI) (by omega) (by omega)⟩
    show aOK s_P X 201 a_m169 0 [some (.ref 2), some (.int a), some (.int b), some (.ref 197), none] [] h C S K0
    refine aOK_op rfl rfl ?_
    refine aOK_op rfl rfl ?_
    refine aOK_op rfl rfl ?_
    refine aOK_op rfl rfl ?_
    refine aOK_op rfl rfl ?_
    have hinv : a_inv s_P (.invokevirtual 7) (18, 170, 11, 1305159) [.int b, .int a, .ref 2, .int (Int32.ofInt 0), .ref 197] h = some (a_m170, [.ref 2, .int a, .int b], [.int (Int32.ofInt 0), .ref 197]) := by
      have hrc := l_recv hI.1.1 (r0 := 2) (ci := 11) rfl
      show (if a_recv h (.ref 2) 11 = true ∧ _ ∧ _ then some _ else none) = _
      rw [if_pos ⟨hrc, Nat.le_of_ble_eq_true rfl, Nat.le_of_ble_eq_true rfl⟩]
      rfl
    refine aOK_call rfl (by cases X <;> rfl) rfl hinv ?_
    show aOK s_P X (198 + 2) a_m170 0 [some (.ref 2), some (.int a), some (.int b)] [] h C S _
    refine c_of hI.1.1 (fun r H e => Or.inr ⟨fun n q => (by cases q), ?_⟩) (fun H e => Or.inl ⟨⟨0, rfl⟩, rfl, hk _ _ _ _ (n_I_app (n_I_out (y_mo e rfl rfl) hI)) (by omega) (by omega)⟩)
    exact T8 e
theorem n_S171 {X : aX} : n_S X n_I 171 1 := by
  refine ⟨a_m171, rfl, rfl, rfl, fun us h C S K0 hl hI hk => ?_⟩
  match us, hl with
  | [a], _ =>
    have T7 : ∀ {G : aH} {r : Int64}, y_fr h G [] [] → aOK s_P X 201 a_m171 7 [some (.ref 2), some (.int a), some (.ref 197), none] [.long r, .int (Int32.ofInt 0), .ref 197] G C S K0 := by
      intro G r e
      refine w_go z_hl [] [] 30 e.1 ?_
      exact ⟨⟨by decide, by decide⟩, y_l64 _, fun l hl len bb => fun H hH => hk _ H C S (n_I_out (y_st (y_mo e rfl rfl) hH (by repeat (first | exact w_nil | refine w_cons (Or.inl (y_m rfl)) ?_ | refine w_cons (Or.inr (by assumption)) ?_)) (by repeat (first | exact w_nil | refine w_cons (Or.inl (y_m rfl)) ?_ | refine w_cons (Or.inr (by assumption)) ?_))) hI) (by omega) (by omega)⟩
    show aOK s_P X 201 a_m171 0 [some (.ref 2), some (.int a), some (.ref 197), none] [] h C S K0
    refine aOK_op rfl rfl ?_
    refine aOK_op rfl rfl ?_
    refine aOK_op rfl rfl ?_
    refine aOK_op rfl rfl ?_
    have hinv : a_inv s_P (.invokevirtual 15) (18, 172, 11, 1105233) [.int a, .ref 2, .int (Int32.ofInt 0), .ref 197] h = some (a_m172, [.ref 2, .int a], [.int (Int32.ofInt 0), .ref 197]) := by
      have hrc := l_recv hI.1.1 (r0 := 2) (ci := 11) rfl
      show (if a_recv h (.ref 2) 11 = true ∧ _ ∧ _ then some _ else none) = _
      rw [if_pos ⟨hrc, Nat.le_of_ble_eq_true rfl, Nat.le_of_ble_eq_true rfl⟩]
      rfl
    refine aOK_call rfl (by cases X <;> rfl) rfl hinv ?_
    show aOK s_P X 200 a_m172 0 [some (.ref 2), some (.int a)] [] h C S _
    refine c_row hI.1.1 (fun r H e => Or.inr ⟨fun n q => (by cases q), ?_⟩) (fun H e => Or.inl ⟨⟨0, rfl⟩, rfl, hk _ _ _ _ (n_I_app (n_I_out (y_mo e rfl rfl) hI)) (by omega) (by omega)⟩)
    exact T7 e
noncomputable def n_st (j : Nat) (us : List Int32) (v : Nat → Int32) : (Nat → Int32) × Int32 := if j = 17 then n_s17 us v else if j = 12 then n_s12 us v else if j = 21 then n_s21 us v else if j = 24 then n_s24 us v else if j = 74 then n_s74 us v else if j = 76 then n_s76 us v else if j = 77 then n_s77 us v else if j = 127 then n_s127 us v else if j = 157 then n_s157 us v else if j = 159 then n_s159 us v else if j = 163 then n_s163 us v else n_s165 us v
def n_Md (j : Nat) (us : List Int32) (g : Int32) (H : aH) : Prop := t_I H ∧ ∃ v, n_cV H (n_st j us v).1 ∧ n_mV H v ∧ (j ≠ 77 → g = (n_st j us v).2)
section NL
variable {X : aX} {j n ty kd pr : Nat} {b : Bool} {M : aM}
theorem n_of1 {r0 : Nat} (h : n_told X 200 M r0 n b) (hM : s_P[j]? = some M) (ha : M.2.2.2.2.1 = n) (hl : Nat.ble (n + 1) M.2.2.1 = true) : n_G X n_I n_Md (j, r0, n, b, 1, 0, 0) :=
  ⟨M, hM, ha, hl, fun us h0 C S K0 h1 h2 h3 => h us h0 C S K0 h1 h2 h3.1.1 (fun x H hI c m => h3.2 _ H (n_same_I c m hI h3.1) (Or.inr ⟨(show (1 : Nat) ≠ 2 by decide), x, rfl⟩))⟩
theorem n_of1I {r0 : Nat} (h : n_toldI X 200 M r0 n b) (hM : s_P[j]? = some M) (ha : M.2.2.2.2.1 = n) (hl : Nat.ble (n + 1) M.2.2.1 = true) : n_G X n_I n_Md (j, r0, n, b, 1, 0, 0) :=
  ⟨M, hM, ha, hl, fun us h0 C S K0 h1 h2 h3 => h us h0 C S K0 h1 h2 h3.1 (fun x H hI => h3.2 _ H hI (Or.inr ⟨(show (1 : Nat) ≠ 2 by decide), x, rfl⟩))⟩
theorem n_of2 {r0 : Nat} (h : n_toldL X 200 M r0 n b) (hM : s_P[j]? = some M) (ha : M.2.2.2.2.1 = n) (hl : Nat.ble (n + 1) M.2.2.1 = true) : n_G X n_I n_Md (j, r0, n, b, 2, 0, 0) :=
  ⟨M, hM, ha, hl, fun us h0 C S K0 h1 h2 h3 => h us h0 C S K0 h1 h2 h3.1.1 (fun x H hI c m => h3.2 _ H (n_same_I c m hI h3.1) (Or.inl ⟨rfl, x, rfl⟩))⟩
theorem n_ofc (h : n_pc X M n b (n_st j)) (hM : s_P[j]? = some M) (ha : M.2.2.2.2.1 = n) (hl : Nat.ble (n + 1) M.2.2.1 = true) : n_G X n_I n_Md (j, 2, n, b, ty, 1, 0) :=
  ⟨M, hM, ha, hl, fun us h0 C S K0 h1 h2 h3 => by
    obtain ⟨⟨hI, v, c, m⟩, hk⟩ := h3
    exact h us h0 v C S K0 h1 h2 hI c m (fun H i1 c1 m1 => hk _ H ⟨i1, v, c1, m1, fun _ => rfl⟩)⟩
theorem n_ofr {j' : Nat} (hj : j ≠ 77) (h : n_pr X M n b (n_st j)) (hM : s_P[j']? = some M) (ha : M.2.2.2.2.1 = n) (hl : Nat.ble (n + 1) M.2.2.1 = true) : n_G X n_I n_Md (j', 155, n, b, ty, 2, j) :=
  ⟨M, hM, ha, hl, fun us h0 C S K0 h1 h2 h3 => by
    obtain ⟨g, ⟨hI, v, c, m, hg⟩, hk⟩ := h3
    exact h us h0 _ v C S K0 h1 h2 hI c m (fun H i1 c1 m1 => hk _ H ⟨i1, _, c1, m1⟩ (fun _ => (hg hj).symm))⟩
theorem n_ofcS (h : n_pcS X M n b n_s77) (hM : s_P[77]? = some M) (ha : M.2.2.2.2.1 = n) (hl : Nat.ble (n + 1) M.2.2.1 = true) : n_G X n_I n_Md (77, 2, n, b, 1, 1, 0) :=
  ⟨M, hM, ha, hl, fun us h0 C S K0 h1 h2 h3 => by
    obtain ⟨⟨hI, v, c, m⟩, hk⟩ := h3
    exact h us h0 v C S K0 h1 h2 hI c m (fun x H i1 c1 m1 => hk x H ⟨i1, v, c1, m1, fun q => absurd rfl q⟩)⟩
theorem n_ofrS {j' : Nat} (h : n_prS X M n b n_s77) (hM : s_P[j']? = some M) (ha : M.2.2.2.2.1 = n) (hl : Nat.ble (n + 1) M.2.2.1 = true) : n_G X n_I n_Md (j', 155, n, b, 1, 2, 77) :=
  ⟨M, hM, ha, hl, fun us h0 C S K0 h1 h2 h3 => by
    obtain ⟨g, ⟨hI, v, c, m, -⟩, hk⟩ := h3
    exact h us h0 _ v C S K0 h1 h2 hI c m (fun x H i1 c1 m1 => hk x H ⟨i1, _, c1, m1⟩ (fun q => absurd (show (1 : Nat) = 3 from q) (by decide)))⟩
end NL
end PT33i
section PT33iba
/-! ===== v12: two systems at once: a run that ends so and so ends so (laid by wip/tools/mk12a.py) ===== -/
theorem aOK_and {P : List aM} {X : aX} {d : Nat} {M : aM} {pc : Nat} {ls : aL} {st : List Value} {h : aH} {C S : Nat} {K1 K2 : Option Value → aH → Nat → Nat → Prop} (q1 : aOK P X d M pc ls st h C S K1) (q2 : aOK P X d M pc ls st h C S K2) : aOK P X d M pc ls st h C S (fun v H C' S' => K1 v H C' S' ∧ K2 v H C' S') := by
  obtain ⟨f1, v1, h1, c1, s1, e1, k1⟩ := q1
  obtain ⟨f2, v2, h2, c2, s2, e2, k2⟩ := q2
  have m1 := aexec_mono (Nat.le_max_left f1 f2) e1
  have m2 := aexec_mono (Nat.le_max_right f1 f2) e2
  rw [m1] at m2
  injection m2 with m2
  injection m2 with a1 m2
  injection m2 with a2 m2
  injection m2 with a3 a4
  subst a1
  subst a2
  subst a3
  subst a4
  exact ⟨max f1 f2, v1, h1, c1, s1, m1, k1, k2⟩
section NPD
variable {X : aX} {I1 I2 : aH → Prop} {M1 M2 M3 : Nat → List Int32 → Int32 → aH → Prop} {j r0 n ty pr : Nat} {b : Bool}
theorem n_G_and0 (g1 : n_G X I1 M1 (j, r0, n, b, ty, 0, 0)) (g2 : n_G X I2 M2 (j, r0, n, b, ty, 0, 0)) : n_G X (fun h => I1 h ∧ I2 h) M3 (j, r0, n, b, ty, 0, 0) := by
  obtain ⟨M, a1, a2, a3, a4⟩ := g1
  obtain ⟨M', b1, b2, b3, b4⟩ := g2
  have eM : M = M' := Option.some.inj (a1.symm.trans b1)
  subst eM
  refine ⟨M, a1, a2, a3, fun us h C S K0 hl hb hk => ?_⟩
  have q1 := a4 us h C S (fun w H C' S' => C' = C ∧ S' = S ∧ ∃ x : Value, w = some x ∧ I1 H ∧ (ty = 2 ∧ (∃ y : Int64, x = .long y) ∨ ty ≠ 2 ∧ ∃ y : Int32, x = .int y)) hl hb (And.intro hk.1.1 (fun w H hI hs => ⟨rfl, rfl, w, rfl, hI, hs⟩))
  have q2 := b4 us h C S (fun w H C' S' => C' = C ∧ S' = S ∧ ∃ x : Value, w = some x ∧ I2 H ∧ (ty = 2 ∧ (∃ y : Int64, x = .long y) ∨ ty ≠ 2 ∧ ∃ y : Int32, x = .int y)) hl hb (And.intro hk.1.2 (fun w H hI hs => ⟨rfl, rfl, w, rfl, hI, hs⟩))
  refine aOK_imp (fun w H C' S' k => ?_) (aOK_and q1 q2)
  obtain ⟨⟨e1, e2, x, e3, i1, s1⟩, ⟨-, -, x', e4, i2, -⟩⟩ := k
  rw [e1, e2, e3]
  exact hk.2 x H ⟨i1, i2⟩ s1
theorem n_G_and1 (g1 : n_G X I1 M1 (j, r0, n, b, ty, 1, 0)) (g2 : n_G X I2 M2 (j, r0, n, b, ty, 1, 0)) (hM : ∀ us x H, M1 j us x H → M2 j us x H → M3 j us x H) : n_G X (fun h => I1 h ∧ I2 h) M3 (j, r0, n, b, ty, 1, 0) := by
  obtain ⟨M, a1, a2, a3, a4⟩ := g1
  obtain ⟨M', b1, b2, b3, b4⟩ := g2
  have eM : M = M' := Option.some.inj (a1.symm.trans b1)
  subst eM
  refine ⟨M, a1, a2, a3, fun us h C S K0 hl hb hk => ?_⟩
  have q1 := a4 us h C S (fun w H C' S' => C' = C ∧ S' = S ∧ ∃ x : Int32, w = some (.int x) ∧ M1 j us x H) hl hb (And.intro hk.1.1 (fun x H m => ⟨rfl, rfl, x, rfl, m⟩))
  have q2 := b4 us h C S (fun w H C' S' => C' = C ∧ S' = S ∧ ∃ x : Int32, w = some (.int x) ∧ M2 j us x H) hl hb (And.intro hk.1.2 (fun x H m => ⟨rfl, rfl, x, rfl, m⟩))
  refine aOK_imp (fun w H C' S' k => ?_) (aOK_and q1 q2)
  obtain ⟨⟨e1, e2, x, e3, i1⟩, ⟨-, -, x', e4, i2⟩⟩ := k
  rw [e3] at e4
  injection e4 with e4
  injection e4 with e4
  subst e4
  rw [e1, e2, e3]
  exact hk.2 x H (hM us x H i1 i2)
theorem n_G_and2 (g1 : n_G X I1 M1 (j, r0, n, b, ty, 2, pr)) (g2 : n_G X I2 M2 (j, r0, n, b, ty, 2, pr)) (hM : ∀ us x H, M3 pr us x H → M1 pr us x H ∧ M2 pr us x H) : n_G X (fun h => I1 h ∧ I2 h) M3 (j, r0, n, b, ty, 2, pr) := by
  obtain ⟨M, a1, a2, a3, a4⟩ := g1
  obtain ⟨M', b1, b2, b3, b4⟩ := g2
  have eM : M = M' := Option.some.inj (a1.symm.trans b1)
  subst eM
  refine ⟨M, a1, a2, a3, fun us h C S K0 hl hb hk => ?_⟩
  have hk : ∃ g, M3 pr us g h ∧ ∀ (x : Int32) (H : aH), (I1 H ∧ I2 H) → (ty = 3 → x = g) → K0 (some (.int x)) H C S := hk
  obtain ⟨g, m, hk⟩ := hk
  obtain ⟨m1, m2⟩ := hM us g h m
  have q1 := a4 us h C S (fun w H C' S' => C' = C ∧ S' = S ∧ ∃ x : Int32, w = some (.int x) ∧ I1 H ∧ (ty = 3 → x = g)) hl hb (Exists.intro g (And.intro m1 (fun x H i hx => ⟨rfl, rfl, x, rfl, i, hx⟩)))
  have q2 := b4 us h C S (fun w H C' S' => C' = C ∧ S' = S ∧ ∃ x : Int32, w = some (.int x) ∧ I2 H ∧ (ty = 3 → x = g)) hl hb (Exists.intro g (And.intro m2 (fun x H i hx => ⟨rfl, rfl, x, rfl, i, hx⟩)))
  refine aOK_imp (fun w H C' S' k => ?_) (aOK_and q1 q2)
  obtain ⟨⟨e1, e2, x, e3, i1, s1⟩, ⟨-, -, x', e4, i2, -⟩⟩ := k
  rw [e1, e2, e3]
  exact hk x H ⟨i1, i2⟩ s1
/-- one that is alone stands for the first of a pair, and for the second -/
theorem n_G_l1 (g : n_G X I1 M1 (j, r0, n, b, 1, 0, 0)) (hM : ∀ us x H, I1 H → M3 j us x H) : n_G X I1 M3 (j, r0, n, b, 1, 1, 0) := by
  obtain ⟨M, a1, a2, a3, a4⟩ := g
  refine ⟨M, a1, a2, a3, fun us h C S K0 hl hb hk => a4 us h C S K0 hl hb (And.intro hk.1 (fun w H hI hs => ?_))⟩
  rcases hs with ⟨z, -⟩ | ⟨-, x, e⟩
  · exact absurd (show (1 : Nat) = 2 from z) (by decide)
  · rw [e]
    exact hk.2 x H (hM us x H hI)
theorem n_G_l2 (g : n_G X I1 M1 (j, r0, n, b, 1, 0, 0)) (hM : ∀ us x H, M3 pr us x H → I1 H) : n_G X I1 M3 (j, r0, n, b, 1, 2, pr) := by
  obtain ⟨M, a1, a2, a3, a4⟩ := g
  refine ⟨M, a1, a2, a3, fun us h C S K0 hl hb hk => ?_⟩
  have hk : ∃ g, M3 pr us g h ∧ ∀ (x : Int32) (H : aH), I1 H → ((1 : Nat) = 3 → x = g) → K0 (some (.int x)) H C S := hk
  obtain ⟨g, m, hk⟩ := hk
  refine a4 us h C S K0 hl hb (And.intro (hM us g h m) (fun w H hI hs => ?_))
  rcases hs with ⟨z, -⟩ | ⟨-, x, e⟩
  · exact absurd (show (1 : Nat) = 2 from z) (by decide)
  · rw [e]
    exact hk x H hI (fun z => absurd z (by decide))
theorem n_S_and {m : Nat} (g1 : n_S X I1 j m) (g2 : n_S X I2 j m) : n_S X (fun h => I1 h ∧ I2 h) j m := by
  obtain ⟨M, a1, a2, a3, a4⟩ := g1
  obtain ⟨M', b1, b2, b3, b4⟩ := g2
  have eM : M = M' := Option.some.inj (a1.symm.trans b1)
  subst eM
  refine ⟨M, a1, a2, a3, fun us h C S K0 hl hI hk => ?_⟩
  have q1 := a4 us h C S (fun w H C' S' => C' ≤ C + 1 ∧ S' ≤ S + 6 ∧ ∃ x : Int32, w = some (.int x) ∧ I1 H) hl hI.1 (fun x H C' S' i h1 h2 => ⟨h1, h2, x, rfl, i⟩)
  have q2 := b4 us h C S (fun w H C' S' => C' ≤ C + 1 ∧ S' ≤ S + 6 ∧ ∃ x : Int32, w = some (.int x) ∧ I2 H) hl hI.2 (fun x H C' S' i h1 h2 => ⟨h1, h2, x, rfl, i⟩)
  refine aOK_imp (fun w H C' S' k => ?_) (aOK_and q1 q2)
  obtain ⟨⟨e1, e2, x, e3, i1⟩, ⟨-, -, x', e4, i2⟩⟩ := k
  rw [e3]
  exact hk x H C' S' ⟨i1, i2⟩ e1 e2
end NPD
/-- what stands between the two calls of a pair, of both systems: what a pair's first leaves, or what is held -/
def n_M12 (p : Nat → Bool) (I : aH → Prop) (Md : Nat → List Int32 → Int32 → aH → Prop) (j : Nat) (us : List Int32) (g : Int32) (H : aH) : Prop := if p j = true then Md j us g H else I H
section NPE
variable {X : aX} {I1 I2 : aH → Prop} {M1 M2 : Nat → List Int32 → Int32 → aH → Prop} {p1 p2 : Nat → Bool} {Mc : List Int32 → Int32 → aH → Prop} {j r0 n pr jc : Nat} {b : Bool}
def n_MP (p1 p2 : Nat → Bool) (I1 I2 : aH → Prop) (M1 M2 : Nat → List Int32 → Int32 → aH → Prop) (jc : Nat) (Mc : List Int32 → Int32 → aH → Prop) (j : Nat) (us : List Int32) (g : Int32) (H : aH) : Prop := if j = jc then Mc us g H else n_M12 p1 I1 M1 j us g H ∧ n_M12 p2 I2 M2 j us g H
theorem n_M12_1 (g : n_G X I1 M1 (j, r0, n, b, 1, 1, 0) ∧ p1 j = true ∨ n_G X I1 M1 (j, r0, n, b, 1, 0, 0) ∧ p1 j = false) : n_G X I1 (n_M12 p1 I1 M1) (j, r0, n, b, 1, 1, 0) := by
  rcases g with ⟨g, z⟩ | ⟨g, z⟩
  · obtain ⟨M, a1, a2, a3, a4⟩ := g
    exact ⟨M, a1, a2, a3, fun us h C S K0 hl hb hk => a4 us h C S K0 hl hb (And.intro hk.1 (fun x H m => hk.2 x H (by
      unfold n_M12
      rw [if_pos z]
      exact m)))⟩
  · exact n_G_l1 g (fun us x H i => by
      unfold n_M12
      rw [if_neg (by rw [z]; decide)]
      exact i)
theorem n_M12_2 (g : n_G X I1 M1 (j, r0, n, b, 1, 2, pr) ∧ p1 pr = true ∨ n_G X I1 M1 (j, r0, n, b, 1, 0, 0) ∧ p1 pr = false) : n_G X I1 (n_M12 p1 I1 M1) (j, r0, n, b, 1, 2, pr) := by
  rcases g with ⟨g, z⟩ | ⟨g, z⟩
  · obtain ⟨M, a1, a2, a3, a4⟩ := g
    refine ⟨M, a1, a2, a3, fun us h C S K0 hl hb hk => ?_⟩
    have hk : ∃ g, n_M12 p1 I1 M1 pr us g h ∧ ∀ (x : Int32) (H : aH), I1 H → ((1 : Nat) = 3 → x = g) → K0 (some (.int x)) H C S := hk
    obtain ⟨g, m, hk⟩ := hk
    unfold n_M12 at m
    rw [if_pos z] at m
    exact a4 us h C S K0 hl hb (Exists.intro g (And.intro m hk))
  · exact n_G_l2 g (fun us x H i => by
      unfold n_M12 at i
      rw [if_neg (by rw [z]; decide)] at i
      exact i)
theorem n_P1 (hj : Nat.beq j jc = false) (g1 : n_G X I1 M1 (j, r0, n, b, 1, 1, 0) ∧ p1 j = true ∨ n_G X I1 M1 (j, r0, n, b, 1, 0, 0) ∧ p1 j = false) (g2 : n_G X I2 M2 (j, r0, n, b, 1, 1, 0) ∧ p2 j = true ∨ n_G X I2 M2 (j, r0, n, b, 1, 0, 0) ∧ p2 j = false) : n_G X (fun h => I1 h ∧ I2 h) (n_MP p1 p2 I1 I2 M1 M2 jc Mc) (j, r0, n, b, 1, 1, 0) := n_G_and1 (n_M12_1 g1) (n_M12_1 g2) (fun us x H m1 m2 => by
  unfold n_MP
  rw [if_neg (Nat.ne_of_beq_eq_false hj)]
  exact ⟨m1, m2⟩)
theorem n_P2 (hj : Nat.beq pr jc = false) (g1 : n_G X I1 M1 (j, r0, n, b, 1, 2, pr) ∧ p1 pr = true ∨ n_G X I1 M1 (j, r0, n, b, 1, 0, 0) ∧ p1 pr = false) (g2 : n_G X I2 M2 (j, r0, n, b, 1, 2, pr) ∧ p2 pr = true ∨ n_G X I2 M2 (j, r0, n, b, 1, 0, 0) ∧ p2 pr = false) : n_G X (fun h => I1 h ∧ I2 h) (n_MP p1 p2 I1 I2 M1 M2 jc Mc) (j, r0, n, b, 1, 2, pr) := n_G_and2 (n_M12_2 g1) (n_M12_2 g2) (fun us x H m => by
  unfold n_MP at m
  rw [if_neg (Nat.ne_of_beq_eq_false hj)] at m
  exact m)
end NPE
end PT33iba
section PT33ibb
/-! ===== v15: what a method leaves, for any places (laid by wip/tools/mk15a.py) ===== -/
def g_mk (F A ms : List Nat) : Bool := F.all (fun k => (t_dk k).isSome && !ms.elem k) && A.all (fun o => n_isA o && !ms.elem (o * 128))
def g_fk (F A fs as : List Nat) : Bool := F.all (fun k => !fs.elem k) && A.all (fun o => !as.elem o)
/-- places that are as they were -/
def g_sm (F A : List Nat) (h H : aH) : Prop := (∀ k ∈ F, w_f H k = w_f h k) ∧ ∀ o ∈ A, w_a H o = w_a h o
section GF
variable {F A : List Nat} {h H : aH} {X : aX}
theorem g_mk_ok {ms : List Nat} (hr : w_hr z_D h) (hf : z_frm z_D ms h H) (hm : g_mk F A ms = true) : g_sm F A h H := by
  unfold g_mk at hm
  rw [Bool.and_eq_true] at hm
  refine ⟨fun k hk => ?_, fun o ho => ?_⟩
  · have := List.all_eq_true.mp hm.1 k hk
    simp only [Bool.and_eq_true, Bool.not_eq_true'] at this
    exact n_dk hr hf this.1 this.2
  · have := List.all_eq_true.mp hm.2 o ho
    simp only [Bool.and_eq_true, Bool.not_eq_true'] at this
    exact n_da hf this.1 this.2
theorem g_fk_ok {fs as : List Nat} (e : y_fr h H fs as) (hm : g_fk F A fs as = true) : g_sm F A h H := by
  unfold g_fk at hm
  rw [Bool.and_eq_true] at hm
  refine ⟨fun k hk => e.2.1 k (n_nel ?_), fun o ho => e.2.2 o (n_nel ?_)⟩
  · have := List.all_eq_true.mp hm.1 k hk
    rw [Bool.not_eq_true'] at this
    exact this
  · have := List.all_eq_true.mp hm.2 o ho
    rw [Bool.not_eq_true'] at this
    exact this
theorem g_sm_tr {G : aH} (a : g_sm F A h G) (b : g_sm F A G H) : g_sm F A h H := ⟨fun k hk => (b.1 k hk).trans (a.1 k hk), fun o ho => (b.2 o ho).trans (a.2 o ho)⟩
def g_told (F A : List Nat) (X : aX) (d : Nat) (M : aM) (r n : Nat) (b : Bool) : Prop := ∀ (us : List Int32) (h : aH) (C S : Nat) (K0 : Option Value → aH → Nat → Nat → Prop), us.length = n → (b = true → ∀ u ∈ us, 0 ≤ u.toInt ∧ u.toInt ≤ 1) → t_I h →
  (∀ (x : Int32) (H : aH), t_I H → g_sm F A h H → K0 (some (.int x)) H C S) → aOK s_P X d M 0 (a_ent (.ref r :: us.map .int) M.2.2.1) [] h C S K0
def g_toldL (F A : List Nat) (X : aX) (d : Nat) (M : aM) (r n : Nat) (b : Bool) : Prop := ∀ (us : List Int32) (h : aH) (C S : Nat) (K0 : Option Value → aH → Nat → Nat → Prop), us.length = n → (b = true → ∀ u ∈ us, 0 ≤ u.toInt ∧ u.toInt ≤ 1) → t_I h →
  (∀ (x : Int64) (H : aH), t_I H → g_sm F A h H → K0 (some (.long x)) H C S) → aOK s_P X d M 0 (a_ent (.ref r :: us.map .int) M.2.2.1) [] h C S K0
theorem g_ctx {Q : zQ} {M : aM} {n m : Nat} {b : Bool} {T0 : zT} {m0 : zMs} {cs : List zCut} (h6 : g_mk F A Q.2.2.2 = true) (hs : z_spec y_JA z_D s_P X Q) (hM : s_P[Q.1.1]? = some M) (hd : Nat.ble Q.1.2.1 200 = true) (hQ : Q.2.1 = (0, T0, m0) :: cs) (h1 : t_s n b 0 T0.1 T0.2.1 = true) (h2 : T0.2.2.1.all (t_r T0.1) = true)
    (h3 : T0.2.2.2 = some (.inl (.ref 2)) :: ((List.range n).map (fun j => some (.inr (j, 0))) ++ List.replicate m none)) (hn : M.2.2.1 = n + 1 + m) (h4 : Q.2.2.1.all t_x = true) (h5 : (Q.2.2.2.all (fun k => !decide (k / 128 = 134)) || Q.2.2.1.all t_rx) = true) : g_told F A X 200 M 2 n b := by
  intro us h C S K0 hl hb hI hk
  subst hl
  obtain ⟨hr, hJ, hday⟩ := hI
  obtain ⟨ρ, hρ⟩ := t_entry (ms := Q.2.2.2) y_JA_x hb hr hJ hday h1 h2 h3
  rw [Nat.ble_eq] at hd
  rw [hn]
  refine aOK_deep hd (hs M hM C S ρ h _ T0 m0 (by rw [hQ]; exact List.mem_cons_self) hρ K0 (fun T hT ρX H' v htm _ _ => ?_))
  obtain ⟨r1, r2, x, rfl⟩ := t_exit htm (List.all_eq_true.mp h4 T hT)
  have hf := htm.2.2.2.2.2.1
  refine hk x H' ⟨r1, r2, ?_⟩ (g_mk_ok hr hf h6)
  rw [Bool.or_eq_true] at h5
  rcases h5 with q | q
  · exact t_day_frm hr hf q hday
  · exact t_day_rx htm (List.all_eq_true.mp q T hT)
end GF
theorem g_c12 {X : aX} {F A : List Nat} (h6 : g_mk F A z_x1.2.2.2 = true) : g_told F A X 200 a_m12 2 2 false := g_ctx (n := 2) (m := 0) (b := false) h6 (z_x1_s (y_jx_l y_JA_x)) rfl rfl rfl (by decide +kernel) (by decide +kernel) rfl rfl (by decide +kernel) (by decide +kernel)
theorem g_c17 {X : aX} {F A : List Nat} (h6 : g_mk F A z_x2.2.2.2 = true) : g_told F A X 200 a_m17 2 3 false := g_ctx (n := 3) (m := 0) (b := false) h6 (z_x2_s (y_jx_l y_JA_x)) rfl rfl rfl (by decide +kernel) (by decide +kernel) rfl rfl (by decide +kernel) (by decide +kernel)
theorem g_c21 {X : aX} {F A : List Nat} (h6 : g_mk F A z_x3.2.2.2 = true) : g_told F A X 200 a_m21 2 2 false := g_ctx (n := 2) (m := 0) (b := false) h6 (z_x3_s (y_jx_l y_JA_x)) rfl rfl rfl (by decide +kernel) (by decide +kernel) rfl rfl (by decide +kernel) (by decide +kernel)
theorem g_c24 {X : aX} {F A : List Nat} (h6 : g_mk F A z_x6.2.2.2 = true) : g_told F A X 200 a_m24 2 2 false := g_ctx (n := 2) (m := 0) (b := false) h6 (z_x6_s (y_jx_l y_JA_x)) rfl rfl rfl (by decide +kernel) (by decide +kernel) rfl rfl (by decide +kernel) (by decide +kernel)
theorem g_c28 {X : aX} {F A : List Nat} (h6 : g_mk F A z_x10.2.2.2 = true) : g_told F A X 200 a_m28 2 1 false := g_ctx (n := 1) (m := 0) (b := false) h6 (z_x10_s (y_jx_l y_JA_x)) rfl rfl rfl (by decide +kernel) (by decide +kernel) rfl rfl (by decide +kernel) (by decide +kernel)
theorem g_c33 {X : aX} {F A : List Nat} (h6 : g_mk F A z_x18.2.2.2 = true) : g_told F A X 200 a_m33 2 1 false := g_ctx (n := 1) (m := 0) (b := false) h6 (z_x18_s (y_jx_l y_JA_x)) rfl rfl rfl (by decide +kernel) (by decide +kernel) rfl rfl (by decide +kernel) (by decide +kernel)
theorem g_c46 {X : aX} {F A : List Nat} (h6 : g_mk F A z_x19.2.2.2 = true) : g_told F A X 200 a_m46 2 1 false := g_ctx (n := 1) (m := 2) (b := false) h6 (z_x19_s (y_jx_l y_JA_x)) rfl rfl rfl (by decide +kernel) (by decide +kernel) rfl rfl (by decide +kernel) (by decide +kernel)
theorem g_c47 {X : aX} {F A : List Nat} (h6 : g_mk F A z_x21.2.2.2 = true) : g_told F A X 200 a_m47 2 0 false := g_ctx (n := 0) (m := 2) (b := false) h6 (z_x21_s (y_jx_l y_JA_x)) rfl rfl rfl (by decide +kernel) (by decide +kernel) rfl rfl (by decide +kernel) (by decide +kernel)
theorem g_c49 {X : aX} {F A : List Nat} (h6 : g_mk F A z_x23.2.2.2 = true) : g_told F A X 200 a_m49 2 2 false := g_ctx (n := 2) (m := 0) (b := false) h6 (z_x23_s (y_jx_l y_JA_x)) rfl rfl rfl (by decide +kernel) (by decide +kernel) rfl rfl (by decide +kernel) (by decide +kernel)
theorem g_c52 {X : aX} {F A : List Nat} (h6 : g_mk F A z_x28.2.2.2 = true) : g_told F A X 200 a_m52 2 1 false := g_ctx (n := 1) (m := 3) (b := false) h6 (z_x28_s (y_jx_l y_JA_x)) rfl rfl rfl (by decide +kernel) (by decide +kernel) rfl rfl (by decide +kernel) (by decide +kernel)
theorem g_c54 {X : aX} {F A : List Nat} (h6 : g_mk F A z_x30.2.2.2 = true) : g_told F A X 200 a_m54 2 2 false := g_ctx (n := 2) (m := 0) (b := false) h6 (z_x30_s (y_jx_l y_JA_x)) rfl rfl rfl (by decide +kernel) (by decide +kernel) rfl rfl (by decide +kernel) (by decide +kernel)
theorem g_c57 {X : aX} {F A : List Nat} (h6 : g_mk F A z_x31.2.2.2 = true) : g_told F A X 200 a_m57 2 2 false := g_ctx (n := 2) (m := 1) (b := false) h6 (z_x31_s (y_jx_l y_JA_x)) rfl rfl rfl (by decide +kernel) (by decide +kernel) rfl rfl (by decide +kernel) (by decide +kernel)
theorem g_c58 {X : aX} {F A : List Nat} (h6 : g_mk F A z_x32.2.2.2 = true) : g_told F A X 200 a_m58 2 1 false := g_ctx (n := 1) (m := 2) (b := false) h6 (z_x32_s (y_jx_l y_JA_x)) rfl rfl rfl (by decide +kernel) (by decide +kernel) rfl rfl (by decide +kernel) (by decide +kernel)
theorem g_c61 {X : aX} {F A : List Nat} (h6 : g_mk F A z_x35.2.2.2 = true) : g_told F A X 200 a_m61 2 3 false := g_ctx (n := 3) (m := 0) (b := false) h6 (z_x35_s (y_jx_l y_JA_x)) rfl rfl rfl (by decide +kernel) (by decide +kernel) rfl rfl (by decide +kernel) (by decide +kernel)
theorem g_c66 {X : aX} {F A : List Nat} (h6 : g_mk F A z_x37.2.2.2 = true) : g_told F A X 200 a_m66 2 3 false := g_ctx (n := 3) (m := 3) (b := false) h6 (z_x37_s (y_jx_l y_JA_x)) rfl rfl rfl (by decide +kernel) (by decide +kernel) rfl rfl (by decide +kernel) (by decide +kernel)
theorem g_c68 {X : aX} {F A : List Nat} (h6 : g_mk F A z_x39.2.2.2 = true) : g_told F A X 200 a_m68 2 1 false := g_ctx (n := 1) (m := 2) (b := false) h6 (z_x39_s (y_jx_l y_JA_x)) rfl rfl rfl (by decide +kernel) (by decide +kernel) rfl rfl (by decide +kernel) (by decide +kernel)
theorem g_c71 {X : aX} {F A : List Nat} (h6 : g_mk F A z_x40.2.2.2 = true) : g_told F A X 200 a_m71 2 1 false := g_ctx (n := 1) (m := 6) (b := false) h6 (z_x40_s (y_jx_l y_JA_x)) rfl rfl rfl (by decide +kernel) (by decide +kernel) rfl rfl (by decide +kernel) (by decide +kernel)
theorem g_c74 {X : aX} {F A : List Nat} (h6 : g_mk F A z_x42.2.2.2 = true) : g_told F A X 200 a_m74 2 1 false := g_ctx (n := 1) (m := 0) (b := false) h6 (z_x42_s (y_jx_l y_JA_x)) rfl rfl rfl (by decide +kernel) (by decide +kernel) rfl rfl (by decide +kernel) (by decide +kernel)
theorem g_c76 {X : aX} {F A : List Nat} (h6 : g_mk F A z_x43.2.2.2 = true) : g_told F A X 200 a_m76 2 1 false := g_ctx (n := 1) (m := 0) (b := false) h6 (z_x43_s (y_jx_l y_JA_x)) rfl rfl rfl (by decide +kernel) (by decide +kernel) rfl rfl (by decide +kernel) (by decide +kernel)
theorem g_c77 {X : aX} {F A : List Nat} (h6 : g_mk F A z_x142.2.2.2 = true) : g_told F A X 200 a_m77 2 0 false := g_ctx (n := 0) (m := 2) (b := false) h6 (z_x142_s (y_jx_l y_JA_x)) rfl rfl rfl (by decide +kernel) (by decide +kernel) rfl rfl (by decide +kernel) (by decide +kernel)
theorem g_c92 {X : aX} {F A : List Nat} (h6 : g_mk F A z_x463.2.2.2 = true) : g_told F A X 200 a_m92 2 1 false := g_ctx (n := 1) (m := 0) (b := false) h6 (z_x463_s (y_jx_l y_JA_x)) rfl rfl rfl (by decide +kernel) (by decide +kernel) rfl rfl (by decide +kernel) (by decide +kernel)
theorem g_c112 {X : aX} {F A : List Nat} (h6 : g_mk F A z_x464.2.2.2 = true) : g_told F A X 200 a_m112 2 2 false := g_ctx (n := 2) (m := 1) (b := false) h6 (z_x464_s (y_jx_l y_JA_x)) rfl rfl rfl (by decide +kernel) (by decide +kernel) rfl rfl (by decide +kernel) (by decide +kernel)
theorem g_c113 {X : aX} {F A : List Nat} (h6 : g_mk F A z_x465.2.2.2 = true) : g_told F A X 200 a_m113 2 2 false := g_ctx (n := 2) (m := 0) (b := false) h6 (z_x465_s (y_jx_l y_JA_x)) rfl rfl rfl (by decide +kernel) (by decide +kernel) rfl rfl (by decide +kernel) (by decide +kernel)
theorem g_c114 {X : aX} {F A : List Nat} (h6 : g_mk F A z_x466.2.2.2 = true) : g_told F A X 200 a_m114 2 1 false := g_ctx (n := 1) (m := 3) (b := false) h6 (z_x466_s (y_jx_l y_JA_x)) rfl rfl rfl (by decide +kernel) (by decide +kernel) rfl rfl (by decide +kernel) (by decide +kernel)
theorem g_c115 {X : aX} {F A : List Nat} (h6 : g_mk F A z_x469.2.2.2 = true) : g_told F A X 200 a_m115 2 4 false := g_ctx (n := 4) (m := 1) (b := false) h6 (z_x469_s (y_jx_l y_JA_x)) rfl rfl rfl (by decide +kernel) (by decide +kernel) rfl rfl (by decide +kernel) (by decide +kernel)
theorem g_c119 {X : aX} {F A : List Nat} (h6 : g_mk F A z_x475.2.2.2 = true) : g_told F A X 200 a_m119 2 2 false := g_ctx (n := 2) (m := 0) (b := false) h6 (z_x475_s (y_jx_l y_JA_x)) rfl rfl rfl (by decide +kernel) (by decide +kernel) rfl rfl (by decide +kernel) (by decide +kernel)
theorem g_c125 {X : aX} {F A : List Nat} (h6 : g_mk F A z_x476.2.2.2 = true) : g_told F A X 200 a_m125 2 1 false := g_ctx (n := 1) (m := 2) (b := false) h6 (z_x476_s (y_jx_l y_JA_x)) rfl rfl rfl (by decide +kernel) (by decide +kernel) rfl rfl (by decide +kernel) (by decide +kernel)
theorem g_c127 {X : aX} {F A : List Nat} (h6 : g_mk F A z_x477.2.2.2 = true) : g_told F A X 200 a_m127 2 2 false := g_ctx (n := 2) (m := 0) (b := false) h6 (z_x477_s (y_jx_l y_JA_x)) rfl rfl rfl (by decide +kernel) (by decide +kernel) rfl rfl (by decide +kernel) (by decide +kernel)
theorem g_c128 {X : aX} {F A : List Nat} (h6 : g_mk F A z_x491.2.2.2 = true) : g_told F A X 200 a_m128 2 2 false := g_ctx (n := 2) (m := 1) (b := false) h6 (z_x491_s (y_jx_l y_JA_x)) rfl rfl rfl (by decide +kernel) (by decide +kernel) rfl rfl (by decide +kernel) (by decide +kernel)
theorem g_c137 {X : aX} {F A : List Nat} (h6 : g_mk F A z_x493.2.2.2 = true) : g_told F A X 200 a_m137 2 2 false := g_ctx (n := 2) (m := 4) (b := false) h6 (z_x493_s (y_jx_l y_JA_x)) rfl rfl rfl (by decide +kernel) (by decide +kernel) rfl rfl (by decide +kernel) (by decide +kernel)
theorem g_c139 {X : aX} {F A : List Nat} (h6 : g_mk F A z_x496.2.2.2 = true) : g_told F A X 200 a_m139 2 2 false := g_ctx (n := 2) (m := 5) (b := false) h6 (z_x496_s (y_jx_l y_JA_x)) rfl rfl rfl (by decide +kernel) (by decide +kernel) rfl rfl (by decide +kernel) (by decide +kernel)
theorem g_c143 {X : aX} {F A : List Nat} (h6 : g_mk F A z_x497.2.2.2 = true) : g_told F A X 200 a_m143 2 4 false := g_ctx (n := 4) (m := 0) (b := false) h6 (z_x497_s (y_jx_l y_JA_x)) rfl rfl rfl (by decide +kernel) (by decide +kernel) rfl rfl (by decide +kernel) (by decide +kernel)
theorem g_c145 {X : aX} {F A : List Nat} (h6 : g_mk F A z_x498.2.2.2 = true) : g_told F A X 200 a_m145 2 2 false := g_ctx (n := 2) (m := 3) (b := false) h6 (z_x498_s (y_jx_l y_JA_x)) rfl rfl rfl (by decide +kernel) (by decide +kernel) rfl rfl (by decide +kernel) (by decide +kernel)
theorem g_c146 {X : aX} {F A : List Nat} (h6 : g_mk F A z_x500.2.2.2 = true) : g_told F A X 200 a_m146 2 3 false := g_ctx (n := 3) (m := 9) (b := false) h6 (z_x500_s (y_jx_l y_JA_x)) rfl rfl rfl (by decide +kernel) (by decide +kernel) rfl rfl (by decide +kernel) (by decide +kernel)
theorem g_c149 {X : aX} {F A : List Nat} (h6 : g_mk F A z_x501.2.2.2 = true) : g_told F A X 200 a_m149 2 5 false := g_ctx (n := 5) (m := 2) (b := false) h6 (z_x501_s (y_jx_l y_JA_x)) rfl rfl rfl (by decide +kernel) (by decide +kernel) rfl rfl (by decide +kernel) (by decide +kernel)
theorem g_c153 {X : aX} {F A : List Nat} (h6 : g_mk F A z_x502.2.2.2 = true) : g_told F A X 200 a_m153 2 2 false := g_ctx (n := 2) (m := 0) (b := false) h6 (z_x502_s (y_jx_l y_JA_x)) rfl rfl rfl (by decide +kernel) (by decide +kernel) rfl rfl (by decide +kernel) (by decide +kernel)
theorem g_c156 {X : aX} {F A : List Nat} (h6 : g_mk F A z_x503.2.2.2 = true) : g_told F A X 200 a_m156 2 2 false := g_ctx (n := 2) (m := 3) (b := false) h6 (z_x503_s (y_jx_l y_JA_x)) rfl rfl rfl (by decide +kernel) (by decide +kernel) rfl rfl (by decide +kernel) (by decide +kernel)
theorem g_c157 {X : aX} {F A : List Nat} (h6 : g_mk F A z_x504.2.2.2 = true) : g_told F A X 200 a_m157 2 3 true := g_ctx (n := 3) (m := 0) (b := true) h6 (z_x504_s (y_jx_l y_JA_x)) rfl rfl rfl (by decide +kernel) (by decide +kernel) rfl rfl (by decide +kernel) (by decide +kernel)
theorem g_c159 {X : aX} {F A : List Nat} (h6 : g_mk F A z_x507.2.2.2 = true) : g_told F A X 200 a_m159 2 1 false := g_ctx (n := 1) (m := 2) (b := false) h6 (z_x507_s (y_jx_l y_JA_x)) rfl rfl rfl (by decide +kernel) (by decide +kernel) rfl rfl (by decide +kernel) (by decide +kernel)
theorem g_c162 {X : aX} {F A : List Nat} (h6 : g_mk F A z_x508.2.2.2 = true) : g_told F A X 200 a_m162 2 1 false := g_ctx (n := 1) (m := 5) (b := false) h6 (z_x508_s (y_jx_l y_JA_x)) rfl rfl rfl (by decide +kernel) (by decide +kernel) rfl rfl (by decide +kernel) (by decide +kernel)
theorem g_c163 {X : aX} {F A : List Nat} (h6 : g_mk F A z_x509.2.2.2 = true) : g_told F A X 200 a_m163 2 1 false := g_ctx (n := 1) (m := 0) (b := false) h6 (z_x509_s (y_jx_l y_JA_x)) rfl rfl rfl (by decide +kernel) (by decide +kernel) rfl rfl (by decide +kernel) (by decide +kernel)
theorem g_c165 {X : aX} {F A : List Nat} (h6 : g_mk F A z_x510.2.2.2 = true) : g_told F A X 200 a_m165 2 1 false := g_ctx (n := 1) (m := 0) (b := false) h6 (z_x510_s (y_jx_l y_JA_x)) rfl rfl rfl (by decide +kernel) (by decide +kernel) rfl rfl (by decide +kernel) (by decide +kernel)
theorem g_c168 {X : aX} {F A : List Nat} (h6 : g_mk F A z_x511.2.2.2 = true) : g_told F A X 200 a_m168 2 1 false := g_ctx (n := 1) (m := 0) (b := false) h6 (z_x511_s (y_jx_l y_JA_x)) rfl rfl rfl (by decide +kernel) (by decide +kernel) rfl rfl (by decide +kernel) (by decide +kernel)
theorem g_r173 {X : aX} {F A : List Nat} (h6 : g_fk F A [19584, 19591, 19600] [156, 157, 159, 160, 161] = true) : g_told F A X 200 a_m173 155 2 false := by
  intro us h C S K0 hl hb hI hk
  obtain ⟨hr, ⟨hJ, hS, hC⟩, hday⟩ := hI
  match us, hl with
  | [u0, u1], _ => exact p_node hr hJ hC (fun r H hf q0 q1 => hk r H ⟨hf.1, ⟨q0, (j_say_e hf rfl rfl hS), q1⟩, t_day_fr hf rfl hday⟩ (g_fk_ok hf h6))
theorem g_r177 {X : aX} {F A : List Nat} (h6 : g_fk F A [19584] [158] = true) : g_told F A X 200 a_m177 155 3 false := by
  intro us h C S K0 hl hb hI hk
  obtain ⟨hr, ⟨hJ, hS, hC⟩, hday⟩ := hI
  match us, hl with
  | [u0, u1, u2], _ => exact p_set hr hJ (fun r H hf q0 => hk r H ⟨hf.1, ⟨q0, (j_say_e hf rfl rfl hS), (j_cost_e hf rfl rfl hC)⟩, t_day_fr hf rfl hday⟩ (g_fk_ok hf h6))
theorem g_r180 {X : aX} {F A : List Nat} (h6 : g_fk F A [19584] [159] = true) : g_told F A X 200 a_m180 155 2 false := by
  intro us h C S K0 hl hb hI hk
  obtain ⟨hr, ⟨hJ, hS, hC⟩, hday⟩ := hI
  match us, hl with
  | [u0, u1], _ => exact p_force hr hJ (fun r H hf q0 q1 => hk r H ⟨hf.1, ⟨(y_J_fr hf rfl rfl hJ), (j_say_e hf rfl rfl hS), (j_cost_e hf rfl rfl hC)⟩, t_day_fr hf rfl hday⟩ (g_fk_ok hf h6))
theorem g_r181 {X : aX} {F A : List Nat} (h6 : g_fk F A [19584, 19598] [160, 162] = true) : g_told F A X 200 a_m181 155 2 false := by
  intro us h C S K0 hl hb hI hk
  obtain ⟨hr, ⟨hJ, hS, hC⟩, hday⟩ := hI
  match us, hl with
  | [u0, u1], _ => exact p_see hr hJ (fun r H hf q0 q1 => hk r H ⟨hf.1, ⟨q0, (j_say_e hf rfl rfl hS), (j_cost_e hf rfl rfl hC)⟩, t_day_fr hf rfl hday⟩ (g_fk_ok hf h6))
theorem g_r183 {X : aX} {F A : List Nat} (h6 : g_fk F A [19584] [] = true) : g_told F A X 200 a_m183 155 1 false := by
  intro us h C S K0 hl hb hI hk
  obtain ⟨hr, ⟨hJ, hS, hC⟩, hday⟩ := hI
  match us, hl with
  | [u0], _ => exact p_weight hr hJ (fun r H hf => hk r H ⟨hf.1, ⟨(y_J_fr hf rfl rfl hJ), (j_say_e hf rfl rfl hS), (j_cost_e hf rfl rfl hC)⟩, t_day_fr hf rfl hday⟩ (g_fk_ok hf h6))
theorem g_r187 {X : aX} {F A : List Nat} (h6 : g_fk F A [19584, 19585, 19587, 19588] [154, 163] = true) : g_told F A X 200 a_m187 155 1 false := by
  intro us h C S K0 hl hb hI hk
  obtain ⟨hr, ⟨hJ, hS, hC⟩, hday⟩ := hI
  match us, hl with
  | [u0], _ => exact p_chance hr hJ (fun r H hf q0 => hk r H ⟨hf.1, ⟨q0, (j_say_e hf rfl rfl hS), (j_cost_e hf rfl rfl hC)⟩, t_day_fr hf rfl hday⟩ (g_fk_ok hf h6))
theorem g_r198 {X : aX} {F A : List Nat} (h6 : g_fk F A [19584, 19585, 19587, 19588] [154, 163] = true) : g_told F A X 200 a_m198 155 1 false := by
  intro us h C S K0 hl hb hI hk
  obtain ⟨hr, ⟨hJ, hS, hC⟩, hday⟩ := hI
  match us, hl with
  | [u0], _ => exact p_odds hr hJ (fun r H hf q0 => hk r H ⟨hf.1, ⟨q0, (j_say_e hf rfl rfl hS), (j_cost_e hf rfl rfl hC)⟩, t_day_fr hf rfl hday⟩ (g_fk_ok hf h6))
theorem g_r199 {X : aX} {F A : List Nat} (h6 : g_fk F A [19584, 19585, 19587, 19588] [154, 163] = true) : g_told F A X 200 a_m199 155 0 false := by
  intro us h C S K0 hl hb hI hk
  obtain ⟨hr, ⟨hJ, hS, hC⟩, hday⟩ := hI
  match us, hl with
  | [], _ => exact p_likely hr hJ (fun r H hf q0 => hk r H ⟨hf.1, ⟨q0, (j_say_e hf rfl rfl hS), (j_cost_e hf rfl rfl hC)⟩, t_day_fr hf rfl hday⟩ (g_fk_ok hf h6))
theorem g_r200 {X : aX} {F A : List Nat} (h6 : g_fk F A [19584, 19585, 19587, 19588] [154, 163] = true) : g_told F A X 200 a_m200 155 2 false := by
  intro us h C S K0 hl hb hI hk
  obtain ⟨hr, ⟨hJ, hS, hC⟩, hday⟩ := hI
  match us, hl with
  | [u0, u1], _ => exact p_moves hr hJ (fun r H hf q0 => hk r H ⟨hf.1, ⟨q0, (j_say_e hf rfl rfl hS), (j_cost_e hf rfl rfl hC)⟩, t_day_fr hf rfl hday⟩ (g_fk_ok hf h6))
theorem g_r202 {X : aX} {F A : List Nat} (h6 : g_fk F A [19584, 19585, 19587, 19588] [154, 155, 163] = true) : g_told F A X 200 a_m202 155 1 false := by
  intro us h C S K0 hl hb hI hk
  obtain ⟨hr, ⟨hJ, hS, hC⟩, hday⟩ := hI
  match us, hl with
  | [u0], _ => exact p_most hr hJ (fun r H hf q0 => hk r H ⟨hf.1, ⟨q0, (j_say_e hf rfl rfl hS), (j_cost_e hf rfl rfl hC)⟩, t_day_fr hf rfl hday⟩ (g_fk_ok hf h6))
theorem g_r204 {X : aX} {F A : List Nat} (h6 : g_fk F A [19584, 19585, 19587, 19588] [154, 163] = true) : g_told F A X 200 a_m204 155 2 false := by
  intro us h C S K0 hl hb hI hk
  obtain ⟨hr, ⟨hJ, hS, hC⟩, hday⟩ := hI
  match us, hl with
  | [u0, u1], _ => exact p_worth hr hJ (fun r H hf q0 => hk r H ⟨hf.1, ⟨q0, (j_say_e hf rfl rfl hS), (j_cost_e hf rfl rfl hC)⟩, t_day_fr hf rfl hday⟩ (g_fk_ok hf h6))
theorem g_r206 {X : aX} {F A : List Nat} (h6 : g_fk F A [19584] [161] = true) : g_told F A X 200 a_m206 155 2 false := by
  intro us h C S K0 hl hb hI hk
  obtain ⟨hr, ⟨hJ, hS, hC⟩, hday⟩ := hI
  match us, hl with
  | [u0, u1], _ => exact p_cost hr hJ hC (fun r H hf q0 => hk r H ⟨hf.1, ⟨(t_J161 hf hJ), (j_say_e hf rfl rfl hS), q0⟩, t_day_fr hf rfl hday⟩ (g_fk_ok hf h6))
theorem g_r207 {X : aX} {F A : List Nat} (h6 : g_fk F A [19584, 19585, 19587, 19588] [154, 163] = true) : g_told F A X 200 a_m207 155 1 false := by
  intro us h C S K0 hl hb hI hk
  obtain ⟨hr, ⟨hJ, hS, hC⟩, hday⟩ := hI
  match us, hl with
  | [u0], _ => exact p_need hr hJ hC (fun r H hf q0 => hk r H ⟨hf.1, ⟨q0, (j_say_e hf rfl rfl hS), (j_cost_e hf rfl rfl hC)⟩, t_day_fr hf rfl hday⟩ (g_fk_ok hf h6))
theorem g_r208 {X : aX} {F A : List Nat} (h6 : g_fk F A [19584] [164] = true) : g_told F A X 200 a_m208 155 3 false := by
  intro us h C S K0 hl hb hI hk
  obtain ⟨hr, ⟨hJ, hS, hC⟩, hday⟩ := hI
  match us, hl with
  | [u0, u1, u2], _ => exact p_apart hr hJ (fun r H hf q0 => hk r H ⟨hf.1, ⟨q0, (j_say_e hf rfl rfl hS), (j_cost_e hf rfl rfl hC)⟩, t_day_fr hf rfl hday⟩ (g_fk_ok hf h6))
theorem g_r213 {X : aX} {F A : List Nat} (h6 : g_fk F A [19584] [163] = true) : g_told F A X 200 a_m213 155 3 false := by
  intro us h C S K0 hl hb hI hk
  obtain ⟨hr, ⟨hJ, hS, hC⟩, hday⟩ := hI
  match us, hl with
  | [u0, u1, u2], _ => exact p_even hr hJ (fun r H hf q0 => hk r H ⟨hf.1, ⟨q0, (j_say_e hf rfl rfl hS), (j_cost_e hf rfl rfl hC)⟩, t_day_fr hf rfl hday⟩ (g_fk_ok hf h6))
theorem g_r214 {X : aX} {F A : List Nat} (h6 : g_fk F A [19584, 19585, 19587, 19588, 19589] [154, 163] = true) : g_told F A X 200 a_m214 155 1 false := by
  intro us h C S K0 hl hb hI hk
  obtain ⟨hr, ⟨hJ, hS, hC⟩, hday⟩ := hI
  match us, hl with
  | [u0], _ => exact p_joined hr hJ (fun r H hf q0 => hk r H ⟨hf.1, ⟨q0, (j_say_e hf rfl rfl hS), (j_cost_e hf rfl rfl hC)⟩, t_day_fr hf rfl hday⟩ (g_fk_ok hf h6))
theorem g_r217 {X : aX} {F A : List Nat} (h6 : g_fk F A [19584, 19585, 19587, 19588] [154, 163] = true) : g_told F A X 200 a_m217 155 1 false := by
  intro us h C S K0 hl hb hI hk
  obtain ⟨hr, ⟨hJ, hS, hC⟩, hday⟩ := hI
  match us, hl with
  | [u0], _ => exact p_bounds hr hJ (fun r H hf q0 => hk r H ⟨hf.1, ⟨q0, (j_say_e hf rfl rfl hS), (j_cost_e hf rfl rfl hC)⟩, t_day_fr hf rfl hday⟩ (g_fk_ok hf h6))
theorem g_r219 {X : aX} {F A : List Nat} (h6 : g_fk F A [19584, 19612] [171] = true) : g_told F A X 200 a_m219 155 1 false := by
  intro us h C S K0 hl hb hI hk
  obtain ⟨hr, ⟨hJ, hS, hC⟩, hday⟩ := hI
  match us, hl with
  | [u0], _ => exact p_sign hr (fun r H hf => hk r H ⟨hf.1, ⟨(y_J_fr hf rfl rfl hJ), (j_say_e hf rfl rfl hS), (j_cost_e hf rfl rfl hC)⟩, t_day_fr hf rfl hday⟩ (g_fk_ok hf h6))
theorem g_r220 {X : aX} {F A : List Nat} (h6 : g_fk F A [19584, 19612] [] = true) : g_told F A X 200 a_m220 155 1 false := by
  intro us h C S K0 hl hb hI hk
  obtain ⟨hr, ⟨hJ, hS, hC⟩, hday⟩ := hI
  match us, hl with
  | [u0], _ => exact p_end hr (fun r H hf q0 q1 => hk r H ⟨hf.1, ⟨(y_J_fr hf rfl rfl hJ), (j_say_e hf rfl rfl hS), (j_cost_e hf rfl rfl hC)⟩, t_day_fr hf rfl hday⟩ (g_fk_ok hf h6))
theorem g_r221 {X : aX} {F A : List Nat} (h6 : g_fk F A [19584, 19603, 19610, 19612, 19613, 19614, 19615] [165, 166, 167, 168, 169, 170] = true) : g_told F A X 200 a_m221 155 0 false := by
  intro us h C S K0 hl hb hI hk
  obtain ⟨hr, ⟨hJ, hS, hC⟩, hday⟩ := hI
  match us, hl with
  | [], _ => exact p_say hr hJ hS (fun r H hf q0 q1 => hk r H ⟨hf.1, ⟨q0, q1, (j_cost_e hf rfl rfl hC)⟩, t_day_fr hf rfl hday⟩ (g_fk_ok hf h6))
theorem g_r233 {X : aX} {F A : List Nat} (h6 : g_fk F A [19584, 19587, 19588, 19589, 19616, 19617, 19618] [155, 163] = true) : g_told F A X 200 a_m233 155 1 false := by
  intro us h C S K0 hl hb hI hk
  obtain ⟨hr, ⟨hJ, hS, hC⟩, hday⟩ := hI
  match us, hl with
  | [u0], _ => exact p_so hr hJ hS (fun r H hf q0 q1 => hk r H ⟨hf.1, ⟨q0, q1, (j_cost_e hf rfl rfl hC)⟩, t_day_fr hf rfl hday⟩ (g_fk_ok hf h6))
theorem g_r246 {X : aX} {F A : List Nat} (h6 : g_fk F A [19584, 19585, 19587, 19588, 19589, 19616, 19617, 19618] [154, 163] = true) : g_told F A X 200 a_m246 155 2 false := by
  intro us h C S K0 hl hb hI hk
  obtain ⟨hr, ⟨hJ, hS, hC⟩, hday⟩ := hI
  match us, hl with
  | [u0, u1], _ => exact p_term hr hJ hS (fun r H hf q0 q1 => hk r H ⟨hf.1, ⟨q0, q1, (j_cost_e hf rfl rfl hC)⟩, t_day_fr hf rfl hday⟩ (g_fk_ok hf h6))
theorem g_r247 {X : aX} {F A : List Nat} (h6 : g_fk F A [19584, 19587, 19588, 19589, 19616, 19617, 19618] [155, 163] = true) : g_told F A X 200 a_m247 155 2 false := by
  intro us h C S K0 hl hb hI hk
  obtain ⟨hr, ⟨hJ, hS, hC⟩, hday⟩ := hI
  match us, hl with
  | [u0, u1], _ => exact p_slip hr hJ hS (fun r H hf q0 q1 => hk r H ⟨hf.1, ⟨q0, q1, (j_cost_e hf rfl rfl hC)⟩, t_day_fr hf rfl hday⟩ (g_fk_ok hf h6))
theorem g_r248 {X : aX} {F A : List Nat} (h6 : g_fk F A [19584, 19587, 19588, 19589, 19616, 19617, 19618] [155, 163] = true) : g_told F A X 200 a_m248 155 1 false := by
  intro us h C S K0 hl hb hI hk
  obtain ⟨hr, ⟨hJ, hS, hC⟩, hday⟩ := hI
  match us, hl with
  | [u0], _ => exact p_which hr hJ hS (fun r H hf q0 q1 => hk r H ⟨hf.1, ⟨q0, q1, (j_cost_e hf rfl rfl hC)⟩, t_day_fr hf rfl hday⟩ (g_fk_ok hf h6))
theorem g_r249 {X : aX} {F A : List Nat} (h6 : g_fk F A [19584, 19619] [172, 173, 174, 175] = true) : g_told F A X 200 a_m249 155 4 false := by
  intro us h C S K0 hl hb hI hk
  obtain ⟨hr, ⟨hJ, hS, hC⟩, hday⟩ := hI
  match us, hl with
  | [u0, u1, u2, u3], _ => exact p_span hr hJ (fun r H hf q0 => hk r H ⟨hf.1, ⟨q0, (j_say_e hf rfl rfl hS), (j_cost_e hf rfl rfl hC)⟩, t_day_fr hf rfl hday⟩ (g_fk_ok hf h6))
theorem g_r250 {X : aX} {F A : List Nat} (h6 : g_fk F A [19584, 19585, 19587, 19588] [154, 155, 158, 163, 176] = true) : g_told F A X 200 a_m250 155 2 false := by
  intro us h C S K0 hl hb hI hk
  obtain ⟨hr, ⟨hJ, hS, hC⟩, hday⟩ := hI
  match us, hl with
  | [u0, u1], _ => exact p_reach hr hJ (fun r H hf q0 => hk r H ⟨hf.1, ⟨q0, (j_say_e hf rfl rfl hS), (j_cost_e hf rfl rfl hC)⟩, t_day_fr hf rfl hday⟩ (g_fk_ok hf h6))
theorem g_r254 {X : aX} {F A : List Nat} (h6 : g_fk F A [19584, 19585, 19587, 19588] [154, 155, 158, 163, 176] = true) : g_told F A X 200 a_m254 155 1 false := by
  intro us h C S K0 hl hb hI hk
  obtain ⟨hr, ⟨hJ, hS, hC⟩, hday⟩ := hI
  match us, hl with
  | [u0], _ => exact p_leans hr hJ (fun r H hf q0 => hk r H ⟨hf.1, ⟨q0, (j_say_e hf rfl rfl hS), (j_cost_e hf rfl rfl hC)⟩, t_day_fr hf rfl hday⟩ (g_fk_ok hf h6))
theorem g_r255 {X : aX} {F A : List Nat} (h6 : g_fk F A [19584, 19625] [177, 178] = true) : g_told F A X 200 a_m255 155 2 false := by
  intro us h C S K0 hl hb hI hk
  obtain ⟨hr, ⟨hJ, hS, hC⟩, hday⟩ := hI
  match us, hl with
  | [u0, u1], _ => exact p_head hr (fun r H hf => hk r H ⟨hf.1, ⟨(y_J_fr hf rfl rfl hJ), (j_say_e hf rfl rfl hS), (j_cost_e hf rfl rfl hC)⟩, t_day_fr hf rfl hday⟩ (g_fk_ok hf h6))
theorem g_r256 {X : aX} {F A : List Nat} (h6 : g_fk F A [19584, 19585, 19587, 19588, 19589, 19629, 19630, 19631, 19632, 19633] [154, 163, 179] = true) : g_told F A X 200 a_m256 155 2 false := by
  intro us h C S K0 hl hb hI hk
  obtain ⟨hr, ⟨hJ, hS, hC⟩, hday⟩ := hI
  match us, hl with
  | [u0, u1], _ => exact p_hear hr hJ (fun r H hf q0 => hk r H ⟨hf.1, ⟨q0, (j_say_e hf rfl rfl hS), (j_cost_e hf rfl rfl hC)⟩, t_day_fr hf rfl hday⟩ (g_fk_ok hf h6))
theorem g_r262 {X : aX} {F A : List Nat} (h6 : g_fk F A [19584, 19587, 19588, 19589, 19629, 19630, 19631, 19632, 19633] [155, 163, 179] = true) : g_told F A X 200 a_m262 155 2 false := by
  intro us h C S K0 hl hb hI hk
  obtain ⟨hr, ⟨hJ, hS, hC⟩, hday⟩ := hI
  match us, hl with
  | [u0, u1], _ => exact p_errs hr hJ (fun r H hf q0 => hk r H ⟨hf.1, ⟨q0, (j_say_e hf rfl rfl hS), (j_cost_e hf rfl rfl hC)⟩, t_day_fr hf rfl hday⟩ (g_fk_ok hf h6))
theorem g_r263 {X : aX} {F A : List Nat} (h6 : g_fk F A [19584, 19585, 19587, 19588, 19589, 19629, 19630, 19631, 19632, 19633, 19636, 19637, 19638, 19639] [154, 155, 163, 179, 180, 181] = true) : g_told F A X 200 a_m263 155 2 false := by
  intro us h C S K0 hl hb hI hk
  obtain ⟨hr, ⟨hJ, hS, hC⟩, hday⟩ := hI
  match us, hl with
  | [u0, u1], _ => exact p_order hr hJ (fun r H hf q0 => hk r H ⟨hf.1, ⟨q0, (j_say_e hf rfl rfl hS), (j_cost_e hf rfl rfl hC)⟩, t_day_fr hf rfl hday⟩ (g_fk_ok hf h6))
theorem g_r265 {X : aX} {F A : List Nat} (h6 : g_fk F A [19584, 19585, 19587, 19588] [154] = true) : g_told F A X 200 a_m265 155 4 false := by
  intro us h C S K0 hl hb hI hk
  obtain ⟨hr, ⟨hJ, hS, hC⟩, hday⟩ := hI
  match us, hl with
  | [u0, u1, u2, u3], _ => exact p_list hr (fun r H hf => hk r H ⟨hf.1, ⟨(y_J_fr hf rfl rfl hJ), (j_say_e hf rfl rfl hS), (j_cost_e hf rfl rfl hC)⟩, t_day_fr hf rfl hday⟩ (g_fk_ok hf h6))
theorem g_r267 {X : aX} {F A : List Nat} (h6 : g_fk F A [19584] [] = true) : g_told F A X 200 a_m267 155 2 false := by
  intro us h C S K0 hl hb hI hk
  obtain ⟨hr, ⟨hJ, hS, hC⟩, hday⟩ := hI
  match us, hl with
  | [u0, u1], _ => exact p_many hr (fun H hf => hk _ H ⟨hf.1, ⟨(y_J_fr hf rfl rfl hJ), (j_say_e hf rfl rfl hS), (j_cost_e hf rfl rfl hC)⟩, t_day_fr hf rfl hday⟩ (g_fk_ok hf h6))
theorem g_r268 {X : aX} {F A : List Nat} (h6 : g_fk F A [19584, 19585, 19587, 19588, 19589] [154, 163] = true) : g_told F A X 200 a_m268 155 3 false := by
  intro us h C S K0 hl hb hI hk
  obtain ⟨hr, ⟨hJ, hS, hC⟩, hday⟩ := hI
  match us, hl with
  | [u0, u1, u2], _ => exact p_test hr hJ (fun r H hf q0 => hk r H ⟨hf.1, ⟨q0, (j_say_e hf rfl rfl hS), (j_cost_e hf rfl rfl hC)⟩, t_day_fr hf rfl hday⟩ (g_fk_ok hf h6))
theorem g_r270 {X : aX} {F A : List Nat} (h6 : g_fk F A [19584, 19640] [182, 183] = true) : g_told F A X 200 a_m270 155 5 false := by
  intro us h C S K0 hl hb hI hk
  obtain ⟨hr, ⟨hJ, hS, hC⟩, hday⟩ := hI
  match us, hl with
  | [u0, u1, u2, u3, u4], _ => exact p_land hr hJ (fun r H hf q0 => hk r H ⟨hf.1, ⟨q0, (j_say_e hf rfl rfl hS), (j_cost_e hf rfl rfl hC)⟩, t_day_fr hf rfl hday⟩ (g_fk_ok hf h6))
theorem g_r271 {X : aX} {F A : List Nat} (h6 : g_fk F A [19584, 19585, 19587, 19588] [154] = true) : g_told F A X 200 a_m271 155 2 false := by
  intro us h C S K0 hl hb hI hk
  obtain ⟨hr, ⟨hJ, hS, hC⟩, hday⟩ := hI
  match us, hl with
  | [u0, u1], _ => exact p_mark hr hJ (fun r H hf q0 => hk r H ⟨hf.1, ⟨q0, (j_say_e hf rfl rfl hS), (j_cost_e hf rfl rfl hC)⟩, t_day_fr hf rfl hday⟩ (g_fk_ok hf h6))
theorem g_r272 {X : aX} {F A : List Nat} (h6 : g_fk F A [19584] [] = true) : g_told F A X 200 a_m272 155 2 false := by
  intro us h C S K0 hl hb hI hk
  obtain ⟨hr, ⟨hJ, hS, hC⟩, hday⟩ := hI
  match us, hl with
  | [u0, u1], _ => exact p_rare hr hJ (fun r H hf => hk r H ⟨hf.1, ⟨(y_J_fr hf rfl rfl hJ), (j_say_e hf rfl rfl hS), (j_cost_e hf rfl rfl hC)⟩, t_day_fr hf rfl hday⟩ (g_fk_ok hf h6))
theorem g_r273 {X : aX} {F A : List Nat} (h6 : g_fk F A [19584, 19643] [184, 185, 186] = true) : g_told F A X 200 a_m273 155 3 true := by
  intro us h C S K0 hl hb hI hk
  obtain ⟨hr, ⟨hJ, hS, hC⟩, hday⟩ := hI
  match us, hl with
  | [u0, u1, u2], _ => exact p_day hr (hb rfl u0 (by simp)).1 (hb rfl u0 (by simp)).2 (hb rfl u1 (by simp)).1 (hb rfl u1 (by simp)).2 (hb rfl u2 (by simp)).1 (hb rfl u2 (by simp)).2 (fun r H hf => hk r H ⟨hf.1, ⟨(y_J_fr hf rfl rfl hJ), (j_say_e hf rfl rfl hS), (j_cost_e hf rfl rfl hC)⟩, t_day_fr hf rfl hday⟩ (g_fk_ok hf h6))
theorem g_r274 {X : aX} {F A : List Nat} (h6 : g_fk F A [19584, 19585, 19587, 19588] [154] = true) : g_told F A X 200 a_m274 155 1 false := by
  intro us h C S K0 hl hb hI hk
  obtain ⟨hr, ⟨hJ, hS, hC⟩, hday⟩ := hI
  match us, hl with
  | [u0], _ => exact p_shifts hr (fun r H hf => hk r H ⟨hf.1, ⟨(y_J_fr hf rfl rfl hJ), (j_say_e hf rfl rfl hS), (j_cost_e hf rfl rfl hC)⟩, t_day_fr hf rfl hday⟩ (g_fk_ok hf h6))
theorem g_r278 {X : aX} {F A : List Nat} (h6 : g_fk F A [19584, 19587, 19588] [] = true) : g_told F A X 200 a_m278 155 1 false := by
  intro us h C S K0 hl hb hI hk
  obtain ⟨hr, ⟨hJ, hS, hC⟩, hday⟩ := hI
  match us, hl with
  | [u0], _ => exact p_enough hr (fun r H hf => hk r H ⟨hf.1, ⟨(y_J_fr hf rfl rfl hJ), (j_say_e hf rfl rfl hS), (j_cost_e hf rfl rfl hC)⟩, t_day_fr hf rfl hday⟩ (g_fk_ok hf h6))
theorem g_r279 {X : aX} {F A : List Nat} (h6 : g_fk F A [19584] [187, 188, 189, 190, 191, 192, 193, 194] = true) : g_told F A X 200 a_m279 155 1 false := by
  intro us h C S K0 hl hb hI hk
  obtain ⟨hr, ⟨hJ, hS, hC⟩, hday⟩ := hI
  match us, hl with
  | [u0], _ => exact p_keep hr hJ hC (fun r H hf q0 q1 q2 => hk r H ⟨hf.1, ⟨q0, (j_say_e hf rfl rfl hS), q1⟩, t_day_fr hf rfl hday⟩ (g_fk_ok hf h6))
theorem g_r280 {X : aX} {F A : List Nat} (h6 : g_fk F A [19584, 19598] [158, 159, 160, 161, 162] = true) : g_told F A X 200 a_m280 155 1 false := by
  intro us h C S K0 hl hb hI hk
  obtain ⟨hr, ⟨hJ, hS, hC⟩, hday⟩ := hI
  match us, hl with
  | [u0], _ => exact p_again hr hJ hC (fun r H hf q0 q1 q2 => hk r H ⟨hf.1, ⟨q0, (j_say_e hf rfl rfl hS), q1⟩, t_day_fr hf rfl hday⟩ (g_fk_ok hf h6))
theorem g_r281 {X : aX} {F A : List Nat} (h6 : g_fk F A [19584] [] = true) : g_told F A X 200 a_m281 155 1 false := by
  intro us h C S K0 hl hb hI hk
  obtain ⟨hr, ⟨hJ, hS, hC⟩, hday⟩ := hI
  match us, hl with
  | [u0], _ => exact p_count hr hJ (fun r H hf => hk r H ⟨hf.1, ⟨(y_J_fr hf rfl rfl hJ), (j_say_e hf rfl rfl hS), (j_cost_e hf rfl rfl hC)⟩, t_day_fr hf rfl hday⟩ (g_fk_ok hf h6))
theorem g_r283 {X : aX} {F A : List Nat} (h6 : g_fk F A [19584] [] = true) : g_told F A X 200 a_m283 155 2 false := by
  intro us h C S K0 hl hb hI hk
  obtain ⟨hr, ⟨hJ, hS, hC⟩, hday⟩ := hI
  match us, hl with
  | [u0, u1], _ => exact p_of hr hJ (fun r H hf => hk r H ⟨hf.1, ⟨(y_J_fr hf rfl rfl hJ), (j_say_e hf rfl rfl hS), (j_cost_e hf rfl rfl hC)⟩, t_day_fr hf rfl hday⟩ (g_fk_ok hf h6))
theorem g_r287 {X : aX} {F A : List Nat} (h6 : g_fk F A [19584] [] = true) : g_toldL F A X 200 a_m287 155 1 false := by
  intro us h C S K0 hl hb hI hk
  obtain ⟨hr, ⟨hJ, hS, hC⟩, hday⟩ := hI
  match us, hl with
  | [u0], _ => exact p_row hr (fun r H hf => hk r H ⟨hf.1, ⟨(y_J_fr hf rfl rfl hJ), (j_say_e hf rfl rfl hS), (j_cost_e hf rfl rfl hC)⟩, t_day_fr hf rfl hday⟩ (g_fk_ok hf h6))
/-- what rests on those places alone -/
def g_sup (I : aH → Prop) (F A : List Nat) : Prop := ∀ h H, t_I H → g_sm F A h H → I h → I H
section GO
variable {X : aX} {j n r0 : Nat} {b : Bool} {M : aM} {I : aH → Prop} {Md : Nat → List Int32 → Int32 → aH → Prop} {F A : List Nat}
theorem g_of1 (hs : g_sup I F A) (hi : ∀ h, I h → t_I h) (g : g_told F A X 200 M r0 n b) (hM : s_P[j]? = some M) (ha : M.2.2.2.2.1 = n) (hl : Nat.ble (n + 1) M.2.2.1 = true) : n_G X I Md (j, r0, n, b, 1, 0, 0) :=
  ⟨M, hM, ha, hl, fun us h0 C S K0 h1 h2 h3 => g us h0 C S K0 h1 h2 (hi _ h3.1) (fun x H hI s => h3.2 _ H (hs h0 H hI s h3.1) (Or.inr ⟨(show (1 : Nat) ≠ 2 by decide), x, rfl⟩))⟩
theorem g_of2 (hs : g_sup I F A) (hi : ∀ h, I h → t_I h) (g : g_toldL F A X 200 M r0 n b) (hM : s_P[j]? = some M) (ha : M.2.2.2.2.1 = n) (hl : Nat.ble (n + 1) M.2.2.1 = true) : n_G X I Md (j, r0, n, b, 2, 0, 0) :=
  ⟨M, hM, ha, hl, fun us h0 C S K0 h1 h2 h3 => g us h0 C S K0 h1 h2 (hi _ h3.1) (fun x H hI s => h3.2 _ H (hs h0 H hI s h3.1) (Or.inl ⟨rfl, x, rfl⟩))⟩
def g_low (F A : List Nat) : Bool := F.all (fun k => Nat.blt k 24960) && A.all (fun o => Nat.blt o 195)
theorem g_I_out {h H : aH} (hs : g_sup I F A) (hi : ∀ h, I h → t_I h) (hw : g_low F A = true) (e : y_fr h H [] [195]) (q : I h) : I H := by
  unfold g_low at hw
  rw [Bool.and_eq_true] at hw
  refine hs h H (t_I_out e (hi _ q)) ⟨fun k _ => e.2.1 k List.not_mem_nil, fun o ho => e.2.2 o (fun w => ?_)⟩ q
  have := List.all_eq_true.mp hw.2 o ho
  rw [Nat.blt_eq] at this
  have w := List.mem_singleton.mp w
  omega
theorem g_I_app {H l : aH} (hs : g_sup I F A) (hi : ∀ h, I h → t_I h) (hw : g_low F A = true) (q : I H) : I (H ++ l) := by
  unfold g_low at hw
  rw [Bool.and_eq_true] at hw
  have hr := (hi _ q).1
  have hlen : 195 < H.length := by
    obtain ⟨e, h1, -⟩ := hr.1 195 _ rfl
    exact (List.getElem?_eq_some_iff.mp h1).1
  have hg : ∀ o, o < 196 → (H ++ l)[o]? = H[o]? := fun o ho => List.getElem?_append_left (by omega)
  refine hs H _ (t_I_app (hi _ q)) ⟨fun k hk => ?_, fun o ho => ?_⟩ q
  · have := List.all_eq_true.mp hw.1 k hk
    rw [Nat.blt_eq] at this
    unfold w_f
    rw [hg _ (by omega)]
  · have := List.all_eq_true.mp hw.2 o ho
    rw [Nat.blt_eq] at this
    unfold w_a
    rw [hg _ (by omega)]
end GO
theorem g_S169 {X : aX} {I : aH → Prop} {F A : List Nat} (hs : g_sup I F A) (hi : ∀ h, I h → t_I h) (hw : g_low F A = true) : n_S X I 169 2 := by
  refine ⟨a_m169, rfl, rfl, rfl, fun us h C S K0 hl hI hk => ?_⟩
  match us, hl with
  | [a, b], _ =>
    have T8 : ∀ {G : aH} {r : Int32}, y_fr h G [] [] → aOK s_P X 201 a_m169 8 [some (.ref 2), some (.int a), some (.int b), some (.ref 197), none] [.int r, .int (Int32.ofInt 0), .ref 197] G C S K0 := by
      intro G r e
      refine w_go z_hl [] [] 30 e.1 ?_
      exact ⟨⟨by decide, by decide⟩, y_l64 _, fun l hl len bb => fun H hH => hk _ H C S (g_I_out hs hi hw (y_st (y_mo e rfl rfl) hH (by repeat (first | exact w_nil | refine w_cons (Or.inl (y_m rfl)) ?_ | refine w_cons (Or.inr (by assumption)) ?_)) (by repeat (first | exact w_nil | refine w_cons (Or.inl (y_m rfl)) ?_ | refine w_cons (Or.inr (by assumption)) ?_))) hI) (by omega) (by omega)⟩
    show aOK s_P X 201 a_m169 0 [some (.ref 2), some (.int a), some (.int b), some (.ref 197), none] [] h C S K0
    refine aOK_op rfl rfl ?_
    refine aOK_op rfl rfl ?_
    refine aOK_op rfl rfl ?_
    refine aOK_op rfl rfl ?_
    refine aOK_op rfl rfl ?_
    have hinv : a_inv s_P (.invokevirtual 7) (18, 170, 11, 1305159) [.int b, .int a, .ref 2, .int (Int32.ofInt 0), .ref 197] h = some (a_m170, [.ref 2, .int a, .int b], [.int (Int32.ofInt 0), .ref 197]) := by
      have hrc := l_recv (hi _ hI).1 (r0 := 2) (ci := 11) rfl
      show (if a_recv h (.ref 2) 11 = true ∧ _ ∧ _ then some _ else none) = _
      rw [if_pos ⟨hrc, Nat.le_of_ble_eq_true rfl, Nat.le_of_ble_eq_true rfl⟩]
      rfl
    refine aOK_call rfl (by cases X <;> rfl) rfl hinv ?_
    show aOK s_P X (198 + 2) a_m170 0 [some (.ref 2), some (.int a), some (.int b)] [] h C S _
    refine c_of (hi _ hI).1 (fun r H e => Or.inr ⟨fun n q => (by cases q), ?_⟩) (fun H e => Or.inl ⟨⟨0, rfl⟩, rfl, hk _ _ _ _ (g_I_app hs hi hw (g_I_out hs hi hw (y_mo e rfl rfl) hI)) (by omega) (by omega)⟩)
    exact T8 e
theorem g_S171 {X : aX} {I : aH → Prop} {F A : List Nat} (hs : g_sup I F A) (hi : ∀ h, I h → t_I h) (hw : g_low F A = true) : n_S X I 171 1 := by
  refine ⟨a_m171, rfl, rfl, rfl, fun us h C S K0 hl hI hk => ?_⟩
  match us, hl with
  | [a], _ =>
    have T7 : ∀ {G : aH} {r : Int64}, y_fr h G [] [] → aOK s_P X 201 a_m171 7 [some (.ref 2), some (.int a), some (.ref 197), none] [.long r, .int (Int32.ofInt 0), .ref 197] G C S K0 := by
      intro G r e
      refine w_go z_hl [] [] 30 e.1 ?_
      exact ⟨⟨by decide, by decide⟩, y_l64 _, fun l hl len bb => fun H hH => hk _ H C S (g_I_out hs hi hw (y_st (y_mo e rfl rfl) hH (by repeat (first | exact w_nil | refine w_cons (Or.inl (y_m rfl)) ?_ | refine w_cons (Or.inr (by assumption)) ?_)) (by repeat (first | exact w_nil | refine w_cons (Or.inl (y_m rfl)) ?_ | refine w_cons (Or.inr (by assumption)) ?_))) hI) (by omega) (by omega)⟩
    show aOK s_P X 201 a_m171 0 [some (.ref 2), some (.int a), some (.ref 197), none] [] h C S K0
    refine aOK_op rfl rfl ?_
    refine aOK_op rfl rfl ?_
    refine aOK_op rfl rfl ?_
    refine aOK_op rfl rfl ?_
    have hinv : a_inv s_P (.invokevirtual 15) (18, 172, 11, 1105233) [.int a, .ref 2, .int (Int32.ofInt 0), .ref 197] h = some (a_m172, [.ref 2, .int a], [.int (Int32.ofInt 0), .ref 197]) := by
      have hrc := l_recv (hi _ hI).1 (r0 := 2) (ci := 11) rfl
      show (if a_recv h (.ref 2) 11 = true ∧ _ ∧ _ then some _ else none) = _
      rw [if_pos ⟨hrc, Nat.le_of_ble_eq_true rfl, Nat.le_of_ble_eq_true rfl⟩]
      rfl
    refine aOK_call rfl (by cases X <;> rfl) rfl hinv ?_
    show aOK s_P X 200 a_m172 0 [some (.ref 2), some (.int a)] [] h C S _
    refine c_row (hi _ hI).1 (fun r H e => Or.inr ⟨fun n q => (by cases q), ?_⟩) (fun H e => Or.inl ⟨⟨0, rfl⟩, rfl, hk _ _ _ _ (g_I_app hs hi hw (g_I_out hs hi hw (y_mo e rfl rfl) hI)) (by omega) (by omega)⟩)
    exact T7 e
end PT33ibb
section PT33ibc
/-! ===== v21: how a saying is read, on paper; the reference's readsThing, readsEvery, readsEvent ===== -/
/-- the sign at a place, 0 behind the end -/
def pr_k (T : Nat → Int) (t p : Nat) : Int := if p < t then T p else 0
/-- false: ahead of a thing, true: behind one; o brackets are open. What comes of it: whether it is an event, and the place -/
def pr_e (T : Nat → Int) (t : Nat) (n : Int) : Nat → Bool → Nat → Nat → Bool × Nat
  | 0, _, p, _ => (false, p)
  | f + 1, false, p, o => if pr_k T t p = 33 then pr_e T t n f false (p + 1) o else if pr_k T t p = 40 ∧ o < 5 then pr_e T t n f false (p + 1) (o + 1) else if 97 ≤ pr_k T t p ∧ pr_k T t p < 97 + n then pr_e T t n f true (p + 1) o else (false, p)
  | f + 1, true, p, o => if pr_k T t p = 41 ∧ 0 < o then pr_e T t n f true (p + 1) (o - 1) else if pr_k T t p = 38 ∨ pr_k T t p = 124 then pr_e T t n f false (p + 1) o else (decide (o = 0), p)
def pr_E (T : Nat → Int) (t : Nat) (n : Int) (b : Bool) (p o : Nat) : Bool × Nat := pr_e T t n (41 - p) b p o
section PRE
variable {T : Nat → Int} {t p o : Nat} {n : Int}
theorem pr_E0 (hp : p ≤ 40) : pr_E T t n false p o = if pr_k T t p = 33 then pr_E T t n false (p + 1) o else if pr_k T t p = 40 ∧ o < 5 then pr_E T t n false (p + 1) (o + 1) else if 97 ≤ pr_k T t p ∧ pr_k T t p < 97 + n then pr_E T t n true (p + 1) o else (false, p) := by
  have e : 41 - p = (41 - (p + 1)) + 1 := by omega
  unfold pr_E
  rw [e]
  rfl
theorem pr_E1 (hp : p ≤ 40) : pr_E T t n true p o = if pr_k T t p = 41 ∧ 0 < o then pr_E T t n true (p + 1) (o - 1) else if pr_k T t p = 38 ∨ pr_k T t p = 124 then pr_E T t n false (p + 1) o else (decide (o = 0), p) := by
  have e : 41 - p = (41 - (p + 1)) + 1 := by omega
  unfold pr_E
  rw [e]
  rfl
theorem pr_k_1 (h : p < t) : pr_k T t p = T p := if_pos h
theorem pr_k_n {c : Int} (c0 : c ≠ 0) (h : ¬ (T p = c ∧ p < t)) : pr_k T t p ≠ c := fun e => by
  unfold pr_k at e
  by_cases w : p < t
  · rw [if_pos w] at e
    exact h ⟨e, w⟩
  · rw [if_neg w] at e
    exact c0 e.symm
theorem pr_k_y {c : Int} (w : p < t) (h : T p = c) : pr_k T t p = c := by
  rw [pr_k_1 w, h]
/-- ! and what follows -/
theorem pr_bang (hp : p ≤ 40) (h : pr_k T t p = 33) : pr_E T t n false p o = pr_E T t n false (p + 1) o := by
  rw [pr_E0 hp, if_pos h]
theorem pr_open (hp : p ≤ 40) (h : pr_k T t p = 40) (ho : o < 5) : pr_E T t n false p o = pr_E T t n false (p + 1) (o + 1) := by
  rw [pr_E0 hp, if_neg (by rw [h]; decide), if_pos ⟨h, ho⟩]
theorem pr_let (hp : p ≤ 40) (h1 : 97 ≤ pr_k T t p) (h2 : pr_k T t p < 97 + n) : pr_E T t n false p o = pr_E T t n true (p + 1) o := by
  rw [pr_E0 hp, if_neg (by omega), if_neg (fun w => by have := w.1; omega), if_pos ⟨h1, h2⟩]
theorem pr_bad (hp : p ≤ 40) (h1 : pr_k T t p ≠ 33) (h2 : ¬ (pr_k T t p = 40 ∧ o < 5)) (h3 : ¬ (97 ≤ pr_k T t p ∧ pr_k T t p < 97 + n)) : pr_E T t n false p o = (false, p) := by
  rw [pr_E0 hp, if_neg h1, if_neg h2, if_neg h3]
theorem pr_close (hp : p ≤ 40) (h : pr_k T t p = 41) : pr_E T t n true p (o + 1) = pr_E T t n true (p + 1) o := by
  rw [pr_E1 hp, if_pos ⟨h, by omega⟩]
  rfl
theorem pr_op (hp : p ≤ 40) (h : pr_k T t p = 38 ∨ pr_k T t p = 124) : pr_E T t n true p o = pr_E T t n false (p + 1) o := by
  rw [pr_E1 hp, if_neg (fun w => by have := w.1; omega), if_pos h]
theorem pr_end (hp : p ≤ 40) (h1 : ¬ (pr_k T t p = 41 ∧ 0 < o)) (h2 : pr_k T t p ≠ 38) (h3 : pr_k T t p ≠ 124) : pr_E T t n true p o = (decide (o = 0), p) := by
  rw [pr_E1 hp, if_neg h1, if_neg (fun w => by rcases w with w | w; exact h2 w; exact h3 w)]
end PRE
/-- where the reader stands, and how many letters there are -/
def pr_s (nd : Int32) (h : aH) (tp : List Int32) (t p o : Nat) : Prop := ∃ toI atI opI : Int32, w_hr z_D h ∧ w_a h 171 = some (0, .inl tp) ∧ w_f h 19614 = some (.int toI) ∧ toI.toInt = t ∧ w_f h 19613 = some (.int atI) ∧ atI.toInt = p ∧ w_f h 19615 = some (.int opI) ∧ opI.toInt = (o : Nat) ∧ w_f h 19591 = some (.int nd) ∧ p ≤ t ∧ t ≤ 40 ∧ o ≤ 5
theorem pr_s_y {nd : Int32} {h : aH} {tp : List Int32} {t p o : Nat} (s : pr_s nd h tp t p o) : y_ps h tp t p (o : Nat) := by
  obtain ⟨toI, atI, opI, hr, a1, a2, a3, a4, a5, a6, a7, a8, a9, a10, a11⟩ := s
  exact ⟨toI, atI, opI, nd, hr, a1, a2, a3, a4, a5, a6, a7, a8, a9, a10, by omega, by omega⟩
theorem pr_s_fr {nd : Int32} {h H : aH} {tp : List Int32} {t p o : Nat} {fs as : List Nat} (s : pr_s nd h tp t p o) (e : y_fr h H fs as) (h1 : [19614, 19613, 19615, 19591].all (fun x => !fs.elem x) = true) (h2 : as.elem 171 = false) : pr_s nd H tp t p o := by
  obtain ⟨toI, atI, opI, hr, a1, a2, a3, a4, a5, a6, a7, a8, a9⟩ := s
  have k : ∀ x, [19614, 19613, 19615, 19591].elem x = true → fs.elem x = false := fun x hx => by
    have := List.all_eq_true.mp h1 x (List.elem_iff.mp hx)
    cases q : fs.elem x with
    | true => rw [q] at this; cases this
    | false => rfl
  exact ⟨toI, atI, opI, e.1, (y_ae e h2).trans a1, (y_fe e (k _ rfl)).trans a2, a3, (y_fe e (k _ rfl)).trans a4, a5, (y_fe e (k _ rfl)).trans a6, a7, (y_fe e (k _ rfl)).trans a8, a9⟩
theorem pr_s_hr {nd : Int32} {h : aH} {tp : List Int32} {t p o : Nat} (s : pr_s nd h tp t p o) : w_hr z_D h ∧ p ≤ t ∧ t ≤ 40 ∧ o ≤ 5 := by
  obtain ⟨toI, atI, opI, hr, a1, a2, a3, a4, a5, a6, a7, a8, pt, t40, o5⟩ := s
  exact ⟨hr, pt, t40, o5⟩
/-- the reader's place alone moved -/
theorem pr_s_ps {nd : Int32} {h H : aH} {tp : List Int32} {t p q o : Nat} (s : pr_s nd h tp t p o) (e : y_fr h H [19613] []) (s2 : y_ps H tp t q (o : Nat)) : pr_s nd H tp t q o := by
  obtain ⟨toI, atI, opI, hr, a1, a2, a3, a4, a5, a6, a7, a8, a9, a10, a11⟩ := s
  obtain ⟨toJ, atJ, opJ, nd', -, b1, b2, b3, b4, b5, b6, b7, b8, b9, b10, b11, b12⟩ := s2
  exact ⟨toJ, atJ, opJ, e.1, b1, b2, b3, b4, b5, b6, b7, (y_fe e rfl).trans a8, b9, b10, a11⟩
section PRR
variable {X : aX} {C S d n : Nat} {K0 : Option Value → aH → Nat → Nat → Prop} {h : aH} {tp : List Int32} {t p o : Nat} {nd : Int32}
theorem pr_isAt (s : pr_s nd h tp t p o) {c : Int32} (c0 : c.toInt ≠ 0) (yes : ∀ H, y_fr h H [] [] → p < t → pr_k (y_N tp) t p = c.toInt → K0 (some (.int (Int32.ofInt 1))) H C S) (no : ∀ H, y_fr h H [] [] → pr_k (y_N tp) t p ≠ c.toInt → K0 (some (.int (Int32.ofInt 0))) H C S) : aOK s_P X d a_m227 0 [some (.ref 155), some (.int c)] [] h C S K0 := y_isAt (pr_s_y s) (fun H e hp hc => yes H e hp (pr_k_y hp hc)) (fun H e hn => no H e (pr_k_n c0 hn))
theorem pr_comes (s : pr_s nd h tp t p o) {c : Int32} (c0 : c.toInt ≠ 0) (yes : ∀ H, y_fr h H [19613] [] → pr_s nd H tp t (p + 1) o → p < t → pr_k (y_N tp) t p = c.toInt → K0 (some (.int (Int32.ofInt 1))) H C S) (no : ∀ H, y_fr h H [19613] [] → pr_s nd H tp t p o → pr_k (y_N tp) t p ≠ c.toInt → K0 (some (.int (Int32.ofInt 0))) H C S) : aOK s_P X (d + 1) a_m226 0 [some (.ref 155), some (.int c), none] [] h C S K0 := y_comes (pr_s_y s) (fun H e s2 hp hc => yes H e (pr_s_ps s e s2) hp (pr_k_y hp hc)) (fun H e s2 hn => no H e (pr_s_ps s e s2) (pr_k_n c0 hn))
theorem pr_isLetter (s : pr_s nd h tp t p o) (n0 : 0 ≤ nd.toInt) (n10 : nd.toInt ≤ 10) (yes : ∀ H, y_fr h H [] [] → p < t → 97 ≤ pr_k (y_N tp) t p → pr_k (y_N tp) t p < 97 + nd.toInt → K0 (some (.int (Int32.ofInt 1))) H C S) (no : ∀ H, y_fr h H [] [] → ¬ (97 ≤ pr_k (y_N tp) t p ∧ pr_k (y_N tp) t p < 97 + nd.toInt) → K0 (some (.int (Int32.ofInt 0))) H C S) : aOK s_P X (d + 1) a_m232 0 [some (.ref 155)] [] h C S K0 := by
  obtain ⟨toI, atI, opI, hr, a1, a2, a3, a4, a5, a6, a7, a8, pt, t40, o5⟩ := s
  have ac := y_cl1 a5
  have c97 : ((Int8.ofInt 97).toInt32).toInt = 97 := by decide
  have s1 : (((Int8.ofInt 97).toInt32 + nd) - Int32.ofInt 1).toInt = 96 + nd.toInt := by
    have a : ((Int8.ofInt 97).toInt32 + nd).toInt = 97 + nd.toInt := by
      rw [Int32.toInt_add, c97]
      exact Int.bmod_eq_of_le (by omega) (by omega)
    rw [Int32.toInt_sub, a, show (Int32.ofInt 1).toInt = 1 by decide]
    have b := Int.bmod_eq_of_le (n := 97 + nd.toInt - 1) (m := 2 ^ 32) (by omega) (by omega)
    rw [b]
    omega
  have T37y : ∀ {G : aH}, y_fr h G [] [] → p < t → 97 ≤ pr_k (y_N tp) t p → pr_k (y_N tp) t p < 97 + nd.toInt → aOK s_P X (d + 1) a_m232 37 [some (.ref 155)] [.int (y_01 true)] G C S K0 := by
    intro G e hp hc hc2
    refine w_go z_hl [] [] 40 e.1 ?_
    exact ⟨fun q => absurd q (by decide), fun _ => ⟨by decide, fun H hH => yes H (y_st e hH (by repeat (first | exact w_nil | refine w_cons (Or.inl (y_m rfl)) ?_ | refine w_cons (Or.inr (by assumption)) ?_)) (by repeat (first | exact w_nil | refine w_cons (Or.inl (y_m rfl)) ?_ | refine w_cons (Or.inr (by assumption)) ?_))) hp hc hc2⟩⟩
  have T37n : ∀ {G : aH}, y_fr h G [] [] → ¬ (97 ≤ pr_k (y_N tp) t p ∧ pr_k (y_N tp) t p < 97 + nd.toInt) → aOK s_P X (d + 1) a_m232 37 [some (.ref 155)] [.int (y_01 false)] G C S K0 := by
    intro G e hn
    refine w_go z_hl [] [] 40 e.1 ?_
    exact ⟨fun _ => ⟨by decide, fun H hH => no H (y_st e hH (by repeat (first | exact w_nil | refine w_cons (Or.inl (y_m rfl)) ?_ | refine w_cons (Or.inr (by assumption)) ?_)) (by repeat (first | exact w_nil | refine w_cons (Or.inl (y_m rfl)) ?_ | refine w_cons (Or.inr (by assumption)) ?_))) hn⟩, fun q => absurd q (by decide)⟩
  refine w_go z_hl [] [176] 40 hr ?_
  intro x hx _ _
  obtain rfl := y_fi a4 hx
  intro y hy _ _
  obtain rfl := y_fi a2 hy
  refine ⟨fun q => ⟨by decide, fun H hH => no H (y_st (y_rf hr) hH (by repeat (first | exact w_nil | refine w_cons (Or.inl (y_m rfl)) ?_ | refine w_cons (Or.inr (by assumption)) ?_)) (by repeat (first | exact w_nil | refine w_cons (Or.inl (y_m rfl)) ?_ | refine w_cons (Or.inr (by assumption)) ?_))) (fun w => ?_)⟩, fun q => ?_⟩
  · have q1 : toI.toInt ≤ atI.toInt := (y_ci .ge _ _).mp q
    have k0 : pr_k (y_N tp) t p = 0 := if_neg (by omega)
    omega
  · have q1 : ¬ (toI.toInt ≤ atI.toInt) := y_cif q
    have pt' : p < t := by omega
    have ek : pr_k (y_N tp) t p = y_N tp p := pr_k_1 pt'
    refine ⟨⟨by omega, by omega⟩, fun l hl len bb => ?_⟩
    obtain rfl := y_ai a1 hl
    intro z hz _ _
    obtain rfl := y_fi a8 hz
    intro H hH
    have e : y_fr h H [] [] := y_st (y_rf hr) hH (by repeat (first | exact w_nil | refine w_cons (Or.inl (y_m rfl)) ?_ | refine w_cons (Or.inr (by assumption)) ?_)) (by repeat (first | exact w_nil | refine w_cons (Or.inl (y_m rfl)) ?_ | refine w_cons (Or.inr (by assumption)) ?_))
    refine q_in (v := (tp.getD atI.toNatClampNeg 0).toInt64) (lo := Int64.ofInt 97) e.1 (fun H2 e2 l1 l2 => ⟨fun n e => (by cases e), ?_⟩) (fun H2 e2 l3 => ⟨fun n e => (by cases e), ?_⟩)
    · rw [y_i2l, ac, y_i64 (by decide) (by decide)] at l1
      rw [y_i2l, y_i2l, ac, s1] at l2
      have l1' : 97 ≤ y_N tp p := l1
      have l2' : y_N tp p ≤ 96 + nd.toInt := l2
      exact T37y (y_sq e e2 rfl rfl) pt' (by omega) (by omega)
    · rw [y_i2l, y_i2l, ac, y_i64 (by decide) (by decide), s1] at l3
      refine T37n (y_sq e e2 rfl rfl) (fun w => l3 ?_ ?_)
      · show 97 ≤ y_N tp p
        omega
      · show y_N tp p ≤ 96 + nd.toInt
        omega
end PRR
end PT33ibc
section PT33ibd
/-! ===== v21: readsThing, readsEvery, readsEvent of the reference (laid by wip/tools/mk21.py) ===== -/
/-- behind what is read, by what it was: thing, every, event -/
def pr_f (k : Nat) (T : Nat → Int) (t q : Nat) : Prop := (k ≠ 0 → pr_k T t q ≠ 38) ∧ (k = 2 → pr_k T t q ≠ 124)
def pr_RD (X : aX) (C S d : Nat) (nd : Int32) (n : Nat) : Prop := ∀ (k : Nat) (h : aH) (K0 : Option Value → aH → Nat → Nat → Prop) (tp : List Int32) (t p o : Nat), k < 3 → pr_s nd h tp t p o → 4 * (t - p) + k + 1 ≤ n →
  (∀ (H : aH) (q : Nat), y_fr h H [19613, 19615] [] → pr_s nd H tp t q o → p < q → pr_E (y_N tp) t nd.toInt false p o = pr_E (y_N tp) t nd.toInt true q o → pr_f k (y_N tp) t q → K0 (some (.int (Int32.ofInt 1))) H C S) →
  (∀ (H : aH) (q o' : Nat), y_fr h H [19613, 19615] [] → pr_s nd H tp t q o' → pr_E (y_N tp) t nd.toInt false p o = (false, q) → K0 (some (.int (Int32.ofInt 0))) H C S) →
  aOK s_P X (n + d + 2) (y_rm k) 0 (y_rl k) [] h C S K0
section PRT
variable {X : aX} {C S d n : Nat} {K0 : Option Value → aH → Nat → Nat → Prop} {h : aH} {tp : List Int32} {t p o : Nat} {nd : Int32}
theorem pr_rd0 (n0 : 0 ≤ nd.toInt) (n10 : nd.toInt ≤ 10) (ih : pr_RD X C S d nd n) (s : pr_s nd h tp t p o) (hn : 4 * (t - p) + 1 ≤ n + 1) (yes : ∀ (H : aH) (q : Nat), y_fr h H [19613, 19615] [] → pr_s nd H tp t q o → p < q → pr_E (y_N tp) t nd.toInt false p o = pr_E (y_N tp) t nd.toInt true q o → K0 (some (.int (Int32.ofInt 1))) H C S) (no : ∀ (H : aH) (q o' : Nat), y_fr h H [19613, 19615] [] → pr_s nd H tp t q o' → pr_E (y_N tp) t nd.toInt false p o = (false, q) → K0 (some (.int (Int32.ofInt 0))) H C S) : aOK s_P X (n + 1 + d + 2) a_m231 0 [some (.ref 155)] [] h C S K0 := by
  obtain ⟨hr, pt, t40, o5⟩ := pr_s_hr s
  have e0 : y_fr h h [19613, 19615] [] := y_mo (y_rf hr) rfl rfl
  have c33 : ((Int8.ofInt 33).toInt32).toInt = 33 := by decide
  have c40 : ((Int8.ofInt 40).toInt32).toInt = 40 := by decide
  have c41 : ((Int8.ofInt 41).toInt32).toInt = 41 := by decide
  have T13y : ∀ {G : aH} {q : Nat}, y_fr h G [19613, 19615] [] → pr_s nd G tp t q o → p < q → pr_E (y_N tp) t nd.toInt false p o = pr_E (y_N tp) t nd.toInt true q o → aOK s_P X (n + 1 + d + 2) a_m231 13 [some (.ref 155)] [.int (Int32.ofInt 1)] G C S K0 := by
    intro G q e s2 hpq hE
    refine w_go z_hl [] [] 30 e.1 ?_
    refine ⟨by decide, fun H hH => ?_⟩
    have f : y_fr G H [] [] := y_st (y_rf e.1) hH (by repeat (first | exact w_nil | refine w_cons (Or.inl (y_m rfl)) ?_ | refine w_cons (Or.inr (by assumption)) ?_)) (by repeat (first | exact w_nil | refine w_cons (Or.inl (y_m rfl)) ?_ | refine w_cons (Or.inr (by assumption)) ?_))
    exact yes H q (y_sq e f rfl rfl) (pr_s_fr s2 f rfl rfl) hpq hE
  have T13n : ∀ {G : aH} {q o' : Nat}, y_fr h G [19613, 19615] [] → pr_s nd G tp t q o' → pr_E (y_N tp) t nd.toInt false p o = (false, q) → aOK s_P X (n + 1 + d + 2) a_m231 13 [some (.ref 155)] [.int (Int32.ofInt 0)] G C S K0 := by
    intro G q o' e s2 hE
    refine w_go z_hl [] [] 30 e.1 ?_
    refine ⟨by decide, fun H hH => ?_⟩
    have f : y_fr G H [] [] := y_st (y_rf e.1) hH (by repeat (first | exact w_nil | refine w_cons (Or.inl (y_m rfl)) ?_ | refine w_cons (Or.inr (by assumption)) ?_)) (by repeat (first | exact w_nil | refine w_cons (Or.inl (y_m rfl)) ?_ | refine w_cons (Or.inr (by assumption)) ?_))
    exact no H q o' (y_sq e f rfl rfl) (pr_s_fr s2 f rfl rfl) hE
  have N : ∀ {G : aH} {pc q o' : Nat}, (pc = 50 ∨ pc = 88) → y_fr h G [19613, 19615] [] → pr_s nd G tp t q o' → pr_E (y_N tp) t nd.toInt false p o = (false, q) → aOK s_P X (n + 1 + d + 2) a_m231 pc [some (.ref 155)] [] G C S K0 := by
    intro G pc q o' hpc e s2 hE
    rcases hpc with rfl | rfl
    · refine w_go z_hl [] [] 30 e.1 ?_
      refine ⟨by decide, fun H hH => ?_⟩
      have f : y_fr G H [] [] := y_st (y_rf e.1) hH (by repeat (first | exact w_nil | refine w_cons (Or.inl (y_m rfl)) ?_ | refine w_cons (Or.inr (by assumption)) ?_)) (by repeat (first | exact w_nil | refine w_cons (Or.inl (y_m rfl)) ?_ | refine w_cons (Or.inr (by assumption)) ?_))
      exact no H q o' (y_sq e f rfl rfl) (pr_s_fr s2 f rfl rfl) hE
    · refine w_go z_hl [] [] 30 e.1 ?_
      refine ⟨by decide, fun H hH => ?_⟩
      have f : y_fr G H [] [] := y_st (y_rf e.1) hH (by repeat (first | exact w_nil | refine w_cons (Or.inl (y_m rfl)) ?_ | refine w_cons (Or.inr (by assumption)) ?_)) (by repeat (first | exact w_nil | refine w_cons (Or.inl (y_m rfl)) ?_ | refine w_cons (Or.inr (by assumption)) ?_))
      exact no H q o' (y_sq e f rfl rfl) (pr_s_fr s2 f rfl rfl) hE
  have T85y : ∀ {G : aH} {r : Nat}, y_fr h G [19613, 19615] [] → pr_s nd G tp t (r + 1) (o + 1) → p < r → pr_E (y_N tp) t nd.toInt false p o = pr_E (y_N tp) t nd.toInt true (r + 1) o → aOK s_P X (n + 1 + d + 2) a_m231 85 [some (.ref 155)] [.int (Int32.ofInt 1)] G C S K0 := by
    intro G r e s2 hpr hE
    obtain ⟨toI, atI, opI, -, a1, a2, a3, a4, a5, a6, a7, a8, pt', -, o5'⟩ := s2
    have dec : (opI - Int32.ofInt 1).toInt = opI.toInt - 1 := y_sub1 (by omega)
    refine w_go z_hl [] [] 30 e.1 ?_
    refine ⟨fun _ => ?_, fun q => absurd q (by decide)⟩
    intro x hx _ _
    obtain rfl := y_fi a6 hx
    refine ⟨rfl, y_zini (by show 0 ≤ (opI - Int32.ofInt 1).toInt; omega) (by show (opI - Int32.ofInt 1).toInt ≤ 5; omega), by decide, fun H hH => ?_⟩
    have f : y_fr G H [19615] [] := y_st (y_mo (y_rf e.1) rfl rfl) hH (by repeat (first | exact w_nil | refine w_cons (Or.inl (y_m rfl)) ?_ | refine w_cons (Or.inr (by assumption)) ?_)) (by repeat (first | exact w_nil | refine w_cons (Or.inl (y_m rfl)) ?_ | refine w_cons (Or.inr (by assumption)) ?_))
    exact yes H (r + 1) (y_sq e f rfl rfl) ⟨toI, atI, _, f.1, (y_ae f rfl).trans a1, (y_fe f rfl).trans a2, a3, (y_fe f rfl).trans a4, a5, hH.2.1 19615 _ rfl, (show (opI - Int32.ofInt 1).toInt = (o : Nat) by omega), (y_fe f rfl).trans a8, pt', t40, o5⟩ (by omega) hE
  have T85n : ∀ {G : aH} {q o' : Nat}, y_fr h G [19613, 19615] [] → pr_s nd G tp t q o' → pr_E (y_N tp) t nd.toInt false p o = (false, q) → aOK s_P X (n + 1 + d + 2) a_m231 85 [some (.ref 155)] [.int (Int32.ofInt 0)] G C S K0 := by
    intro G q o' e s2 hE
    refine w_go z_hl [88] [] 30 e.1 ?_
    refine ⟨fun q => absurd q (by decide), fun _ => fun H hH => ?_⟩
    have f : y_fr G H [] [] := y_st (y_rf e.1) hH (by repeat (first | exact w_nil | refine w_cons (Or.inl (y_m rfl)) ?_ | refine w_cons (Or.inr (by assumption)) ?_)) (by repeat (first | exact w_nil | refine w_cons (Or.inl (y_m rfl)) ?_ | refine w_cons (Or.inr (by assumption)) ?_))
    exact N (Or.inr rfl) (y_sq e f rfl rfl) (pr_s_fr s2 f rfl rfl) hE
  have T76y : ∀ {G : aH} {r : Nat}, y_fr h G [19613, 19615] [] → pr_s nd G tp t r (o + 1) → p < r → pr_E (y_N tp) t nd.toInt false p o = pr_E (y_N tp) t nd.toInt true r (o + 1) → pr_f 2 (y_N tp) t r → aOK s_P X (n + 1 + d + 2) a_m231 76 [some (.ref 155)] [.int (Int32.ofInt 1)] G C S K0 := by
    intro G r e s2 hpr hE hf
    obtain ⟨-, rt, -, -⟩ := pr_s_hr s2
    refine w_go z_hl [88] [226] 30 e.1 ?_
    refine ⟨fun q => absurd q (by decide), fun _ => fun H hH => ?_⟩
    have f : y_fr G H [] [] := y_st (y_rf e.1) hH (by repeat (first | exact w_nil | refine w_cons (Or.inl (y_m rfl)) ?_ | refine w_cons (Or.inr (by assumption)) ?_)) (by repeat (first | exact w_nil | refine w_cons (Or.inl (y_m rfl)) ?_ | refine w_cons (Or.inr (by assumption)) ?_))
    refine pr_comes (pr_s_fr s2 f rfl rfl) (by decide) (fun H2 e2 s3 hp hc => ⟨fun n e => (by cases e), ?_⟩) (fun H2 e2 s3 hn => ⟨fun n e => (by cases e), ?_⟩)
    · rw [c41] at hc
      exact T85y (y_sq (y_sq e f rfl rfl) e2 rfl rfl) s3 hpr (by rw [hE, pr_close (by omega) hc])
    · rw [c41] at hn
      exact T85n (y_sq (y_sq e f rfl rfl) e2 rfl rfl) s3 (by rw [hE, pr_end (by omega) (fun w => hn w.1) (hf.1 (by decide)) (hf.2 rfl)]; rfl)
  have T76n : ∀ {G : aH} {q o' : Nat}, y_fr h G [19613, 19615] [] → pr_s nd G tp t q o' → pr_E (y_N tp) t nd.toInt false p o = (false, q) → aOK s_P X (n + 1 + d + 2) a_m231 76 [some (.ref 155)] [.int (Int32.ofInt 0)] G C S K0 := by
    intro G q o' e s2 hE
    refine w_go z_hl [88] [] 30 e.1 ?_
    refine ⟨fun _ => fun H hH => ?_, fun q => absurd q (by decide)⟩
    have f : y_fr G H [] [] := y_st (y_rf e.1) hH (by repeat (first | exact w_nil | refine w_cons (Or.inl (y_m rfl)) ?_ | refine w_cons (Or.inr (by assumption)) ?_)) (by repeat (first | exact w_nil | refine w_cons (Or.inl (y_m rfl)) ?_ | refine w_cons (Or.inr (by assumption)) ?_))
    exact N (Or.inr rfl) (y_sq e f rfl rfl) (pr_s_fr s2 f rfl rfl) hE
  have T39y : ∀ {G : aH}, y_fr h G [19613, 19615] [] → pr_s nd G tp t p o → p < t → pr_k (y_N tp) t p = 40 → aOK s_P X (n + 1 + d + 2) a_m231 39 [some (.ref 155)] [.int (Int32.ofInt 1)] G C S K0 := by
    intro G e s2 hp h40
    have s2' := s2
    obtain ⟨toI, atI, opI, -, a1, a2, a3, a4, a5, a6, a7, a8, pt', -, o5'⟩ := s2
    have inc : (atI + Int32.ofInt 1).toInt = ((p + 1 : Nat) : Int) := by rw [y_inc (by omega), a5]; rfl
    have inco : (opI + Int32.ofInt 1).toInt = opI.toInt + 1 := y_inc (by omega)
    have c5 : (Int32.ofInt 5).toInt = 5 := by decide
    refine w_go z_hl [50] [229] 40 e.1 ?_
    refine ⟨fun q => absurd q (by decide), fun _ => ?_⟩
    intro x hx _ _
    obtain rfl := y_fi a6 hx
    refine ⟨fun q => ?_, fun q => fun H hH => ?_⟩
    · have q2 : opI.toInt ≠ (Int32.ofInt 5).toInt := (y_ci .ne _ _).mp q
      rw [c5] at q2
      intro y hy _ _
      obtain rfl := y_fi a4 hy
      refine ⟨rfl, y_zini (by show 0 ≤ (atI + Int32.ofInt 1).toInt; omega) (by show (atI + Int32.ofInt 1).toInt ≤ 40; omega), ?_⟩
      refine ⟨rfl, y_zini (by show 0 ≤ (opI + Int32.ofInt 1).toInt; omega) (by show (opI + Int32.ofInt 1).toInt ≤ 5; omega), ?_⟩
      intro H hH
      have f : y_fr G H [19613, 19615] [] := y_st (y_mo (y_rf e.1) rfl rfl) hH (by repeat (first | exact w_nil | refine w_cons (Or.inl (y_m rfl)) ?_ | refine w_cons (Or.inr (by assumption)) ?_)) (by repeat (first | exact w_nil | refine w_cons (Or.inl (y_m rfl)) ?_ | refine w_cons (Or.inr (by assumption)) ?_))
      have s3 : pr_s nd H tp t (p + 1) (o + 1) := ⟨toI, _, _, f.1, (y_ae f rfl).trans a1, (y_fe f rfl).trans a2, a3, hH.2.1 19613 _ rfl, inc, hH.2.1 19615 _ rfl, (show (opI + Int32.ofInt 1).toInt = ((o + 1 : Nat) : Int) by omega), (y_fe f rfl).trans a8, by omega, t40, by omega⟩
      have e2 := y_sq e f rfl rfl
      have eo := pr_open (T := y_N tp) (t := t) (n := nd.toInt) (o := o) (show p ≤ 40 by omega) h40 (by omega)
      refine aOK_deep (d := n + d + 2) (by omega) (ih 2 H _ tp t (p + 1) (o + 1) (by decide) s3 (by omega) (fun H2 q f2 s4 hpq hE hf => ⟨fun n e => (by cases e), ?_⟩) (fun H2 q o' f2 s4 hE => ⟨fun n e => (by cases e), ?_⟩))
      · exact T76y (y_sq e2 f2 rfl rfl) s4 (by omega) (eo.trans hE) hf
      · exact T76n (y_sq e2 f2 rfl rfl) s4 (eo.trans hE)
    · have q2 : ¬ (opI.toInt ≠ (Int32.ofInt 5).toInt) := y_cif q
      rw [c5] at q2
      have f : y_fr G H [] [] := y_st (y_rf e.1) hH (by repeat (first | exact w_nil | refine w_cons (Or.inl (y_m rfl)) ?_ | refine w_cons (Or.inr (by assumption)) ?_)) (by repeat (first | exact w_nil | refine w_cons (Or.inl (y_m rfl)) ?_ | refine w_cons (Or.inr (by assumption)) ?_))
      exact N (Or.inl rfl) (y_sq e f rfl rfl) (pr_s_fr s2' f rfl rfl) (pr_bad (by omega) (by omega) (fun w => by have := w.2; omega) (fun w => by have := w.1; omega))
  have T39n : ∀ {G : aH}, y_fr h G [19613, 19615] [] → pr_s nd G tp t p o → pr_E (y_N tp) t nd.toInt false p o = (false, p) → aOK s_P X (n + 1 + d + 2) a_m231 39 [some (.ref 155)] [.int (Int32.ofInt 0)] G C S K0 := by
    intro G e s2 hE
    refine w_go z_hl [50] [] 30 e.1 ?_
    refine ⟨fun _ => fun H hH => ?_, fun q => absurd q (by decide)⟩
    have f : y_fr G H [] [] := y_st (y_rf e.1) hH (by repeat (first | exact w_nil | refine w_cons (Or.inl (y_m rfl)) ?_ | refine w_cons (Or.inr (by assumption)) ?_)) (by repeat (first | exact w_nil | refine w_cons (Or.inl (y_m rfl)) ?_ | refine w_cons (Or.inr (by assumption)) ?_))
    exact N (Or.inl rfl) (y_sq e f rfl rfl) (pr_s_fr s2 f rfl rfl) hE
  have T18y : ∀ {G : aH}, y_fr h G [19613, 19615] [] → pr_s nd G tp t p o → p < t → 97 ≤ pr_k (y_N tp) t p → pr_k (y_N tp) t p < 97 + nd.toInt → aOK s_P X (n + 1 + d + 2) a_m231 18 [some (.ref 155)] [.int (Int32.ofInt 1)] G C S K0 := by
    intro G e s2 hp h97 h98
    obtain ⟨toI, atI, opI, -, a1, a2, a3, a4, a5, a6, a7, a8, pt', -, o5'⟩ := s2
    have inc : (atI + Int32.ofInt 1).toInt = ((p + 1 : Nat) : Int) := by rw [y_inc (by omega), a5]; rfl
    refine w_go z_hl [] [] 40 e.1 ?_
    refine ⟨fun q => absurd q (by decide), fun _ => ?_⟩
    intro y hy _ _
    obtain rfl := y_fi a4 hy
    refine ⟨rfl, y_zini (by show 0 ≤ (atI + Int32.ofInt 1).toInt; omega) (by show (atI + Int32.ofInt 1).toInt ≤ 40; omega), by decide, fun H hH => ?_⟩
    have f : y_fr G H [19613] [] := y_st (y_mo (y_rf e.1) rfl rfl) hH (by repeat (first | exact w_nil | refine w_cons (Or.inl (y_m rfl)) ?_ | refine w_cons (Or.inr (by assumption)) ?_)) (by repeat (first | exact w_nil | refine w_cons (Or.inl (y_m rfl)) ?_ | refine w_cons (Or.inr (by assumption)) ?_))
    exact yes H (p + 1) (y_sq e f rfl rfl) ⟨toI, _, opI, f.1, (y_ae f rfl).trans a1, (y_fe f rfl).trans a2, a3, hH.2.1 19613 _ rfl, inc, (y_fe f rfl).trans a6, a7, (y_fe f rfl).trans a8, by omega, t40, o5⟩ (by omega) (pr_let (by omega) h97 h98)
  have T18n : ∀ {G : aH}, y_fr h G [19613, 19615] [] → pr_s nd G tp t p o → pr_k (y_N tp) t p ≠ 33 → ¬ (97 ≤ pr_k (y_N tp) t p ∧ pr_k (y_N tp) t p < 97 + nd.toInt) → aOK s_P X (n + 1 + d + 2) a_m231 18 [some (.ref 155)] [.int (Int32.ofInt 0)] G C S K0 := by
    intro G e s2 h33 hl
    refine w_go z_hl [] [227] 30 e.1 ?_
    refine ⟨fun _ => fun H hH => ?_, fun q => absurd q (by decide)⟩
    have f : y_fr G H [] [] := y_st (y_rf e.1) hH (by repeat (first | exact w_nil | refine w_cons (Or.inl (y_m rfl)) ?_ | refine w_cons (Or.inr (by assumption)) ?_)) (by repeat (first | exact w_nil | refine w_cons (Or.inl (y_m rfl)) ?_ | refine w_cons (Or.inr (by assumption)) ?_))
    refine pr_isAt (pr_s_fr s2 f rfl rfl) (by decide) (fun H2 e2 hp hc => ⟨fun n e => (by cases e), ?_⟩) (fun H2 e2 hn => ⟨fun n e => (by cases e), ?_⟩)
    · rw [c40] at hc
      exact T39y (y_sq (y_sq e f rfl rfl) e2 rfl rfl) (pr_s_fr (pr_s_fr s2 f rfl rfl) e2 rfl rfl) hp hc
    · rw [c40] at hn
      exact T39n (y_sq (y_sq e f rfl rfl) e2 rfl rfl) (pr_s_fr (pr_s_fr s2 f rfl rfl) e2 rfl rfl) (pr_bad (by omega) h33 (fun w => hn w.1) hl)
  have T6y : ∀ {G : aH}, y_fr h G [19613, 19615] [] → pr_s nd G tp t (p + 1) o → p < t → pr_k (y_N tp) t p = 33 → aOK s_P X (n + 1 + d + 2) a_m231 6 [some (.ref 155)] [.int (Int32.ofInt 1)] G C S K0 := by
    intro G e s2 hp h33
    refine w_go z_hl [] [231] 30 e.1 ?_
    refine ⟨fun q => absurd q (by decide), fun _ => fun H hH => ?_⟩
    have f : y_fr G H [] [] := y_st (y_rf e.1) hH (by repeat (first | exact w_nil | refine w_cons (Or.inl (y_m rfl)) ?_ | refine w_cons (Or.inr (by assumption)) ?_)) (by repeat (first | exact w_nil | refine w_cons (Or.inl (y_m rfl)) ?_ | refine w_cons (Or.inr (by assumption)) ?_))
    have e2 := y_sq e f rfl rfl
    have eo := pr_bang (T := y_N tp) (t := t) (n := nd.toInt) (o := o) (show p ≤ 40 by omega) h33
    refine aOK_deep (d := n + d + 2) (by omega) (ih 0 H _ tp t (p + 1) o (by decide) (pr_s_fr s2 f rfl rfl) (by omega) (fun H2 q f2 s4 hpq hE hf => ⟨fun n e => (by cases e), ?_⟩) (fun H2 q o' f2 s4 hE => ⟨fun n e => (by cases e), ?_⟩))
    · exact T13y (y_sq e2 f2 rfl rfl) s4 (by omega) (eo.trans hE)
    · exact T13n (y_sq e2 f2 rfl rfl) s4 (eo.trans hE)
  have T6n : ∀ {G : aH}, y_fr h G [19613, 19615] [] → pr_s nd G tp t p o → pr_k (y_N tp) t p ≠ 33 → aOK s_P X (n + 1 + d + 2) a_m231 6 [some (.ref 155)] [.int (Int32.ofInt 0)] G C S K0 := by
    intro G e s2 h33
    refine w_go z_hl [] [232] 30 e.1 ?_
    refine ⟨fun _ => fun H hH => ?_, fun q => absurd q (by decide)⟩
    have f : y_fr G H [] [] := y_st (y_rf e.1) hH (by repeat (first | exact w_nil | refine w_cons (Or.inl (y_m rfl)) ?_ | refine w_cons (Or.inr (by assumption)) ?_)) (by repeat (first | exact w_nil | refine w_cons (Or.inl (y_m rfl)) ?_ | refine w_cons (Or.inr (by assumption)) ?_))
    have s3 := pr_s_fr s2 f rfl rfl
    refine pr_isLetter s3 n0 n10 (fun H2 e2 hp hc hc2 => ⟨fun n e => (by cases e), ?_⟩) (fun H2 e2 hl => ⟨fun n e => (by cases e), ?_⟩)
    · exact T18y (y_sq (y_sq e f rfl rfl) e2 rfl rfl) (pr_s_fr s3 e2 rfl rfl) hp hc hc2
    · exact T18n (y_sq (y_sq e f rfl rfl) e2 rfl rfl) (pr_s_fr s3 e2 rfl rfl) h33 hl
  refine w_go z_hl [] [226] 30 hr ?_
  intro H hH
  have f : y_fr h H [] [] := y_st (y_rf hr) hH (by repeat (first | exact w_nil | refine w_cons (Or.inl (y_m rfl)) ?_ | refine w_cons (Or.inr (by assumption)) ?_)) (by repeat (first | exact w_nil | refine w_cons (Or.inl (y_m rfl)) ?_ | refine w_cons (Or.inr (by assumption)) ?_))
  refine pr_comes (pr_s_fr s f rfl rfl) (by decide) (fun H2 e2 s3 hp hc => ⟨fun n e => (by cases e), ?_⟩) (fun H2 e2 s3 hn => ⟨fun n e => (by cases e), ?_⟩)
  · rw [c33] at hc
    exact T6y (y_sq (y_mo f rfl rfl) e2 rfl rfl) s3 hp hc
  · rw [c33] at hn
    exact T6n (y_sq (y_mo f rfl rfl) e2 rfl rfl) s3 hn
theorem pr_l1 (ih : pr_RD X C S d nd n) : ∀ (m : Nat) (h : aH) (p : Nat), pr_s nd h tp t p o → t - p ≤ m → 4 * (t - p) ≤ n →
    (∀ (H : aH) (q : Nat), y_fr h H [19613, 19615] [] → pr_s nd H tp t q o → p ≤ q → pr_E (y_N tp) t nd.toInt true p o = pr_E (y_N tp) t nd.toInt true q o → pr_f 1 (y_N tp) t q → K0 (some (.int (Int32.ofInt 1))) H C S) →
    (∀ (H : aH) (q o' : Nat), y_fr h H [19613, 19615] [] → pr_s nd H tp t q o' → pr_E (y_N tp) t nd.toInt true p o = (false, q) → K0 (some (.int (Int32.ofInt 0))) H C S) →
    aOK s_P X (n + 1 + d + 2) a_m230 5 [some (.ref 155), some (.int (Int32.ofInt 1))] [] h C S K0 := by
  have cc : ((Int8.ofInt 38).toInt32).toInt = 38 := by decide
  intro m
  induction m with
  | zero =>
    intro h p s hm hn yes no
    obtain ⟨hr, pt, t40, o5⟩ := pr_s_hr s
    have T15n : ∀ {G : aH}, y_fr h G [19613, 19615] [] → pr_s nd G tp t p o → pr_k (y_N tp) t p ≠ 38 → aOK s_P X (n + 1 + d + 2) a_m230 15 [some (.ref 155), some (.int (Int32.ofInt 1))] [.int (Int32.ofInt 0)] G C S K0 := by
      intro G e s2 hne
      refine w_go z_hl [] [] 30 e.1 ?_
      refine ⟨fun _ => ⟨by decide, fun H hH => ?_⟩, fun q => absurd q (by decide)⟩
      have f : y_fr G H [] [] := y_st (y_rf e.1) hH (by repeat (first | exact w_nil | refine w_cons (Or.inl (y_m rfl)) ?_ | refine w_cons (Or.inr (by assumption)) ?_)) (by repeat (first | exact w_nil | refine w_cons (Or.inl (y_m rfl)) ?_ | refine w_cons (Or.inr (by assumption)) ?_))
      exact yes H p (y_sq e f rfl rfl) (pr_s_fr s2 f rfl rfl) (Nat.le_refl p) rfl ⟨fun _ => hne, fun w => absurd w (by decide)⟩
    refine w_go z_hl [] [226] 30 hr ?_
    refine ⟨fun q => absurd q (by decide), fun _ => fun H hH => ?_⟩
    have f : y_fr h H [] [] := y_st (y_rf hr) hH (by repeat (first | exact w_nil | refine w_cons (Or.inl (y_m rfl)) ?_ | refine w_cons (Or.inr (by assumption)) ?_)) (by repeat (first | exact w_nil | refine w_cons (Or.inl (y_m rfl)) ?_ | refine w_cons (Or.inr (by assumption)) ?_))
    refine pr_comes (pr_s_fr s f rfl rfl) (by decide) (fun H2 e2 s3 hp hc => by omega) (fun H2 e2 s3 hne => ⟨fun n e => (by cases e), ?_⟩)
    rw [cc] at hne
    exact T15n (y_sq (y_mo f rfl rfl) e2 rfl rfl) s3 hne
  | succ m ihm =>
    intro h p s hm hn yes no
    obtain ⟨hr, pt, t40, o5⟩ := pr_s_hr s
    have T15n : ∀ {G : aH}, y_fr h G [19613, 19615] [] → pr_s nd G tp t p o → pr_k (y_N tp) t p ≠ 38 → aOK s_P X (n + 1 + d + 2) a_m230 15 [some (.ref 155), some (.int (Int32.ofInt 1))] [.int (Int32.ofInt 0)] G C S K0 := by
      intro G e s2 hne
      refine w_go z_hl [] [] 30 e.1 ?_
      refine ⟨fun _ => ⟨by decide, fun H hH => ?_⟩, fun q => absurd q (by decide)⟩
      have f : y_fr G H [] [] := y_st (y_rf e.1) hH (by repeat (first | exact w_nil | refine w_cons (Or.inl (y_m rfl)) ?_ | refine w_cons (Or.inr (by assumption)) ?_)) (by repeat (first | exact w_nil | refine w_cons (Or.inl (y_m rfl)) ?_ | refine w_cons (Or.inr (by assumption)) ?_))
      exact yes H p (y_sq e f rfl rfl) (pr_s_fr s2 f rfl rfl) (Nat.le_refl p) rfl ⟨fun _ => hne, fun w => absurd w (by decide)⟩
    have T22y : ∀ {G : aH} {r : Nat}, y_fr h G [19613, 19615] [] → pr_s nd G tp t r o → p < r → pr_E (y_N tp) t nd.toInt true p o = pr_E (y_N tp) t nd.toInt true r o → pr_f 0 (y_N tp) t r → aOK s_P X (n + 1 + d + 2) a_m230 22 [some (.ref 155), some (.int (Int32.ofInt 1))] [.int (Int32.ofInt 1)] G C S K0 := by
      intro G r e s2 hpr hE hf
      refine w_go z_hl [5] [] 30 e.1 ?_
      intro H hH
      have f : y_fr G H [] [] := y_st (y_rf e.1) hH (by repeat (first | exact w_nil | refine w_cons (Or.inl (y_m rfl)) ?_ | refine w_cons (Or.inr (by assumption)) ?_)) (by repeat (first | exact w_nil | refine w_cons (Or.inl (y_m rfl)) ?_ | refine w_cons (Or.inr (by assumption)) ?_))
      have e2 := y_sq e f rfl rfl
      exact ihm H r (pr_s_fr s2 f rfl rfl) (by omega) (by omega) (fun H2 q f2 s3 hrq hE2 hf2 => yes H2 q (y_sq e2 f2 rfl rfl) s3 (by omega) (hE.trans hE2) hf2) (fun H2 q o' f2 s3 hE2 => no H2 q o' (y_sq e2 f2 rfl rfl) s3 (hE.trans hE2))
    have T22n : ∀ {G : aH} {q o' : Nat}, y_fr h G [19613, 19615] [] → pr_s nd G tp t q o' → pr_E (y_N tp) t nd.toInt true p o = (false, q) → aOK s_P X (n + 1 + d + 2) a_m230 22 [some (.ref 155), some (.int (Int32.ofInt 1))] [.int (Int32.ofInt 0)] G C S K0 := by
      intro G q o' e s2 hE
      refine w_go z_hl [] [] 30 e.1 ?_
      refine ⟨fun _ => ⟨by decide, fun H hH => ?_⟩, fun q => absurd q (by decide)⟩
      have f : y_fr G H [] [] := y_st (y_rf e.1) hH (by repeat (first | exact w_nil | refine w_cons (Or.inl (y_m rfl)) ?_ | refine w_cons (Or.inr (by assumption)) ?_)) (by repeat (first | exact w_nil | refine w_cons (Or.inl (y_m rfl)) ?_ | refine w_cons (Or.inr (by assumption)) ?_))
      exact no H q o' (y_sq e f rfl rfl) (pr_s_fr s2 f rfl rfl) hE
    have T15y : ∀ {G : aH}, y_fr h G [19613, 19615] [] → pr_s nd G tp t (p + 1) o → p < t → pr_k (y_N tp) t p = 38 → aOK s_P X (n + 1 + d + 2) a_m230 15 [some (.ref 155), some (.int (Int32.ofInt 1))] [.int (Int32.ofInt 1)] G C S K0 := by
      intro G e s2 hp hc
      refine w_go z_hl [] [231] 30 e.1 ?_
      refine ⟨fun q => absurd q (by decide), fun _ => fun H hH => ?_⟩
      have f : y_fr G H [] [] := y_st (y_rf e.1) hH (by repeat (first | exact w_nil | refine w_cons (Or.inl (y_m rfl)) ?_ | refine w_cons (Or.inr (by assumption)) ?_)) (by repeat (first | exact w_nil | refine w_cons (Or.inl (y_m rfl)) ?_ | refine w_cons (Or.inr (by assumption)) ?_))
      have e2 := y_sq e f rfl rfl
      have eo := pr_op (T := y_N tp) (t := t) (n := nd.toInt) (o := o) (show p ≤ 40 by omega) (Or.inl hc)
      refine aOK_deep (d := n + d + 2) (by omega) (ih 0 H _ tp t (p + 1) o (by decide) (pr_s_fr s2 f rfl rfl) (by omega) (fun H2 q f2 s4 hpq hE hf => ⟨fun n e => (by cases e), ?_⟩) (fun H2 q o' f2 s4 hE => ⟨fun n e => (by cases e), ?_⟩))
      · exact T22y (y_sq e2 f2 rfl rfl) s4 (by omega) (eo.trans hE) hf
      · exact T22n (y_sq e2 f2 rfl rfl) s4 (eo.trans hE)
    refine w_go z_hl [] [226] 30 hr ?_
    refine ⟨fun q => absurd q (by decide), fun _ => fun H hH => ?_⟩
    have f : y_fr h H [] [] := y_st (y_rf hr) hH (by repeat (first | exact w_nil | refine w_cons (Or.inl (y_m rfl)) ?_ | refine w_cons (Or.inr (by assumption)) ?_)) (by repeat (first | exact w_nil | refine w_cons (Or.inl (y_m rfl)) ?_ | refine w_cons (Or.inr (by assumption)) ?_))
    refine pr_comes (pr_s_fr s f rfl rfl) (by decide) (fun H2 e2 s3 hp hc => ⟨fun n e => (by cases e), ?_⟩) (fun H2 e2 s3 hne => ⟨fun n e => (by cases e), ?_⟩)
    · rw [cc] at hc
      exact T15y (y_sq (y_mo f rfl rfl) e2 rfl rfl) s3 hp hc
    · rw [cc] at hne
      exact T15n (y_sq (y_mo f rfl rfl) e2 rfl rfl) s3 hne
theorem pr_rd1 (ih : pr_RD X C S d nd n) (s : pr_s nd h tp t p o) (hn : 4 * (t - p) + 1 + 1 ≤ n + 1) (yes : ∀ (H : aH) (q : Nat), y_fr h H [19613, 19615] [] → pr_s nd H tp t q o → p < q → pr_E (y_N tp) t nd.toInt false p o = pr_E (y_N tp) t nd.toInt true q o → pr_f 1 (y_N tp) t q → K0 (some (.int (Int32.ofInt 1))) H C S) (no : ∀ (H : aH) (q o' : Nat), y_fr h H [19613, 19615] [] → pr_s nd H tp t q o' → pr_E (y_N tp) t nd.toInt false p o = (false, q) → K0 (some (.int (Int32.ofInt 0))) H C S) : aOK s_P X (n + 1 + d + 2) a_m230 0 [some (.ref 155), none] [] h C S K0 := by
  obtain ⟨hr, pt, t40, o5⟩ := pr_s_hr s
  have T4y : ∀ {G : aH} {r : Nat}, y_fr h G [19613, 19615] [] → pr_s nd G tp t r o → p < r → pr_E (y_N tp) t nd.toInt false p o = pr_E (y_N tp) t nd.toInt true r o → pr_f 0 (y_N tp) t r → aOK s_P X (n + 1 + d + 2) a_m230 4 [some (.ref 155), none] [.int (Int32.ofInt 1)] G C S K0 := by
    intro G r e s2 hpr hE hf
    refine w_go z_hl [5] [] 30 e.1 ?_
    intro H hH
    have f : y_fr G H [] [] := y_st (y_rf e.1) hH (by repeat (first | exact w_nil | refine w_cons (Or.inl (y_m rfl)) ?_ | refine w_cons (Or.inr (by assumption)) ?_)) (by repeat (first | exact w_nil | refine w_cons (Or.inl (y_m rfl)) ?_ | refine w_cons (Or.inr (by assumption)) ?_))
    have e2 := y_sq e f rfl rfl
    exact pr_l1 ih 40 H r (pr_s_fr s2 f rfl rfl) (by omega) (by omega) (fun H2 q f2 s3 hrq hE2 hf2 => yes H2 q (y_sq e2 f2 rfl rfl) s3 (by omega) (hE.trans hE2) hf2) (fun H2 q o' f2 s3 hE2 => no H2 q o' (y_sq e2 f2 rfl rfl) s3 (hE.trans hE2))
  have T4n : ∀ {G : aH} {q o' : Nat}, y_fr h G [19613, 19615] [] → pr_s nd G tp t q o' → pr_E (y_N tp) t nd.toInt false p o = (false, q) → aOK s_P X (n + 1 + d + 2) a_m230 4 [some (.ref 155), none] [.int (Int32.ofInt 0)] G C S K0 := by
    intro G q o' e s2 hE
    refine w_go z_hl [] [] 30 e.1 ?_
    refine ⟨fun _ => ⟨by decide, fun H hH => ?_⟩, fun q => absurd q (by decide)⟩
    have f : y_fr G H [] [] := y_st (y_rf e.1) hH (by repeat (first | exact w_nil | refine w_cons (Or.inl (y_m rfl)) ?_ | refine w_cons (Or.inr (by assumption)) ?_)) (by repeat (first | exact w_nil | refine w_cons (Or.inl (y_m rfl)) ?_ | refine w_cons (Or.inr (by assumption)) ?_))
    exact no H q o' (y_sq e f rfl rfl) (pr_s_fr s2 f rfl rfl) hE
  refine w_go z_hl [] [231] 30 hr ?_
  intro H hH
  have f : y_fr h H [] [] := y_st (y_rf hr) hH (by repeat (first | exact w_nil | refine w_cons (Or.inl (y_m rfl)) ?_ | refine w_cons (Or.inr (by assumption)) ?_)) (by repeat (first | exact w_nil | refine w_cons (Or.inl (y_m rfl)) ?_ | refine w_cons (Or.inr (by assumption)) ?_))
  refine aOK_deep (d := n + d + 2) (by omega) (ih 0 H _ tp t p o (by decide) (pr_s_fr s f rfl rfl) (by omega) (fun H2 q f2 s4 hpq hE hf => ⟨fun n e => (by cases e), ?_⟩) (fun H2 q o' f2 s4 hE => ⟨fun n e => (by cases e), ?_⟩))
  · exact T4y (y_sq (y_mo f rfl rfl) f2 rfl rfl) s4 hpq hE hf
  · exact T4n (y_sq (y_mo f rfl rfl) f2 rfl rfl) s4 hE
theorem pr_l2 (ih : pr_RD X C S d nd n) : ∀ (m : Nat) (h : aH) (p : Nat), pr_s nd h tp t p o → pr_k (y_N tp) t p ≠ 38 → t - p ≤ m → 4 * (t - p) ≤ n →
    (∀ (H : aH) (q : Nat), y_fr h H [19613, 19615] [] → pr_s nd H tp t q o → p ≤ q → pr_E (y_N tp) t nd.toInt true p o = pr_E (y_N tp) t nd.toInt true q o → pr_f 2 (y_N tp) t q → K0 (some (.int (Int32.ofInt 1))) H C S) →
    (∀ (H : aH) (q o' : Nat), y_fr h H [19613, 19615] [] → pr_s nd H tp t q o' → pr_E (y_N tp) t nd.toInt true p o = (false, q) → K0 (some (.int (Int32.ofInt 0))) H C S) →
    aOK s_P X (n + 1 + d + 2) a_m229 5 [some (.ref 155), some (.int (Int32.ofInt 1))] [] h C S K0 := by
  have cc : ((Int8.ofInt 124).toInt32).toInt = 124 := by decide
  intro m
  induction m with
  | zero =>
    intro h p s h38 hm hn yes no
    obtain ⟨hr, pt, t40, o5⟩ := pr_s_hr s
    have T15n : ∀ {G : aH}, y_fr h G [19613, 19615] [] → pr_s nd G tp t p o → pr_k (y_N tp) t p ≠ 124 → aOK s_P X (n + 1 + d + 2) a_m229 15 [some (.ref 155), some (.int (Int32.ofInt 1))] [.int (Int32.ofInt 0)] G C S K0 := by
      intro G e s2 hne
      refine w_go z_hl [] [] 30 e.1 ?_
      refine ⟨fun _ => ⟨by decide, fun H hH => ?_⟩, fun q => absurd q (by decide)⟩
      have f : y_fr G H [] [] := y_st (y_rf e.1) hH (by repeat (first | exact w_nil | refine w_cons (Or.inl (y_m rfl)) ?_ | refine w_cons (Or.inr (by assumption)) ?_)) (by repeat (first | exact w_nil | refine w_cons (Or.inl (y_m rfl)) ?_ | refine w_cons (Or.inr (by assumption)) ?_))
      exact yes H p (y_sq e f rfl rfl) (pr_s_fr s2 f rfl rfl) (Nat.le_refl p) rfl ⟨fun _ => h38, fun _ => hne⟩
    refine w_go z_hl [] [226] 30 hr ?_
    refine ⟨fun q => absurd q (by decide), fun _ => fun H hH => ?_⟩
    have f : y_fr h H [] [] := y_st (y_rf hr) hH (by repeat (first | exact w_nil | refine w_cons (Or.inl (y_m rfl)) ?_ | refine w_cons (Or.inr (by assumption)) ?_)) (by repeat (first | exact w_nil | refine w_cons (Or.inl (y_m rfl)) ?_ | refine w_cons (Or.inr (by assumption)) ?_))
    refine pr_comes (pr_s_fr s f rfl rfl) (by decide) (fun H2 e2 s3 hp hc => by omega) (fun H2 e2 s3 hne => ⟨fun n e => (by cases e), ?_⟩)
    rw [cc] at hne
    exact T15n (y_sq (y_mo f rfl rfl) e2 rfl rfl) s3 hne
  | succ m ihm =>
    intro h p s h38 hm hn yes no
    obtain ⟨hr, pt, t40, o5⟩ := pr_s_hr s
    have T15n : ∀ {G : aH}, y_fr h G [19613, 19615] [] → pr_s nd G tp t p o → pr_k (y_N tp) t p ≠ 124 → aOK s_P X (n + 1 + d + 2) a_m229 15 [some (.ref 155), some (.int (Int32.ofInt 1))] [.int (Int32.ofInt 0)] G C S K0 := by
      intro G e s2 hne
      refine w_go z_hl [] [] 30 e.1 ?_
      refine ⟨fun _ => ⟨by decide, fun H hH => ?_⟩, fun q => absurd q (by decide)⟩
      have f : y_fr G H [] [] := y_st (y_rf e.1) hH (by repeat (first | exact w_nil | refine w_cons (Or.inl (y_m rfl)) ?_ | refine w_cons (Or.inr (by assumption)) ?_)) (by repeat (first | exact w_nil | refine w_cons (Or.inl (y_m rfl)) ?_ | refine w_cons (Or.inr (by assumption)) ?_))
      exact yes H p (y_sq e f rfl rfl) (pr_s_fr s2 f rfl rfl) (Nat.le_refl p) rfl ⟨fun _ => h38, fun _ => hne⟩
    have T22y : ∀ {G : aH} {r : Nat}, y_fr h G [19613, 19615] [] → pr_s nd G tp t r o → p < r → pr_E (y_N tp) t nd.toInt true p o = pr_E (y_N tp) t nd.toInt true r o → pr_f 1 (y_N tp) t r → aOK s_P X (n + 1 + d + 2) a_m229 22 [some (.ref 155), some (.int (Int32.ofInt 1))] [.int (Int32.ofInt 1)] G C S K0 := by
      intro G r e s2 hpr hE hf
      refine w_go z_hl [5] [] 30 e.1 ?_
      intro H hH
      have f : y_fr G H [] [] := y_st (y_rf e.1) hH (by repeat (first | exact w_nil | refine w_cons (Or.inl (y_m rfl)) ?_ | refine w_cons (Or.inr (by assumption)) ?_)) (by repeat (first | exact w_nil | refine w_cons (Or.inl (y_m rfl)) ?_ | refine w_cons (Or.inr (by assumption)) ?_))
      have e2 := y_sq e f rfl rfl
      exact ihm H r (pr_s_fr s2 f rfl rfl) (hf.1 (by decide)) (by omega) (by omega) (fun H2 q f2 s3 hrq hE2 hf2 => yes H2 q (y_sq e2 f2 rfl rfl) s3 (by omega) (hE.trans hE2) hf2) (fun H2 q o' f2 s3 hE2 => no H2 q o' (y_sq e2 f2 rfl rfl) s3 (hE.trans hE2))
    have T22n : ∀ {G : aH} {q o' : Nat}, y_fr h G [19613, 19615] [] → pr_s nd G tp t q o' → pr_E (y_N tp) t nd.toInt true p o = (false, q) → aOK s_P X (n + 1 + d + 2) a_m229 22 [some (.ref 155), some (.int (Int32.ofInt 1))] [.int (Int32.ofInt 0)] G C S K0 := by
      intro G q o' e s2 hE
      refine w_go z_hl [] [] 30 e.1 ?_
      refine ⟨fun _ => ⟨by decide, fun H hH => ?_⟩, fun q => absurd q (by decide)⟩
      have f : y_fr G H [] [] := y_st (y_rf e.1) hH (by repeat (first | exact w_nil | refine w_cons (Or.inl (y_m rfl)) ?_ | refine w_cons (Or.inr (by assumption)) ?_)) (by repeat (first | exact w_nil | refine w_cons (Or.inl (y_m rfl)) ?_ | refine w_cons (Or.inr (by assumption)) ?_))
      exact no H q o' (y_sq e f rfl rfl) (pr_s_fr s2 f rfl rfl) hE
    have T15y : ∀ {G : aH}, y_fr h G [19613, 19615] [] → pr_s nd G tp t (p + 1) o → p < t → pr_k (y_N tp) t p = 124 → aOK s_P X (n + 1 + d + 2) a_m229 15 [some (.ref 155), some (.int (Int32.ofInt 1))] [.int (Int32.ofInt 1)] G C S K0 := by
      intro G e s2 hp hc
      refine w_go z_hl [] [230] 30 e.1 ?_
      refine ⟨fun q => absurd q (by decide), fun _ => fun H hH => ?_⟩
      have f : y_fr G H [] [] := y_st (y_rf e.1) hH (by repeat (first | exact w_nil | refine w_cons (Or.inl (y_m rfl)) ?_ | refine w_cons (Or.inr (by assumption)) ?_)) (by repeat (first | exact w_nil | refine w_cons (Or.inl (y_m rfl)) ?_ | refine w_cons (Or.inr (by assumption)) ?_))
      have e2 := y_sq e f rfl rfl
      have eo := pr_op (T := y_N tp) (t := t) (n := nd.toInt) (o := o) (show p ≤ 40 by omega) (Or.inr hc)
      refine aOK_deep (d := n + d + 2) (by omega) (ih 1 H _ tp t (p + 1) o (by decide) (pr_s_fr s2 f rfl rfl) (by omega) (fun H2 q f2 s4 hpq hE hf => ⟨fun n e => (by cases e), ?_⟩) (fun H2 q o' f2 s4 hE => ⟨fun n e => (by cases e), ?_⟩))
      · exact T22y (y_sq e2 f2 rfl rfl) s4 (by omega) (eo.trans hE) hf
      · exact T22n (y_sq e2 f2 rfl rfl) s4 (eo.trans hE)
    refine w_go z_hl [] [226] 30 hr ?_
    refine ⟨fun q => absurd q (by decide), fun _ => fun H hH => ?_⟩
    have f : y_fr h H [] [] := y_st (y_rf hr) hH (by repeat (first | exact w_nil | refine w_cons (Or.inl (y_m rfl)) ?_ | refine w_cons (Or.inr (by assumption)) ?_)) (by repeat (first | exact w_nil | refine w_cons (Or.inl (y_m rfl)) ?_ | refine w_cons (Or.inr (by assumption)) ?_))
    refine pr_comes (pr_s_fr s f rfl rfl) (by decide) (fun H2 e2 s3 hp hc => ⟨fun n e => (by cases e), ?_⟩) (fun H2 e2 s3 hne => ⟨fun n e => (by cases e), ?_⟩)
    · rw [cc] at hc
      exact T15y (y_sq (y_mo f rfl rfl) e2 rfl rfl) s3 hp hc
    · rw [cc] at hne
      exact T15n (y_sq (y_mo f rfl rfl) e2 rfl rfl) s3 hne
theorem pr_rd2 (ih : pr_RD X C S d nd n) (s : pr_s nd h tp t p o) (hn : 4 * (t - p) + 2 + 1 ≤ n + 1) (yes : ∀ (H : aH) (q : Nat), y_fr h H [19613, 19615] [] → pr_s nd H tp t q o → p < q → pr_E (y_N tp) t nd.toInt false p o = pr_E (y_N tp) t nd.toInt true q o → pr_f 2 (y_N tp) t q → K0 (some (.int (Int32.ofInt 1))) H C S) (no : ∀ (H : aH) (q o' : Nat), y_fr h H [19613, 19615] [] → pr_s nd H tp t q o' → pr_E (y_N tp) t nd.toInt false p o = (false, q) → K0 (some (.int (Int32.ofInt 0))) H C S) : aOK s_P X (n + 1 + d + 2) a_m229 0 [some (.ref 155), none] [] h C S K0 := by
  obtain ⟨hr, pt, t40, o5⟩ := pr_s_hr s
  have T4y : ∀ {G : aH} {r : Nat}, y_fr h G [19613, 19615] [] → pr_s nd G tp t r o → p < r → pr_E (y_N tp) t nd.toInt false p o = pr_E (y_N tp) t nd.toInt true r o → pr_f 1 (y_N tp) t r → aOK s_P X (n + 1 + d + 2) a_m229 4 [some (.ref 155), none] [.int (Int32.ofInt 1)] G C S K0 := by
    intro G r e s2 hpr hE hf
    refine w_go z_hl [5] [] 30 e.1 ?_
    intro H hH
    have f : y_fr G H [] [] := y_st (y_rf e.1) hH (by repeat (first | exact w_nil | refine w_cons (Or.inl (y_m rfl)) ?_ | refine w_cons (Or.inr (by assumption)) ?_)) (by repeat (first | exact w_nil | refine w_cons (Or.inl (y_m rfl)) ?_ | refine w_cons (Or.inr (by assumption)) ?_))
    have e2 := y_sq e f rfl rfl
    exact pr_l2 ih 40 H r (pr_s_fr s2 f rfl rfl) (hf.1 (by decide)) (by omega) (by omega) (fun H2 q f2 s3 hrq hE2 hf2 => yes H2 q (y_sq e2 f2 rfl rfl) s3 (by omega) (hE.trans hE2) hf2) (fun H2 q o' f2 s3 hE2 => no H2 q o' (y_sq e2 f2 rfl rfl) s3 (hE.trans hE2))
  have T4n : ∀ {G : aH} {q o' : Nat}, y_fr h G [19613, 19615] [] → pr_s nd G tp t q o' → pr_E (y_N tp) t nd.toInt false p o = (false, q) → aOK s_P X (n + 1 + d + 2) a_m229 4 [some (.ref 155), none] [.int (Int32.ofInt 0)] G C S K0 := by
    intro G q o' e s2 hE
    refine w_go z_hl [] [] 30 e.1 ?_
    refine ⟨fun _ => ⟨by decide, fun H hH => ?_⟩, fun q => absurd q (by decide)⟩
    have f : y_fr G H [] [] := y_st (y_rf e.1) hH (by repeat (first | exact w_nil | refine w_cons (Or.inl (y_m rfl)) ?_ | refine w_cons (Or.inr (by assumption)) ?_)) (by repeat (first | exact w_nil | refine w_cons (Or.inl (y_m rfl)) ?_ | refine w_cons (Or.inr (by assumption)) ?_))
    exact no H q o' (y_sq e f rfl rfl) (pr_s_fr s2 f rfl rfl) hE
  refine w_go z_hl [] [230] 30 hr ?_
  intro H hH
  have f : y_fr h H [] [] := y_st (y_rf hr) hH (by repeat (first | exact w_nil | refine w_cons (Or.inl (y_m rfl)) ?_ | refine w_cons (Or.inr (by assumption)) ?_)) (by repeat (first | exact w_nil | refine w_cons (Or.inl (y_m rfl)) ?_ | refine w_cons (Or.inr (by assumption)) ?_))
  refine aOK_deep (d := n + d + 2) (by omega) (ih 1 H _ tp t p o (by decide) (pr_s_fr s f rfl rfl) (by omega) (fun H2 q f2 s4 hpq hE hf => ⟨fun n e => (by cases e), ?_⟩) (fun H2 q o' f2 s4 hE => ⟨fun n e => (by cases e), ?_⟩))
  · exact T4y (y_sq (y_mo f rfl rfl) f2 rfl rfl) s4 hpq hE hf
  · exact T4n (y_sq (y_mo f rfl rfl) f2 rfl rfl) s4 hE
theorem pr_rd (n0 : 0 ≤ nd.toInt) (n10 : nd.toInt ≤ 10) : ∀ (n : Nat), pr_RD X C S d nd n
  | 0 => fun k h K0 tp t p o _ _ hn => absurd hn (by omega)
  | n + 1 => fun k h K0 tp t p o hk s hn yes no => by
    have ih := pr_rd n0 n10 n
    match k, hk, hn, yes with
    | 0, _, hn, yes => exact pr_rd0 n0 n10 ih s hn (fun H q a b c e => yes H q a b c e ⟨fun w => absurd rfl w, fun w => absurd w (by decide)⟩) no
    | 1, _, hn, yes => exact pr_rd1 ih s hn yes no
    | 2, _, hn, yes => exact pr_rd2 ih s hn yes no
end PRT
end PT33ibd
section PT33ibe
/-! ===== v21: numbers, events, terms as they are read; isDigit, digits, notes of the reference ===== -/
abbrev pr_dg (T : Nat → Int) (t p : Nat) : Prop := 48 ≤ pr_k T t p ∧ pr_k T t p ≤ 57
/-- behind at most f digits -/
def pr_dq (T : Nat → Int) (t : Nat) : Nat → Nat → Nat
  | 0, p => p
  | f + 1, p => if pr_dg T t p then pr_dq T t f (p + 1) else p
theorem pr_dq_1 {T : Nat → Int} {t f p : Nat} (h : pr_dg T t p) : pr_dq T t (f + 1) p = pr_dq T t f (p + 1) := by
  show (if pr_dg T t p then pr_dq T t f (p + 1) else p) = _
  exact if_pos h
theorem pr_dq_0 {T : Nat → Int} {t f p : Nat} (h : ¬ pr_dg T t p) : pr_dq T t (f + 1) p = p := by
  show (if pr_dg T t p then pr_dq T t f (p + 1) else p) = _
  exact if_neg h
/-- an event, perhaps / and an event: whether, where, 1 or 2 -/
def pr_gv (T : Nat → Int) (t : Nat) (n : Int) (p : Nat) : Bool × Nat × Nat := if (pr_E T t n false p 0).1 = false then (false, (pr_E T t n false p 0).2, 1) else if pr_k T t (pr_E T t n false p 0).2 = 47 then ((pr_E T t n false ((pr_E T t n false p 0).2 + 1) 0).1, (pr_E T t n false ((pr_E T t n false p 0).2 + 1) 0).2, 2) else (true, (pr_E T t n false p 0).2, 1)
/-- a rate -/
def pr_rt (T : Nat → Int) (t p : Nat) : Bool × Nat × Nat := if pr_k T t (pr_dq T t 8 p) = 58 then (if 49 ≤ pr_k T t (pr_dq T t 8 p + 1) ∧ pr_k T t (pr_dq T t 8 p + 1) ≤ 57 then (true, pr_dq T t 8 (pr_dq T t 8 p + 1), 0) else (false, pr_dq T t 8 p + 1, 0)) else (false, pr_dq T t 8 p, 0)
def pr_tm (T : Nat → Int) (t : Nat) (n : Int) (p : Nat) : Bool × Nat × Nat := if pr_dg T t p then pr_rt T t p else pr_gv T t n p
/-- a saying: whether, and where -/
def pr_sy (T : Nat → Int) (t : Nat) (n : Int) : Bool × Nat := if (pr_tm T t n 0).1 = false then (false, (pr_tm T t n 0).2.1) else if pr_k T t (pr_tm T t n 0).2.1 = 126 ∧ (pr_tm T t n 0).2.2 = 1 then ((pr_gv T t n ((pr_tm T t n 0).2.1 + 1)).1, (pr_gv T t n ((pr_tm T t n 0).2.1 + 1)).2.1) else if pr_k T t (pr_tm T t n 0).2.1 = 61 ∨ pr_k T t (pr_tm T t n 0).2.1 = 60 ∨ pr_k T t (pr_tm T t n 0).2.1 = 62 then ((pr_tm T t n ((pr_tm T t n 0).2.1 + 1)).1, (pr_tm T t n ((pr_tm T t n 0).2.1 + 1)).2.1) else (false, (pr_tm T t n 0).2.1)
section PRQ
variable {X : aX} {C S d : Nat} {K0 : Option Value → aH → Nat → Nat → Prop} {h : aH} {tp : List Int32} {t p o : Nat} {nd : Int32}
theorem pr_isDigit (s : pr_s nd h tp t p o) (yes : ∀ H, y_fr h H [] [] → p < t → pr_dg (y_N tp) t p → K0 (some (.int (Int32.ofInt 1))) H C S) (no : ∀ H, y_fr h H [] [] → ¬ pr_dg (y_N tp) t p → K0 (some (.int (Int32.ofInt 0))) H C S) : aOK s_P X (d + 1) a_m224 0 [some (.ref 155)] [] h C S K0 := by
  obtain ⟨toI, atI, opI, hr, a1, a2, a3, a4, a5, a6, a7, a8, pt, t40, o5⟩ := s
  have ac := y_cl1 a5
  have T37y : ∀ {G : aH}, y_fr h G [] [] → p < t → pr_dg (y_N tp) t p → aOK s_P X (d + 1) a_m224 30 [some (.ref 155)] [.int (y_01 true)] G C S K0 := by
    intro G e hp hc
    refine w_go z_hl [] [] 40 e.1 ?_
    exact ⟨fun q => absurd q (by decide), fun _ => ⟨by decide, fun H hH => yes H (y_st e hH (by repeat (first | exact w_nil | refine w_cons (Or.inl (y_m rfl)) ?_ | refine w_cons (Or.inr (by assumption)) ?_)) (by repeat (first | exact w_nil | refine w_cons (Or.inl (y_m rfl)) ?_ | refine w_cons (Or.inr (by assumption)) ?_))) hp hc⟩⟩
  have T37n : ∀ {G : aH}, y_fr h G [] [] → ¬ pr_dg (y_N tp) t p → aOK s_P X (d + 1) a_m224 30 [some (.ref 155)] [.int (y_01 false)] G C S K0 := by
    intro G e hn
    refine w_go z_hl [] [] 40 e.1 ?_
    exact ⟨fun _ => ⟨by decide, fun H hH => no H (y_st e hH (by repeat (first | exact w_nil | refine w_cons (Or.inl (y_m rfl)) ?_ | refine w_cons (Or.inr (by assumption)) ?_)) (by repeat (first | exact w_nil | refine w_cons (Or.inl (y_m rfl)) ?_ | refine w_cons (Or.inr (by assumption)) ?_))) hn⟩, fun q => absurd q (by decide)⟩
  refine w_go z_hl [] [176] 40 hr ?_
  intro x hx _ _
  obtain rfl := y_fi a4 hx
  intro y hy _ _
  obtain rfl := y_fi a2 hy
  refine ⟨fun q => ⟨by decide, fun H hH => no H (y_st (y_rf hr) hH (by repeat (first | exact w_nil | refine w_cons (Or.inl (y_m rfl)) ?_ | refine w_cons (Or.inr (by assumption)) ?_)) (by repeat (first | exact w_nil | refine w_cons (Or.inl (y_m rfl)) ?_ | refine w_cons (Or.inr (by assumption)) ?_))) (fun w => ?_)⟩, fun q => ?_⟩
  · have q1 : toI.toInt ≤ atI.toInt := (y_ci .ge _ _).mp q
    have k0 : pr_k (y_N tp) t p = 0 := if_neg (by omega)
    have w1 := w.1
    omega
  · have q1 : ¬ (toI.toInt ≤ atI.toInt) := y_cif q
    have pt' : p < t := by omega
    have ek : pr_k (y_N tp) t p = y_N tp p := pr_k_1 pt'
    refine ⟨⟨by omega, by omega⟩, fun l hl len bb => ?_⟩
    obtain rfl := y_ai a1 hl
    intro H hH
    have e : y_fr h H [] [] := y_st (y_rf hr) hH (by repeat (first | exact w_nil | refine w_cons (Or.inl (y_m rfl)) ?_ | refine w_cons (Or.inr (by assumption)) ?_)) (by repeat (first | exact w_nil | refine w_cons (Or.inl (y_m rfl)) ?_ | refine w_cons (Or.inr (by assumption)) ?_))
    refine q_in (v := (tp.getD atI.toNatClampNeg 0).toInt64) (lo := Int64.ofInt 48) (hi := Int64.ofInt 57) e.1 (fun H2 e2 l1 l2 => ⟨fun n e => (by cases e), ?_⟩) (fun H2 e2 l3 => ⟨fun n e => (by cases e), ?_⟩)
    · rw [y_i2l, ac, y_i64 (by decide) (by decide)] at l1 l2
      have l1' : 48 ≤ y_N tp p := l1
      have l2' : y_N tp p ≤ 57 := l2
      exact T37y (y_sq e e2 rfl rfl) pt' ⟨by omega, by omega⟩
    · rw [y_i2l, ac, y_i64 (by decide) (by decide), y_i64 (by decide) (by decide)] at l3
      refine T37n (y_sq e e2 rfl rfl) (fun w => ?_)
      have w1 := w.1
      have w2 := w.2
      refine l3 ?_ ?_
      · show 48 ≤ y_N tp p
        omega
      · show y_N tp p ≤ 57
        omega
theorem pr_digits_loop {mb : Int32} : ∀ (m : Nat) (h : aH) (p : Nat) (v : Int64) (nI : Int32) (k w : Nat), pr_s nd h tp t p o → nI.toInt = k → k + m = 8 → v.toInt = w → w < 10 ^ k →
    (∀ (H : aH) (r : Int64), y_fr h H [19613] [] → pr_s nd H tp t (pr_dq (y_N tp) t m p) o → (w : Int) ≤ r.toInt → (0 < m → pr_dg (y_N tp) t p → 10 * (w : Int) + (pr_k (y_N tp) t p - 48) ≤ r.toInt) → r.toInt ≤ 100000000 → K0 (some (.long r)) H C S) →
    aOK s_P X (d + 2) a_m225 34 [some (.ref 155), some (.int mb), some (.long v), none, some (.int nI)] [] h C S K0 := by
  intro m
  induction m with
  | zero =>
    intro h p v nI k w s hk hm hv hw hK
    obtain ⟨hr, pt, t40, o5⟩ := pr_s_hr s
    have hk8 : k = 8 := by omega
    subst hk8
    refine w_go z_hl [34] [] 40 hr ?_
    refine ⟨fun _ => fun H hH => ?_, fun q => ?_⟩
    · have f : y_fr h H [] [] := y_st (y_rf hr) hH (by repeat (first | exact w_nil | refine w_cons (Or.inl (y_m rfl)) ?_ | refine w_cons (Or.inr (by assumption)) ?_)) (by repeat (first | exact w_nil | refine w_cons (Or.inl (y_m rfl)) ?_ | refine w_cons (Or.inr (by assumption)) ?_))
      exact hK H v (y_mo f rfl rfl) (pr_s_fr s f rfl rfl) (by omega) (fun w => absurd w (Nat.lt_irrefl 0)) (by omega)
    · have : ¬ (((Int8.ofInt 8).toInt32).toInt ≤ nI.toInt) := y_cif q
      rw [y_c8] at this
      exfalso
      omega
  | succ m ihm =>
    intro h p v nI k w s hk hm hv hw hK
    obtain ⟨hr, pt, t40, o5⟩ := pr_s_hr s
    have w8 : 10 ^ (k + 1) ≤ 10 ^ 8 := Nat.pow_le_pow_right (by decide) (by omega)
    have wk : 10 ^ (k + 1) = 10 * 10 ^ k := by rw [Nat.pow_succ, Nat.mul_comm]
    have fin : ∀ {G : aH}, ¬ pr_dg (y_N tp) t p → y_fr h G [] [] → K0 (some (.long v)) G C S := fun hd e => hK _ v (y_mo e rfl rfl) (by rw [pr_dq_0 hd]; exact pr_s_fr s e rfl rfl) (by omega) (fun _ w => absurd w hd) (by omega)
    have T45y : ∀ {G : aH}, y_fr h G [] [] → p < t → pr_dg (y_N tp) t p → aOK s_P X (d + 2) a_m225 45 [some (.ref 155), some (.int mb), some (.long v), none, some (.int nI)] [.int (Int32.ofInt 1)] G C S K0 := by
      intro G e hp hdg
      obtain ⟨c1, c2⟩ := id hdg
      have ek : pr_k (y_N tp) t p = y_N tp p := pr_k_1 hp
      rw [ek] at c1 c2
      obtain ⟨toI, atI, opI, hr', a1, a2, a3, a4, a5, a6, a7, a8, pt', -, o5'⟩ := pr_s_fr s e rfl rfl
      have ac := y_cl1 a5
      have inc : (atI + Int32.ofInt 1).toInt = ((p + 1 : Nat) : Int) := by rw [y_inc (by omega), a5]; rfl
      have ink : (nI + Int32.ofInt 1).toInt = ((k + 1 : Nat) : Int) := by rw [y_inc (by omega), hk]; rfl
      refine w_go z_hl [34] [] 60 e.1 ?_
      refine ⟨fun q => absurd q (by decide), fun _ => ?_⟩
      intro x hx _ _
      obtain rfl := y_fi a4 hx
      refine ⟨⟨by omega, by omega⟩, fun l hl len bb => ?_⟩
      obtain rfl := y_ai a1 hl
      refine ⟨rfl, y_zini (by show 0 ≤ (atI + Int32.ofInt 1).toInt; omega) (by show (atI + Int32.ofInt 1).toInt ≤ 40; omega), ?_⟩
      intro H hH
      have f : y_fr G H [19613] [] := y_st (y_mo (y_rf e.1) rfl rfl) hH (by repeat (first | exact w_nil | refine w_cons (Or.inl (y_m rfl)) ?_ | refine w_cons (Or.inr (by assumption)) ?_)) (by repeat (first | exact w_nil | refine w_cons (Or.inl (y_m rfl)) ?_ | refine w_cons (Or.inr (by assumption)) ?_))
      have e2 : y_fr h H [19613] [] := y_sq (y_mo e rfl rfl) f rfl rfl
      obtain ⟨c, hc⟩ : ∃ c : Nat, y_N tp p = c := ⟨(y_N tp p).toNat, by omega⟩
      have hcc : (tp.getD atI.toNatClampNeg 0).toInt64.toInt = c := by rw [y_i2l, ac]; exact hc
      have m1 : (Int64.ofInt 10 * v).toInt = ((10 * w : Nat) : Int) := y_mul64 (m := 10) _ (y_i64 (by decide) (by decide)) hv rfl (by omega)
      have m2 : (Int64.ofInt 10 * v + (tp.getD atI.toNatClampNeg 0).toInt64).toInt = ((10 * w + c : Nat) : Int) := y_add64 _ m1 hcc rfl (by omega)
      have m3 : (Int64.ofInt 10 * v + (tp.getD atI.toNatClampNeg 0).toInt64 - Int64.ofInt 48).toInt = ((10 * w + (c - 48) : Nat) : Int) := by
        rw [y_lsub (by rw [m2, y_i64 (by decide) (by decide)]; omega) (by rw [m2, y_i64 (by decide) (by decide)]; omega), m2, y_i64 (by decide) (by decide)]
        omega
      refine ihm H (p + 1) _ _ (k + 1) (10 * w + (c - 48)) ⟨toI, _, opI, f.1, (y_ae f rfl).trans a1, (y_fe f rfl).trans a2, a3, hH.2.1 19613 _ rfl, inc, (y_fe f rfl).trans a6, a7, (y_fe f rfl).trans a8, by omega, t40, o5⟩ ink (by omega) m3 (by omega) (fun H' r f1 f2 f3 f4 f5 => hK H' r (y_sq e2 f1 rfl rfl) (by rw [pr_dq_1 hdg]; exact f2) (by omega) (fun _ _ => by rw [ek, hc]; omega) f5)
    have T45n : ∀ {G : aH}, ¬ pr_dg (y_N tp) t p → y_fr h G [] [] → aOK s_P X (d + 2) a_m225 45 [some (.ref 155), some (.int mb), some (.long v), none, some (.int nI)] [.int (Int32.ofInt 0)] G C S K0 := by
      intro G hd e
      refine w_go z_hl [34] [] 60 e.1 ?_
      exact ⟨fun _ => fun H hH => fin hd (y_st e hH (by repeat (first | exact w_nil | refine w_cons (Or.inl (y_m rfl)) ?_ | refine w_cons (Or.inr (by assumption)) ?_)) (by repeat (first | exact w_nil | refine w_cons (Or.inl (y_m rfl)) ?_ | refine w_cons (Or.inr (by assumption)) ?_))), fun q => absurd q (by decide)⟩
    refine w_go z_hl [34] [224] 40 hr ?_
    refine ⟨fun q => ?_, fun _ => fun H hH => ?_⟩
    · have : ((Int8.ofInt 8).toInt32).toInt ≤ nI.toInt := (y_ci .ge _ _).mp q
      rw [y_c8] at this
      exfalso
      omega
    · have f : y_fr h H [] [] := y_st (y_rf hr) hH (by repeat (first | exact w_nil | refine w_cons (Or.inl (y_m rfl)) ?_ | refine w_cons (Or.inr (by assumption)) ?_)) (by repeat (first | exact w_nil | refine w_cons (Or.inl (y_m rfl)) ?_ | refine w_cons (Or.inr (by assumption)) ?_))
      refine pr_isDigit (pr_s_fr s f rfl rfl) (fun H2 e2 hp c1 => ⟨fun n e => (by cases e), ?_⟩) (fun H2 e2 hn => ⟨fun n e => (by cases e), ?_⟩)
      · exact T45y (y_sq f e2 rfl rfl) hp c1
      · exact T45n hn (y_sq f e2 rfl rfl)
/-- digits(): a number that may begin with 0 (mb), or may not -/
theorem pr_digits (s : pr_s nd h tp t p o) {mb : Int32} (bad : ∀ (H : aH) (r : Int64), y_fr h H [19613] [] → pr_s nd H tp t p o → ¬ pr_dg (y_N tp) t p ∨ (mb.toInt = 0 ∧ pr_k (y_N tp) t p = 48) → r.toInt = -1 → K0 (some (.long r)) H C S) (good : ∀ (H : aH) (r : Int64), y_fr h H [19613] [] → pr_s nd H tp t (pr_dq (y_N tp) t 8 p) o → pr_dg (y_N tp) t p → (mb.toInt ≠ 0 ∨ pr_k (y_N tp) t p ≠ 48) → pr_k (y_N tp) t p - 48 ≤ r.toInt → 0 ≤ r.toInt → r.toInt ≤ 100000000 → K0 (some (.long r)) H C S) : aOK s_P X (d + 2) a_m225 0 [some (.ref 155), some (.int mb), none, none, none] [] h C S K0 := by
  obtain ⟨hr, pt, t40, o5⟩ := pr_s_hr s
  have z0 : (0 : Int32).toInt = 0 := by decide
  have c48 : ((Int8.ofInt 48).toInt32).toInt = 48 := by decide
  have T29 : ∀ {G : aH}, pr_dg (y_N tp) t p → (mb.toInt ≠ 0 ∨ pr_k (y_N tp) t p ≠ 48) → y_fr h G [] [] → aOK s_P X (d + 2) a_m225 29 [some (.ref 155), some (.int mb), none, none, none] [] G C S K0 := by
    intro G hd hz e
    refine w_go z_hl [34] [] 40 e.1 ?_
    intro H hH
    have e2 := y_st e hH (by repeat (first | exact w_nil | refine w_cons (Or.inl (y_m rfl)) ?_ | refine w_cons (Or.inr (by assumption)) ?_)) (by repeat (first | exact w_nil | refine w_cons (Or.inl (y_m rfl)) ?_ | refine w_cons (Or.inr (by assumption)) ?_))
    refine pr_digits_loop 8 H p _ _ 0 0 (pr_s_fr s e2 rfl rfl) rfl rfl rfl (by decide) (fun H' r f1 f2 f3 f4 f5 => ?_)
    have f6 := f4 (by decide) hd
    exact good H' r (y_sq (y_mo e2 rfl rfl) f1 rfl rfl) f2 hd hz (by omega) (by omega) f5
  have T4y : ∀ {G : aH}, y_fr h G [] [] → p < t → pr_dg (y_N tp) t p → aOK s_P X (d + 2) a_m225 4 [some (.ref 155), some (.int mb), none, none, none] [.int (Int32.ofInt 1)] G C S K0 := by
    intro G e hp hd
    have ek : pr_k (y_N tp) t p = y_N tp p := pr_k_1 hp
    obtain ⟨toI, atI, opI, hr', a1, a2, a3, a4, a5, a6, a7, a8, pt', -, o5'⟩ := pr_s_fr s e rfl rfl
    have ac := y_cl1 a5
    refine w_go z_hl [29] [] 40 e.1 ?_
    refine ⟨fun q => absurd q (by decide), fun _ => ⟨fun z => fun H hH => ?_, fun z => ?_⟩⟩
    · have z1 : mb.toInt ≠ (0 : Int32).toInt := (y_ci .ne _ _).mp z
      rw [z0] at z1
      exact T29 hd (Or.inl z1) (y_st e hH (by repeat (first | exact w_nil | refine w_cons (Or.inl (y_m rfl)) ?_ | refine w_cons (Or.inr (by assumption)) ?_)) (by repeat (first | exact w_nil | refine w_cons (Or.inl (y_m rfl)) ?_ | refine w_cons (Or.inr (by assumption)) ?_)))
    · have z1 : ¬ (mb.toInt ≠ (0 : Int32).toInt) := y_cif z
      rw [z0] at z1
      intro x hx _ _
      obtain rfl := y_fi a4 hx
      refine ⟨⟨by omega, by omega⟩, fun l hl len bb => ?_⟩
      obtain rfl := y_ai a1 hl
      refine ⟨fun z2 => fun H hH => ?_, fun z2 => fun H hH => ?_⟩
      · have z3 : (tp.getD atI.toNatClampNeg 0).toInt ≠ ((Int8.ofInt 48).toInt32).toInt := (y_ci .ne _ _).mp z2
        rw [ac, c48] at z3
        have z4 : y_N tp p ≠ 48 := z3
        exact T29 hd (Or.inr (by omega)) (y_st e hH (by repeat (first | exact w_nil | refine w_cons (Or.inl (y_m rfl)) ?_ | refine w_cons (Or.inr (by assumption)) ?_)) (by repeat (first | exact w_nil | refine w_cons (Or.inl (y_m rfl)) ?_ | refine w_cons (Or.inr (by assumption)) ?_)))
      · have z3 : ¬ ((tp.getD atI.toNatClampNeg 0).toInt ≠ ((Int8.ofInt 48).toInt32).toInt) := y_cif z2
        rw [ac, c48] at z3
        have z4 : ¬ (y_N tp p ≠ 48) := z3
        have e2 := y_st e hH (by repeat (first | exact w_nil | refine w_cons (Or.inl (y_m rfl)) ?_ | refine w_cons (Or.inr (by assumption)) ?_)) (by repeat (first | exact w_nil | refine w_cons (Or.inl (y_m rfl)) ?_ | refine w_cons (Or.inr (by assumption)) ?_))
        exact bad H _ (y_mo e2 rfl rfl) (pr_s_fr s e2 rfl rfl) (Or.inr ⟨by omega, by omega⟩) (by decide)
  have T4n : ∀ {G : aH}, y_fr h G [] [] → ¬ pr_dg (y_N tp) t p → aOK s_P X (d + 2) a_m225 4 [some (.ref 155), some (.int mb), none, none, none] [.int (Int32.ofInt 0)] G C S K0 := by
    intro G e hn
    refine w_go z_hl [29] [] 40 e.1 ?_
    refine ⟨fun _ => fun H hH => ?_, fun q => absurd q (by decide)⟩
    have e2 := y_st e hH (by repeat (first | exact w_nil | refine w_cons (Or.inl (y_m rfl)) ?_ | refine w_cons (Or.inr (by assumption)) ?_)) (by repeat (first | exact w_nil | refine w_cons (Or.inl (y_m rfl)) ?_ | refine w_cons (Or.inr (by assumption)) ?_))
    exact bad H _ (y_mo e2 rfl rfl) (pr_s_fr s e2 rfl rfl) (Or.inl hn) (by decide)
  refine w_go z_hl [] [224] 40 hr ?_
  intro H hH
  have f : y_fr h H [] [] := y_st (y_rf hr) hH (by repeat (first | exact w_nil | refine w_cons (Or.inl (y_m rfl)) ?_ | refine w_cons (Or.inr (by assumption)) ?_)) (by repeat (first | exact w_nil | refine w_cons (Or.inl (y_m rfl)) ?_ | refine w_cons (Or.inr (by assumption)) ?_))
  refine pr_isDigit (pr_s_fr s f rfl rfl) (fun H2 e2 hp c1 => ⟨fun n e => (by cases e), ?_⟩) (fun H2 e2 hn => ⟨fun n e => (by cases e), ?_⟩)
  · exact T4y (y_sq f e2 rfl rfl) hp c1
  · exact T4n (y_sq f e2 rfl rfl) hn
/-- an event that was read whole -/
theorem pr_ev_ok {T : Nat → Int} {n : Int} {q : Nat} (q40 : q ≤ 40) (hE : pr_E T t n false p 0 = pr_E T t n true q 0) (hf : pr_f 2 T t q) : pr_E T t n false p 0 = (true, q) := by
  rw [hE, pr_end q40 (fun w => absurd w.2 (Nat.lt_irrefl 0)) (hf.1 (by decide)) (hf.2 rfl)]
  rfl
/-- notes() -/
theorem pr_notes (n0 : 0 ≤ nd.toInt) (n10 : nd.toInt ≤ 10) (s : pr_s nd h tp t p 0) {iI : Int32} {i : Nat} (gi : w_f h 19610 = some (.int iI)) (hi : iI.toInt = i) (i11 : i ≤ 11) {sI gI : Int32} {sd g : Nat} (hs : sI.toInt = sd) (hs2 : sd < 2) (hg : gI.toInt = g) (hg2 : g < 2)
    (yes : ∀ (H : aH) (q : Nat), y_fr h H [19613, 19615] [168, 169] → pr_s nd H tp t q 0 → pr_E (y_N tp) t nd.toInt false p 0 = (true, q) → K0 (some (.int (Int32.ofInt 1))) H C S)
    (no : ∀ (H : aH) (q o' : Nat), y_fr h H [19613, 19615] [168, 169] → pr_s nd H tp t q o' → pr_E (y_N tp) t nd.toInt false p 0 = (false, q) → K0 (some (.int (Int32.ofInt 0))) H C S) :
    aOK s_P X (d + 166) a_m228 0 [some (.ref 155), some (.int sI), some (.int gI), none, none] [] h C S K0 := by
  obtain ⟨toI, atI, opI, hr, a1, a2, a3, a4, a5, a6, a7, a8, pt, t40, o5⟩ := id s
  have ik := y_4k hi hs hg (by omega) (by omega) (by omega)
  have ck := y_cl1 ik
  have bk : 0 ≤ (Int32.ofInt 4 * iI + Int32.ofInt 2 * sI + gI).toInt ∧ (Int32.ofInt 4 * iI + Int32.ofInt 2 * sI + gI).toInt < ((52 : Nat) : Int) := by omega
  have T27 : ∀ {G : aH} {q o' : Nat} {r : Int32}, y_fr h G [19613, 19615] [168] → pr_s nd G tp t q o' → 0 ≤ r.toInt ∧ r.toInt ≤ 1 → (∀ (H : aH), y_fr h H [19613, 19615] [168, 169] → pr_s nd H tp t q o' → K0 (some (.int r)) H C S) → aOK s_P X (d + 166) a_m228 27 [some (.ref 155), some (.int sI), some (.int gI), some (.int (Int32.ofInt 4 * iI + Int32.ofInt 2 * sI + gI)), none] [.int r] G C S K0 := by
    intro G q o' r e ps hr01 hK
    obtain ⟨toJ, atJ, opJ, -, c1, c2, c3, c4, c5, c6, c7, c8, pt', -, -⟩ := id ps
    refine w_go z_hl [] [] 40 e.1 ?_
    intro x hx _ _
    obtain rfl := y_fi c4 hx
    refine ⟨bk, ⟨by omega, by omega⟩, fun l hl len bb => ?_⟩
    refine ⟨hr01, fun H hH => ?_⟩
    have f : y_fr G H [] [169] := y_st (y_mo (y_rf e.1) rfl rfl) hH (by repeat (first | exact w_nil | refine w_cons (Or.inl (y_m rfl)) ?_ | refine w_cons (Or.inr (by assumption)) ?_)) (by repeat (first | exact w_nil | refine w_cons (Or.inl (y_m rfl)) ?_ | refine w_cons (Or.inr (by assumption)) ?_))
    exact hK H (y_sq (y_mo e rfl rfl) f rfl rfl) (pr_s_fr ps f rfl rfl)
  refine w_go z_hl [] [229] 40 hr ?_
  intro x hx _ _
  obtain rfl := y_fi gi hx
  intro y hy _ _
  obtain rfl := y_fi a4 hy
  refine ⟨bk, ⟨by omega, by omega⟩, fun l hl len bb => ?_⟩
  intro H hH
  have e : y_fr h H [19613, 19615] [168] := y_st (y_mo (y_rf hr) rfl rfl) hH (by repeat (first | exact w_nil | refine w_cons (Or.inl (y_m rfl)) ?_ | refine w_cons (Or.inr (by assumption)) ?_)) (by repeat (first | exact w_nil | refine w_cons (Or.inl (y_m rfl)) ?_ | refine w_cons (Or.inr (by assumption)) ?_))
  have e0 : y_fr h H [] [168] := y_st (y_mo (y_rf hr) rfl rfl) hH (by repeat (first | exact w_nil | refine w_cons (Or.inl (y_m rfl)) ?_ | refine w_cons (Or.inr (by assumption)) ?_)) (by repeat (first | exact w_nil | refine w_cons (Or.inl (y_m rfl)) ?_ | refine w_cons (Or.inr (by assumption)) ?_))
  refine aOK_deep (d := 163 + d + 2) (by omega) (pr_rd n0 n10 163 2 H _ tp t p 0 (by decide) (pr_s_fr s e0 rfl rfl) (by omega) (fun H2 q f2 s4 hpq hE hf => ⟨fun n e => (by cases e), ?_⟩) (fun H2 q o' f2 s4 hE => ⟨fun n e => (by cases e), ?_⟩))
  · have q40 := (pr_s_hr s4).2.1
    exact T27 (y_sq e f2 rfl rfl) s4 (by decide) (fun H3 e3 s5 => yes H3 q e3 s5 (pr_ev_ok (by omega) hE hf))
  · exact T27 (y_sq e f2 rfl rfl) s4 (by decide) (fun H3 e3 s5 => no H3 q o' e3 s5 hE)
end PRQ
end PT33ibe
section PT33ibf
/-! ===== v21: readsTerm, readsSaying of the reference ===== -/
section PRG
variable {T : Nat → Int} {t p q r : Nat} {n : Int} {b : Bool}
theorem pr_tf {q : Nat} {P : Prop} (w : (true, q).1 = false) : P := absurd (show true = false from w) (by decide)
theorem pr_gv_n (h : pr_E T t n false p 0 = (false, q)) : pr_gv T t n p = (false, q, 1) := by
  unfold pr_gv
  rw [h]
  exact if_pos rfl
theorem pr_gv_1 (h : pr_E T t n false p 0 = (true, q)) (hk : pr_k T t q ≠ 47) : pr_gv T t n p = (true, q, 1) := by
  unfold pr_gv
  rw [h]
  exact (if_neg (fun w => pr_tf w)).trans (if_neg hk)
theorem pr_gv_2 (h : pr_E T t n false p 0 = (true, q)) (hk : pr_k T t q = 47) (h2 : pr_E T t n false (q + 1) 0 = (b, r)) : pr_gv T t n p = (b, r, 2) := by
  unfold pr_gv
  rw [h]
  refine (if_neg (fun w => pr_tf w)).trans ((if_pos hk).trans ?_)
  show ((pr_E T t n false (q + 1) 0).1, (pr_E T t n false (q + 1) 0).2, 2) = (b, r, 2)
  rw [h2]
theorem pr_rt_n (hk : pr_k T t (pr_dq T t 8 p) ≠ 58) : pr_rt T t p = (false, pr_dq T t 8 p, 0) := if_neg hk
theorem pr_rt_0 (hk : pr_k T t (pr_dq T t 8 p) = 58) (h : ¬ (49 ≤ pr_k T t (pr_dq T t 8 p + 1) ∧ pr_k T t (pr_dq T t 8 p + 1) ≤ 57)) : pr_rt T t p = (false, pr_dq T t 8 p + 1, 0) := (if_pos hk).trans (if_neg h)
theorem pr_rt_1 (hk : pr_k T t (pr_dq T t 8 p) = 58) (h : 49 ≤ pr_k T t (pr_dq T t 8 p + 1) ∧ pr_k T t (pr_dq T t 8 p + 1) ≤ 57) : pr_rt T t p = (true, pr_dq T t 8 (pr_dq T t 8 p + 1), 0) := (if_pos hk).trans (if_pos h)
theorem pr_tm_1 (h : pr_dg T t p) : pr_tm T t n p = pr_rt T t p := if_pos h
theorem pr_tm_0 (h : ¬ pr_dg T t p) : pr_tm T t n p = pr_gv T t n p := if_neg h
end PRG
section PRU
variable {X : aX} {C S d : Nat} {K0 : Option Value → aH → Nat → Nat → Prop} {h : aH} {tp : List Int32} {t p : Nat} {nd iI : Int32} {i : Nat}
theorem pr_readsTerm (n0 : 0 ≤ nd.toInt) (n10 : nd.toInt ≤ 10) (s : pr_s nd h tp t p 0) (gi : w_f h 19610 = some (.int iI)) (hi : iI.toInt = i) (i11 : i ≤ 11) {sI : Int32} {sd : Nat} (hs : sI.toInt = sd) (hs2 : sd < 2)
    (yes : ∀ (H : aH) (q k : Nat) (kd : List Int32), y_fr h H [19613, 19615] [166, 167, 168, 169] → pr_s nd H tp t q 0 → pr_tm (y_N tp) t nd.toInt p = (true, q, k) → w_a H 166 = some (0, .inl kd) → y_N kd (2 * i + sd) = (k : Nat) → K0 (some (.int (Int32.ofInt 1))) H C S)
    (no : ∀ (H : aH) (q o' k : Nat), y_fr h H [19613, 19615] [166, 167, 168, 169] → pr_s nd H tp t q o' → pr_tm (y_N tp) t nd.toInt p = (false, q, k) → K0 (some (.int (Int32.ofInt 0))) H C S) :
    aOK s_P X (d + 167) a_m223 0 [some (.ref 155), some (.int sI), none] [] h C S K0 := by
  obtain ⟨hr, pt, t40, -⟩ := pr_s_hr s
  have hk := y_2k hi hs (by omega) (by omega)
  generalize hkI : Int32.ofInt 2 * iI + sI = kI at hk
  have ck := y_cl1 hk
  have hk2 : (Int32.ofInt 2 * kI).toInt = ((2 * (2 * i + sd) : Nat) : Int) := y_mulS (m := 2) _ (by decide) hk rfl (by omega)
  have hk3 : (Int32.ofInt 2 * kI + Int32.ofInt 1).toInt = ((2 * (2 * i + sd) + 1 : Nat) : Int) := y_addS _ hk2 (n := 1) (by decide) rfl (by omega)
  have c2 := y_cl1 hk2
  have c3 := y_cl1 hk3
  have b1 : 0 ≤ kI.toInt ∧ kI.toInt < ((26 : Nat) : Int) := by omega
  have b2 : 0 ≤ (Int32.ofInt 2 * kI).toInt ∧ (Int32.ofInt 2 * kI).toInt < ((52 : Nat) : Int) := by omega
  have b3 : 0 ≤ (Int32.ofInt 2 * kI + Int32.ofInt 1).toInt ∧ (Int32.ofInt 2 * kI + Int32.ofInt 1).toInt < ((52 : Nat) : Int) := by omega
  have z0 : (Int64.ofNat 0).toInt = 0 := by decide
  have c58 : ((Int8.ofInt 58).toInt32).toInt = 58 := by decide
  have c47 : ((Int8.ofInt 47).toInt32).toInt = 47 := by decide
  have T61 : ∀ {G : aH} {q : Nat} {kd : List Int32} {r : Int64}, y_fr h G [19613, 19615] [166, 167, 168, 169] → pr_s nd G tp t q 0 → w_a G 166 = some (0, .inl kd) → y_N kd (2 * i + sd) = 0 → (1 ≤ r.toInt → pr_tm (y_N tp) t nd.toInt p = (true, q, 0)) → (r.toInt ≤ 0 → pr_tm (y_N tp) t nd.toInt p = (false, q, 0)) → aOK s_P X (d + 167) a_m223 61 [some (.ref 155), some (.int sI), some (.int kI)] [.long r, .int (Int32.ofInt 2 * kI + Int32.ofInt 1), .ref 169] G C S K0 := by
    intro G q kd r e ps gk hk0 fy fn
    refine w_go z_hl [] [] 40 e.1 ?_
    refine ⟨b3, y_l64 r, fun l hl len bb => ?_⟩
    refine ⟨b3, ⟨fun q2 => ⟨by decide, fun H hH => ?_⟩, fun q2 => ⟨by decide, fun H hH => ?_⟩⟩⟩
    · have f : y_fr G H [] [167] := y_st (y_mo (y_rf e.1) rfl rfl) hH (by repeat (first | exact w_nil | refine w_cons (Or.inl (y_m rfl)) ?_ | refine w_cons (Or.inr (by assumption)) ?_)) (by repeat (first | exact w_nil | refine w_cons (Or.inl (y_m rfl)) ?_ | refine w_cons (Or.inr (by assumption)) ?_))
      have q3 : ((l.set (Int32.ofInt 2 * kI + Int32.ofInt 1).toNatClampNeg r).getD (Int32.ofInt 2 * kI + Int32.ofInt 1).toNatClampNeg 0).toInt ≤ (Int64.ofNat 0).toInt := (y_cl .le _ _).mp q2
      rw [c3, y_gset (by omega), if_pos rfl, z0] at q3
      exact no H q 0 0 (y_sq e f rfl rfl) (pr_s_fr ps f rfl rfl) (fn q3)
    · have f : y_fr G H [] [167] := y_st (y_mo (y_rf e.1) rfl rfl) hH (by repeat (first | exact w_nil | refine w_cons (Or.inl (y_m rfl)) ?_ | refine w_cons (Or.inr (by assumption)) ?_)) (by repeat (first | exact w_nil | refine w_cons (Or.inl (y_m rfl)) ?_ | refine w_cons (Or.inr (by assumption)) ?_))
      have q3 : ¬ (((l.set (Int32.ofInt 2 * kI + Int32.ofInt 1).toNatClampNeg r).getD (Int32.ofInt 2 * kI + Int32.ofInt 1).toNatClampNeg 0).toInt ≤ (Int64.ofNat 0).toInt) := y_clf q2
      rw [c3, y_gset (by omega), if_pos rfl, z0] at q3
      exact yes H q 0 kd (y_sq e f rfl rfl) (pr_s_fr ps f rfl rfl) (fy (by omega)) ((y_ae f rfl).trans gk) hk0
  have T42y : ∀ {G : aH} {kd : List Int32}, pr_dg (y_N tp) t p → pr_k (y_N tp) t (pr_dq (y_N tp) t 8 p) = 58 → y_fr h G [19613, 19615] [166, 167, 168, 169] → pr_s nd G tp t (pr_dq (y_N tp) t 8 p + 1) 0 → w_a G 166 = some (0, .inl kd) → y_N kd (2 * i + sd) = 0 → aOK s_P X (d + 167) a_m223 42 [some (.ref 155), some (.int sI), some (.int kI)] [.int (Int32.ofInt 1)] G C S K0 := by
    intro G kd hd h58 e ps gk hk0
    refine w_go z_hl [] [225] 40 e.1 ?_
    refine ⟨fun _ => fun H hH => ?_, fun q => absurd q (by decide)⟩
    have f : y_fr G H [] [] := y_st (y_rf e.1) hH (by repeat (first | exact w_nil | refine w_cons (Or.inl (y_m rfl)) ?_ | refine w_cons (Or.inr (by assumption)) ?_)) (by repeat (first | exact w_nil | refine w_cons (Or.inl (y_m rfl)) ?_ | refine w_cons (Or.inr (by assumption)) ?_))
    have zm : (Int32.ofInt 0).toInt = 0 := by decide
    refine pr_digits (d := d + 164) (pr_s_fr ps f rfl rfl) (fun H2 r f2 ps2 hb hr' => ⟨fun n e => (by cases e), ?_⟩) (fun H2 r f2 ps2 hd2 hz hr1 hr2 hr3 => ⟨fun n e => (by cases e), ?_⟩)
    · refine T61 (y_sq (y_sq e f rfl rfl) f2 rfl rfl) ps2 ((y_ae f2 rfl).trans ((y_ae f rfl).trans gk)) hk0 (fun w => by omega) (fun _ => ?_)
      rw [pr_tm_1 hd, pr_rt_0 h58 (fun w => ?_)]
      rcases hb with hb | hb
      · exact hb ⟨by omega, w.2⟩
      · have := hb.2
        omega
    · have hd3 := hd2.1
      have hd4 := hd2.2
      refine T61 (y_sq (y_sq e f rfl rfl) f2 rfl rfl) ps2 ((y_ae f2 rfl).trans ((y_ae f rfl).trans gk)) hk0 (fun _ => ?_) (fun w => ?_)
      · rw [pr_tm_1 hd, pr_rt_1 h58 ⟨?_, hd4⟩]
        rcases hz with hz | hz
        · exact absurd zm hz
        · omega
      · exfalso
        rcases hz with hz | hz
        · exact hz zm
        · omega
  have T42n : ∀ {G : aH}, pr_dg (y_N tp) t p → pr_k (y_N tp) t (pr_dq (y_N tp) t 8 p) ≠ 58 → y_fr h G [19613, 19615] [166, 167, 168, 169] → pr_s nd G tp t (pr_dq (y_N tp) t 8 p) 0 → aOK s_P X (d + 167) a_m223 42 [some (.ref 155), some (.int sI), some (.int kI)] [.int (Int32.ofInt 0)] G C S K0 := by
    intro G hd h58 e ps
    refine w_go z_hl [] [] 40 e.1 ?_
    refine ⟨fun q => absurd q (by decide), fun _ => ⟨by decide, fun H hH => ?_⟩⟩
    have f : y_fr G H [] [] := y_st (y_rf e.1) hH (by repeat (first | exact w_nil | refine w_cons (Or.inl (y_m rfl)) ?_ | refine w_cons (Or.inr (by assumption)) ?_)) (by repeat (first | exact w_nil | refine w_cons (Or.inl (y_m rfl)) ?_ | refine w_cons (Or.inr (by assumption)) ?_))
    exact no H _ 0 0 (y_sq e f rfl rfl) (pr_s_fr ps f rfl rfl) (by rw [pr_tm_1 hd, pr_rt_n h58])
  have T35 : ∀ {G : aH} {kd : List Int32} {r : Int64}, pr_dg (y_N tp) t p → y_fr h G [19613, 19615] [166, 167, 168, 169] → pr_s nd G tp t (pr_dq (y_N tp) t 8 p) 0 → w_a G 166 = some (0, .inl kd) → y_N kd (2 * i + sd) = 0 → aOK s_P X (d + 167) a_m223 35 [some (.ref 155), some (.int sI), some (.int kI)] [.long r, .int (Int32.ofInt 2 * kI), .ref 169] G C S K0 := by
    intro G kd r hd e ps gk hk0
    refine w_go z_hl [] [226] 40 e.1 ?_
    refine ⟨b2, y_l64 r, fun l hl len bb => fun H hH => ?_⟩
    have f : y_fr G H [] [167] := y_st (y_mo (y_rf e.1) rfl rfl) hH (by repeat (first | exact w_nil | refine w_cons (Or.inl (y_m rfl)) ?_ | refine w_cons (Or.inr (by assumption)) ?_)) (by repeat (first | exact w_nil | refine w_cons (Or.inl (y_m rfl)) ?_ | refine w_cons (Or.inr (by assumption)) ?_))
    have e2 : y_fr h H [19613, 19615] [166, 167, 168, 169] := y_sq e f rfl rfl
    refine pr_comes (d := d + 165) (pr_s_fr ps f rfl rfl) (by decide) (fun H2 f2 ps2 _ hc => ⟨fun n e => (by cases e), ?_⟩) (fun H2 f2 ps2 hc => ⟨fun n e => (by cases e), ?_⟩)
    · rw [c58] at hc
      exact T42y hd hc (y_sq e2 f2 rfl rfl) ps2 ((y_ae f2 rfl).trans ((y_ae f rfl).trans gk)) hk0
    · rw [c58] at hc
      exact T42n hd hc (y_sq e2 f2 rfl rfl) ps2
  have T13y : ∀ {G : aH}, pr_dg (y_N tp) t p → y_fr h G [] [] → aOK s_P X (d + 167) a_m223 13 [some (.ref 155), some (.int sI), some (.int kI)] [.int (Int32.ofInt 1)] G C S K0 := by
    intro G hd e
    have ps := pr_s_fr s e rfl rfl
    refine w_go z_hl [] [225] 40 e.1 ?_
    refine ⟨fun q => absurd q (by decide), fun _ => ⟨b1, by decide, fun l hl len bb => fun H hH => ?_⟩⟩
    have f : y_fr G H [] [166] := y_st (y_mo (y_rf e.1) rfl rfl) hH (by repeat (first | exact w_nil | refine w_cons (Or.inl (y_m rfl)) ?_ | refine w_cons (Or.inr (by assumption)) ?_)) (by repeat (first | exact w_nil | refine w_cons (Or.inl (y_m rfl)) ?_ | refine w_cons (Or.inr (by assumption)) ?_))
    have A := hH.2.2.1 166 _ rfl
    rw [ck] at A
    have e2 : y_fr h H [19613, 19615] [166, 167, 168, 169] := y_sq (y_mo e rfl rfl) f rfl rfl
    have m1 : (Int32.ofInt 1).toInt = 1 := by decide
    refine pr_digits (d := d + 164) (pr_s_fr ps f rfl rfl) (fun H2 r f2 ps2 hb hr' => ?_) (fun H2 r f2 ps2 hd2 hz hr1 hr2 hr3 => ⟨fun n e => (by cases e), ?_⟩)
    · exfalso
      rcases hb with hb | hb
      · exact hb hd
      · have := hb.1
        omega
    · exact T35 hd (y_sq e2 f2 rfl rfl) ps2 ((y_ae f2 rfl).trans A) (by rw [y_Nset (by omega), if_pos rfl]; decide)
  have T123y : ∀ {G : aH} {q k : Nat} {kd : List Int32}, y_fr h G [19613, 19615] [166, 167, 168, 169] → pr_s nd G tp t q 0 → pr_tm (y_N tp) t nd.toInt p = (true, q, k) → w_a G 166 = some (0, .inl kd) → y_N kd (2 * i + sd) = (k : Nat) → aOK s_P X (d + 167) a_m223 123 [some (.ref 155), some (.int sI), some (.int kI)] [.int (Int32.ofInt 1)] G C S K0 := by
    intro G q k kd e ps ht gk hk1
    refine w_go z_hl [] [] 40 e.1 ?_
    refine ⟨by decide, fun H hH => ?_⟩
    have f : y_fr G H [] [] := y_st (y_rf e.1) hH (by repeat (first | exact w_nil | refine w_cons (Or.inl (y_m rfl)) ?_ | refine w_cons (Or.inr (by assumption)) ?_)) (by repeat (first | exact w_nil | refine w_cons (Or.inl (y_m rfl)) ?_ | refine w_cons (Or.inr (by assumption)) ?_))
    exact yes H q k kd (y_sq e f rfl rfl) (pr_s_fr ps f rfl rfl) ht ((y_ae f rfl).trans gk) hk1
  have T123n : ∀ {G : aH} {q o' k : Nat}, y_fr h G [19613, 19615] [166, 167, 168, 169] → pr_s nd G tp t q o' → pr_tm (y_N tp) t nd.toInt p = (false, q, k) → aOK s_P X (d + 167) a_m223 123 [some (.ref 155), some (.int sI), some (.int kI)] [.int (Int32.ofInt 0)] G C S K0 := by
    intro G q o' k e ps ht
    refine w_go z_hl [] [] 40 e.1 ?_
    refine ⟨by decide, fun H hH => ?_⟩
    have f : y_fr G H [] [] := y_st (y_rf e.1) hH (by repeat (first | exact w_nil | refine w_cons (Or.inl (y_m rfl)) ?_ | refine w_cons (Or.inr (by assumption)) ?_)) (by repeat (first | exact w_nil | refine w_cons (Or.inl (y_m rfl)) ?_ | refine w_cons (Or.inr (by assumption)) ?_))
    exact no H q o' k (y_sq e f rfl rfl) (pr_s_fr ps f rfl rfl) ht
  have T107n : ∀ {G : aH} {q k : Nat} {kd : List Int32}, y_fr h G [19613, 19615] [166, 167, 168, 169] → pr_s nd G tp t q 0 → pr_tm (y_N tp) t nd.toInt p = (true, q, k) → w_a G 166 = some (0, .inl kd) → y_N kd (2 * i + sd) = (k : Nat) → aOK s_P X (d + 167) a_m223 107 [some (.ref 155), some (.int sI), some (.int kI)] [.int (Int32.ofInt 0)] G C S K0 := by
    intro G q k kd e ps ht gk hk1
    refine w_go z_hl [] [] 40 e.1 ?_
    refine ⟨fun _ => ⟨by decide, fun H hH => ?_⟩, fun q => absurd q (by decide)⟩
    have f : y_fr G H [] [] := y_st (y_rf e.1) hH (by repeat (first | exact w_nil | refine w_cons (Or.inl (y_m rfl)) ?_ | refine w_cons (Or.inr (by assumption)) ?_)) (by repeat (first | exact w_nil | refine w_cons (Or.inl (y_m rfl)) ?_ | refine w_cons (Or.inr (by assumption)) ?_))
    exact yes H q k kd (y_sq e f rfl rfl) (pr_s_fr ps f rfl rfl) ht ((y_ae f rfl).trans gk) hk1
  have T107y : ∀ {G : aH} {q : Nat}, ¬ pr_dg (y_N tp) t p → pr_E (y_N tp) t nd.toInt false p 0 = (true, q) → pr_k (y_N tp) t q = 47 → y_fr h G [19613, 19615] [166, 167, 168, 169] → pr_s nd G tp t (q + 1) 0 → aOK s_P X (d + 167) a_m223 107 [some (.ref 155), some (.int sI), some (.int kI)] [.int (Int32.ofInt 1)] G C S K0 := by
    intro G q hd hE h47 e ps
    refine w_go z_hl [] [228] 40 e.1 ?_
    refine ⟨fun q => absurd q (by decide), fun _ => ⟨b1, by decide, fun l hl len bb => fun H hH => ?_⟩⟩
    have f : y_fr G H [] [166] := y_st (y_mo (y_rf e.1) rfl rfl) hH (by repeat (first | exact w_nil | refine w_cons (Or.inl (y_m rfl)) ?_ | refine w_cons (Or.inr (by assumption)) ?_)) (by repeat (first | exact w_nil | refine w_cons (Or.inl (y_m rfl)) ?_ | refine w_cons (Or.inr (by assumption)) ?_))
    have A := hH.2.2.1 166 _ rfl
    rw [ck] at A
    have e2 : y_fr h H [19613, 19615] [166, 167, 168, 169] := y_sq e f rfl rfl
    refine pr_notes (g := 1) n0 n10 (pr_s_fr ps f rfl rfl) ((y_fe e2 rfl).trans gi) hi i11 hs hs2 (by decide) (by decide) (fun H2 r f2 ps2 hE2 => ⟨fun n e => (by cases e), ?_⟩) (fun H2 r o2 f2 ps2 hE2 => ⟨fun n e => (by cases e), ?_⟩)
    · exact T123y (y_sq e2 f2 rfl rfl) ps2 (by rw [pr_tm_0 hd, pr_gv_2 hE h47 hE2]) ((y_ae f2 rfl).trans A) (by rw [y_Nset (by omega), if_pos rfl]; decide)
    · exact T123n (y_sq e2 f2 rfl rfl) ps2 (by rw [pr_tm_0 hd, pr_gv_2 hE h47 hE2])
  have T96n : ∀ {G : aH} {q o' : Nat}, ¬ pr_dg (y_N tp) t p → pr_E (y_N tp) t nd.toInt false p 0 = (false, q) → y_fr h G [19613, 19615] [166, 167, 168, 169] → pr_s nd G tp t q o' → aOK s_P X (d + 167) a_m223 96 [some (.ref 155), some (.int sI), some (.int kI)] [.int (Int32.ofInt 0)] G C S K0 := by
    intro G q o' hd hE e ps
    refine w_go z_hl [] [] 40 e.1 ?_
    refine ⟨fun q => absurd q (by decide), fun _ => ⟨by decide, fun H hH => ?_⟩⟩
    have f : y_fr G H [] [] := y_st (y_rf e.1) hH (by repeat (first | exact w_nil | refine w_cons (Or.inl (y_m rfl)) ?_ | refine w_cons (Or.inr (by assumption)) ?_)) (by repeat (first | exact w_nil | refine w_cons (Or.inl (y_m rfl)) ?_ | refine w_cons (Or.inr (by assumption)) ?_))
    exact no H q o' 1 (y_sq e f rfl rfl) (pr_s_fr ps f rfl rfl) (by rw [pr_tm_0 hd, pr_gv_n hE])
  have T96y : ∀ {G : aH} {q : Nat} {kd : List Int32}, ¬ pr_dg (y_N tp) t p → pr_E (y_N tp) t nd.toInt false p 0 = (true, q) → y_fr h G [19613, 19615] [166, 167, 168, 169] → pr_s nd G tp t q 0 → w_a G 166 = some (0, .inl kd) → y_N kd (2 * i + sd) = 1 → aOK s_P X (d + 167) a_m223 96 [some (.ref 155), some (.int sI), some (.int kI)] [.int (Int32.ofInt 1)] G C S K0 := by
    intro G q kd hd hE e ps gk hk1
    refine w_go z_hl [] [226] 40 e.1 ?_
    refine ⟨fun _ => fun H hH => ?_, fun q => absurd q (by decide)⟩
    have f : y_fr G H [] [] := y_st (y_rf e.1) hH (by repeat (first | exact w_nil | refine w_cons (Or.inl (y_m rfl)) ?_ | refine w_cons (Or.inr (by assumption)) ?_)) (by repeat (first | exact w_nil | refine w_cons (Or.inl (y_m rfl)) ?_ | refine w_cons (Or.inr (by assumption)) ?_))
    refine pr_comes (d := d + 165) (pr_s_fr ps f rfl rfl) (by decide) (fun H2 f2 ps2 _ hc => ⟨fun n e => (by cases e), ?_⟩) (fun H2 f2 ps2 hc => ⟨fun n e => (by cases e), ?_⟩)
    · rw [c47] at hc
      exact T107y hd hE hc (y_sq (y_sq e f rfl rfl) f2 rfl rfl) ps2
    · rw [c47] at hc
      exact T107n (k := 1) (y_sq (y_sq e f rfl rfl) f2 rfl rfl) ps2 (by rw [pr_tm_0 hd, pr_gv_1 hE hc]) ((y_ae f2 rfl).trans ((y_ae f rfl).trans gk)) hk1
  have T13n : ∀ {G : aH}, ¬ pr_dg (y_N tp) t p → y_fr h G [] [] → aOK s_P X (d + 167) a_m223 13 [some (.ref 155), some (.int sI), some (.int kI)] [.int (Int32.ofInt 0)] G C S K0 := by
    intro G hd e
    have ps := pr_s_fr s e rfl rfl
    refine w_go z_hl [] [228] 40 e.1 ?_
    refine ⟨fun _ => ⟨b1, by decide, fun l hl len bb => fun H hH => ?_⟩, fun q => absurd q (by decide)⟩
    have f : y_fr G H [] [166] := y_st (y_mo (y_rf e.1) rfl rfl) hH (by repeat (first | exact w_nil | refine w_cons (Or.inl (y_m rfl)) ?_ | refine w_cons (Or.inr (by assumption)) ?_)) (by repeat (first | exact w_nil | refine w_cons (Or.inl (y_m rfl)) ?_ | refine w_cons (Or.inr (by assumption)) ?_))
    have A := hH.2.2.1 166 _ rfl
    rw [ck] at A
    have e2 : y_fr h H [19613, 19615] [166, 167, 168, 169] := y_sq (y_mo e rfl rfl) f rfl rfl
    refine pr_notes (g := 0) n0 n10 (pr_s_fr ps f rfl rfl) ((y_fe e2 rfl).trans gi) hi i11 hs hs2 (by decide) (by decide) (fun H2 q2 f2 ps2 hE => ⟨fun n e => (by cases e), ?_⟩) (fun H2 q2 o2 f2 ps2 hE => ⟨fun n e => (by cases e), ?_⟩)
    · exact T96y hd hE (y_sq e2 f2 rfl rfl) ps2 ((y_ae f2 rfl).trans A) (by rw [y_Nset (by omega), if_pos rfl]; decide)
    · exact T96n hd hE (y_sq e2 f2 rfl rfl) ps2
  refine w_go z_hl [] [224] 40 hr ?_
  intro x hx _ _
  obtain rfl := y_fi gi hx
  intro H hH
  have f : y_fr h H [] [] := y_st (y_rf hr) hH (by repeat (first | exact w_nil | refine w_cons (Or.inl (y_m rfl)) ?_ | refine w_cons (Or.inr (by assumption)) ?_)) (by repeat (first | exact w_nil | refine w_cons (Or.inl (y_m rfl)) ?_ | refine w_cons (Or.inr (by assumption)) ?_))
  refine pr_isDigit (d := d + 165) (pr_s_fr s f rfl rfl) (fun H2 e2 hp c1 => ⟨fun n e => (by cases e), ?_⟩) (fun H2 e2 hn => ⟨fun n e => (by cases e), ?_⟩)
  · have := T13y c1 (y_sq f e2 rfl rfl)
    rw [← hkI] at this
    exact this
  · have := T13n hn (y_sq f e2 rfl rfl)
    rw [← hkI] at this
    exact this
end PRU
end PT33ibf
section PT33ibg
/-! ===== v21: readsSaying of the reference ===== -/
section PRV
variable {T : Nat → Int} {t q r k k2 : Nat} {n : Int} {b : Bool}
theorem pr_sy_n (h : pr_tm T t n 0 = (false, q, k)) : pr_sy T t n = (false, q) := by
  unfold pr_sy
  rw [h]
  exact if_pos rfl
theorem pr_sy_b (h : pr_tm T t n 0 = (true, q, 1)) (hk : pr_k T t q = 126) (h2 : pr_gv T t n (q + 1) = (b, r, k2)) : pr_sy T t n = (b, r) := by
  unfold pr_sy
  rw [h]
  refine (if_neg (fun w => absurd (show true = false from w) (by decide))).trans ((if_pos ⟨hk, rfl⟩).trans ?_)
  show ((pr_gv T t n (q + 1)).1, (pr_gv T t n (q + 1)).2.1) = (b, r)
  rw [h2]
theorem pr_sy_c (h : pr_tm T t n 0 = (true, q, k)) (hk : ¬ (pr_k T t q = 126 ∧ k = 1)) (hc : pr_k T t q = 61 ∨ pr_k T t q = 60 ∨ pr_k T t q = 62) (h2 : pr_tm T t n (q + 1) = (b, r, k2)) : pr_sy T t n = (b, r) := by
  unfold pr_sy
  rw [h]
  refine (if_neg (fun w => absurd (show true = false from w) (by decide))).trans ((if_neg hk).trans ((if_pos hc).trans ?_))
  show ((pr_tm T t n (q + 1)).1, (pr_tm T t n (q + 1)).2.1) = (b, r)
  rw [h2]
theorem pr_sy_x (h : pr_tm T t n 0 = (true, q, k)) (hk : ¬ (pr_k T t q = 126 ∧ k = 1)) (hc : ¬ (pr_k T t q = 61 ∨ pr_k T t q = 60 ∨ pr_k T t q = 62)) : pr_sy T t n = (false, q) := by
  unfold pr_sy
  rw [h]
  exact (if_neg (fun w => absurd (show true = false from w) (by decide))).trans ((if_neg hk).trans (if_neg hc))
end PRV
section PRW
variable {X : aX} {C S d : Nat} {K0 : Option Value → aH → Nat → Nat → Prop} {h : aH} {tp : List Int32} {t : Nat} {nd iI : Int32} {i : Nat}
theorem pr_readsSaying (n0 : 0 ≤ nd.toInt) (n10 : nd.toInt ≤ 10) (s : pr_s nd h tp t 0 0) (gi : w_f h 19610 = some (.int iI)) (hi : iI.toInt = i) (i11 : i ≤ 11)
    (yes : ∀ (H : aH) (q : Nat), y_fr h H [19613, 19615] [165, 166, 167, 168, 169] → pr_s nd H tp t q 0 → pr_sy (y_N tp) t nd.toInt = (true, q) → K0 (some (.int (Int32.ofInt 1))) H C S)
    (no : ∀ (H : aH) (q o' : Nat), y_fr h H [19613, 19615] [165, 166, 167, 168, 169] → pr_s nd H tp t q o' → pr_sy (y_N tp) t nd.toInt = (false, q) → K0 (some (.int (Int32.ofInt 0))) H C S) :
    aOK s_P X (d + 168) a_m222 0 [some (.ref 155)] [] h C S K0 := by
  obtain ⟨hr, -, t40, -⟩ := pr_s_hr s
  have ci := y_cl1 hi
  have h2i : (Int32.ofInt 2 * iI).toInt = ((2 * i : Nat) : Int) := y_mulS (m := 2) _ (by decide) hi rfl (by omega)
  have h2i1 : (Int32.ofInt 2 * iI + Int32.ofInt 1).toInt = ((2 * i + 1 : Nat) : Int) := y_addS _ h2i (n := 1) (by decide) rfl (by omega)
  have c2 := y_cl1 h2i
  have b0 : 0 ≤ iI.toInt ∧ iI.toInt < ((13 : Nat) : Int) := by omega
  have b2 : 0 ≤ (Int32.ofInt 2 * iI).toInt ∧ (Int32.ofInt 2 * iI).toInt < ((26 : Nat) : Int) := by omega
  have b21 : 0 ≤ (Int32.ofInt 2 * iI + Int32.ofInt 1).toInt ∧ (Int32.ofInt 2 * iI + Int32.ofInt 1).toInt < ((26 : Nat) : Int) := by omega
  have c47 : ((Int8.ofInt 47).toInt32).toInt = 47 := by decide
  have c126 : ((Int8.ofInt 126).toInt32).toInt = 126 := by decide
  have c61 : ((Int8.ofInt 61).toInt32).toInt = 61 := by decide
  have c60 : ((Int8.ofInt 60).toInt32).toInt = 60 := by decide
  have c62 : ((Int8.ofInt 62).toInt32).toInt = 62 := by decide
  have Y : ∀ {G : aH} {pc q : Nat}, (pc = 99 ∨ pc = 164) → y_fr h G [19613, 19615] [165, 166, 167, 168, 169] → pr_s nd G tp t q 0 → pr_sy (y_N tp) t nd.toInt = (true, q) → aOK s_P X (d + 168) a_m222 pc [some (.ref 155)] [.int (Int32.ofInt 1)] G C S K0 := by
    intro G pc q hpc e ps ht
    rcases hpc with rfl | rfl
    · refine w_go z_hl [] [] 40 e.1 ?_
      refine ⟨by decide, fun H hH => ?_⟩
      have f : y_fr G H [] [] := y_st (y_rf e.1) hH (by repeat (first | exact w_nil | refine w_cons (Or.inl (y_m rfl)) ?_ | refine w_cons (Or.inr (by assumption)) ?_)) (by repeat (first | exact w_nil | refine w_cons (Or.inl (y_m rfl)) ?_ | refine w_cons (Or.inr (by assumption)) ?_))
      exact yes H q (y_sq e f rfl rfl) (pr_s_fr ps f rfl rfl) ht
    · refine w_go z_hl [] [] 40 e.1 ?_
      refine ⟨by decide, fun H hH => ?_⟩
      have f : y_fr G H [] [] := y_st (y_rf e.1) hH (by repeat (first | exact w_nil | refine w_cons (Or.inl (y_m rfl)) ?_ | refine w_cons (Or.inr (by assumption)) ?_)) (by repeat (first | exact w_nil | refine w_cons (Or.inl (y_m rfl)) ?_ | refine w_cons (Or.inr (by assumption)) ?_))
      exact yes H q (y_sq e f rfl rfl) (pr_s_fr ps f rfl rfl) ht
  have N : ∀ {G : aH} {pc q o' : Nat}, (pc = 99 ∨ pc = 164) → y_fr h G [19613, 19615] [165, 166, 167, 168, 169] → pr_s nd G tp t q o' → pr_sy (y_N tp) t nd.toInt = (false, q) → aOK s_P X (d + 168) a_m222 pc [some (.ref 155)] [.int (Int32.ofInt 0)] G C S K0 := by
    intro G pc q o' hpc e ps ht
    rcases hpc with rfl | rfl
    · refine w_go z_hl [] [] 40 e.1 ?_
      refine ⟨by decide, fun H hH => ?_⟩
      have f : y_fr G H [] [] := y_st (y_rf e.1) hH (by repeat (first | exact w_nil | refine w_cons (Or.inl (y_m rfl)) ?_ | refine w_cons (Or.inr (by assumption)) ?_)) (by repeat (first | exact w_nil | refine w_cons (Or.inl (y_m rfl)) ?_ | refine w_cons (Or.inr (by assumption)) ?_))
      exact no H q o' (y_sq e f rfl rfl) (pr_s_fr ps f rfl rfl) ht
    · refine w_go z_hl [] [] 40 e.1 ?_
      refine ⟨by decide, fun H hH => ?_⟩
      have f : y_fr G H [] [] := y_st (y_rf e.1) hH (by repeat (first | exact w_nil | refine w_cons (Or.inl (y_m rfl)) ?_ | refine w_cons (Or.inr (by assumption)) ?_)) (by repeat (first | exact w_nil | refine w_cons (Or.inl (y_m rfl)) ?_ | refine w_cons (Or.inr (by assumption)) ?_))
      exact no H q o' (y_sq e f rfl rfl) (pr_s_fr ps f rfl rfl) ht
  -- a sign of comparing
  have T131 : ∀ {G : aH} {q k : Nat}, y_fr h G [19613, 19615] [165, 166, 167, 168, 169] → pr_s nd G tp t q 0 → q < t → pr_tm (y_N tp) t nd.toInt 0 = (true, q, k) → ¬ (pr_k (y_N tp) t q = 126 ∧ k = 1) → (pr_k (y_N tp) t q = 61 ∨ pr_k (y_N tp) t q = 60 ∨ pr_k (y_N tp) t q = 62) → aOK s_P X (d + 168) a_m222 131 [some (.ref 155)] [] G C S K0 := by
    intro G q k e ps hq ht hk hc
    obtain ⟨toI, atI, opI, hr', a1, a2, a3, a4, a5, a6, a7, a8, pt', -, o5'⟩ := id ps
    have inc : (atI + Int32.ofInt 1).toInt = ((q + 1 : Nat) : Int) := by rw [y_inc (by omega), a5]; rfl
    refine w_go z_hl [] [223] 60 hr' ?_
    intro x hx _ _
    obtain rfl := y_fi ((y_fe e rfl).trans gi) hx
    intro y hy _ _
    obtain rfl := y_fi a4 hy
    refine ⟨⟨by omega, by omega⟩, fun l hl len bb => ?_⟩
    refine ⟨b0, y_l32 _, fun l2 hl2 len2 bb2 => ?_⟩
    refine ⟨rfl, y_zini (by show 0 ≤ (atI + Int32.ofInt 1).toInt; omega) (by show (atI + Int32.ofInt 1).toInt ≤ 40; omega), ?_⟩
    intro H hH
    have f : y_fr G H [19613] [165] := y_st (y_mo (y_rf hr') rfl rfl) hH (by repeat (first | exact w_nil | refine w_cons (Or.inl (y_m rfl)) ?_ | refine w_cons (Or.inr (by assumption)) ?_)) (by repeat (first | exact w_nil | refine w_cons (Or.inl (y_m rfl)) ?_ | refine w_cons (Or.inr (by assumption)) ?_))
    have e2 : y_fr h H [19613, 19615] [165, 166, 167, 168, 169] := y_sq e f rfl rfl
    have ps2 : pr_s nd H tp t (q + 1) 0 := ⟨toI, _, opI, f.1, (y_ae f rfl).trans a1, (y_fe f rfl).trans a2, a3, hH.2.1 19613 _ rfl, inc, (y_fe f rfl).trans a6, a7, (y_fe f rfl).trans a8, by omega, t40, o5'⟩
    refine pr_readsTerm (sd := 1) n0 n10 ps2 ((y_fe e2 rfl).trans gi) hi i11 (by decide) (by decide) (fun H2 r k2 kd2 f2 ps3 ht2 _ _ => ⟨fun n e => (by cases e), ?_⟩) (fun H2 r o2 k2 f2 ps3 ht2 => ⟨fun n e => (by cases e), ?_⟩)
    · exact Y (Or.inr rfl) (y_sq e2 f2 rfl rfl) ps3 (pr_sy_c ht hk hc ht2)
    · exact N (Or.inr rfl) (y_sq e2 f2 rfl rfl) ps3 (pr_sy_c ht hk hc ht2)
  have T126 : ∀ {G : aH} {q k : Nat} (b : Bool), y_fr h G [19613, 19615] [165, 166, 167, 168, 169] → pr_s nd G tp t q 0 → pr_tm (y_N tp) t nd.toInt 0 = (true, q, k) → ¬ (pr_k (y_N tp) t q = 126 ∧ k = 1) → (b = true → q < t ∧ pr_k (y_N tp) t q = 62) → (b = false → ¬ (pr_k (y_N tp) t q = 61 ∨ pr_k (y_N tp) t q = 60 ∨ pr_k (y_N tp) t q = 62)) → aOK s_P X (d + 168) a_m222 126 [some (.ref 155)] [.int (y_01 b)] G C S K0 := by
    intro G q k b e ps ht hk hb hn
    cases b with
    | true =>
      refine w_go z_hl [131] [] 40 e.1 ?_
      refine ⟨fun _ => fun H hH => ?_, fun z => absurd z (by decide)⟩
      have f : y_fr G H [] [] := y_st (y_rf e.1) hH (by repeat (first | exact w_nil | refine w_cons (Or.inl (y_m rfl)) ?_ | refine w_cons (Or.inr (by assumption)) ?_)) (by repeat (first | exact w_nil | refine w_cons (Or.inl (y_m rfl)) ?_ | refine w_cons (Or.inr (by assumption)) ?_))
      exact T131 (y_sq e f rfl rfl) (pr_s_fr ps f rfl rfl) (hb rfl).1 ht hk (Or.inr (Or.inr (hb rfl).2))
    | false =>
      refine w_go z_hl [131] [] 40 e.1 ?_
      refine ⟨fun z => absurd z (by decide), fun _ => ⟨by decide, fun H hH => ?_⟩⟩
      have f : y_fr G H [] [] := y_st (y_rf e.1) hH (by repeat (first | exact w_nil | refine w_cons (Or.inl (y_m rfl)) ?_ | refine w_cons (Or.inr (by assumption)) ?_)) (by repeat (first | exact w_nil | refine w_cons (Or.inl (y_m rfl)) ?_ | refine w_cons (Or.inr (by assumption)) ?_))
      exact no H q 0 (y_sq e f rfl rfl) (pr_s_fr ps f rfl rfl) (pr_sy_x ht hk (hn rfl))
  have T117 : ∀ {G : aH} {q k : Nat} (b : Bool), y_fr h G [19613, 19615] [165, 166, 167, 168, 169] → pr_s nd G tp t q 0 → pr_tm (y_N tp) t nd.toInt 0 = (true, q, k) → ¬ (pr_k (y_N tp) t q = 126 ∧ k = 1) → (b = true → q < t ∧ pr_k (y_N tp) t q = 60) → (b = false → pr_k (y_N tp) t q ≠ 61 ∧ pr_k (y_N tp) t q ≠ 60) → aOK s_P X (d + 168) a_m222 117 [some (.ref 155)] [.int (y_01 b)] G C S K0 := by
    intro G q k b e ps ht hk hb hn
    cases b with
    | true =>
      refine w_go z_hl [131] [227] 40 e.1 ?_
      refine ⟨fun _ => fun H hH => ?_, fun z => absurd z (by decide)⟩
      have f : y_fr G H [] [] := y_st (y_rf e.1) hH (by repeat (first | exact w_nil | refine w_cons (Or.inl (y_m rfl)) ?_ | refine w_cons (Or.inr (by assumption)) ?_)) (by repeat (first | exact w_nil | refine w_cons (Or.inl (y_m rfl)) ?_ | refine w_cons (Or.inr (by assumption)) ?_))
      exact T131 (y_sq e f rfl rfl) (pr_s_fr ps f rfl rfl) (hb rfl).1 ht hk (Or.inr (Or.inl (hb rfl).2))
    | false =>
      obtain ⟨m1, m2⟩ := hn rfl
      refine w_go z_hl [131] [227] 40 e.1 ?_
      refine ⟨fun z => absurd z (by decide), fun _ => fun H hH => ?_⟩
      have f : y_fr G H [] [] := y_st (y_rf e.1) hH (by repeat (first | exact w_nil | refine w_cons (Or.inl (y_m rfl)) ?_ | refine w_cons (Or.inr (by assumption)) ?_)) (by repeat (first | exact w_nil | refine w_cons (Or.inl (y_m rfl)) ?_ | refine w_cons (Or.inr (by assumption)) ?_))
      have ps2 := pr_s_fr ps f rfl rfl
      refine pr_isAt ps2 (by decide) (fun H2 e2 hp hc => ⟨fun n e => (by cases e), ?_⟩) (fun H2 e2 hne => ⟨fun n e => (by cases e), ?_⟩)
      · rw [c62] at hc
        exact T126 true (y_sq (y_sq e f rfl rfl) e2 rfl rfl) (pr_s_fr ps2 e2 rfl rfl) ht hk (fun _ => ⟨hp, hc⟩) (fun w => absurd w (by decide))
      · rw [c62] at hne
        exact T126 false (y_sq (y_sq e f rfl rfl) e2 rfl rfl) (pr_s_fr ps2 e2 rfl rfl) ht hk (fun w => absurd w (by decide)) (fun _ w => by rcases w with w | w | w; exact m1 w; exact m2 w; exact hne w)
  have T108 : ∀ {G : aH} {q k : Nat} (b : Bool), y_fr h G [19613, 19615] [165, 166, 167, 168, 169] → pr_s nd G tp t q 0 → pr_tm (y_N tp) t nd.toInt 0 = (true, q, k) → ¬ (pr_k (y_N tp) t q = 126 ∧ k = 1) → (b = true → q < t ∧ pr_k (y_N tp) t q = 61) → (b = false → pr_k (y_N tp) t q ≠ 61) → aOK s_P X (d + 168) a_m222 108 [some (.ref 155)] [.int (y_01 b)] G C S K0 := by
    intro G q k b e ps ht hk hb hn
    cases b with
    | true =>
      refine w_go z_hl [131] [227] 40 e.1 ?_
      refine ⟨fun _ => fun H hH => ?_, fun z => absurd z (by decide)⟩
      have f : y_fr G H [] [] := y_st (y_rf e.1) hH (by repeat (first | exact w_nil | refine w_cons (Or.inl (y_m rfl)) ?_ | refine w_cons (Or.inr (by assumption)) ?_)) (by repeat (first | exact w_nil | refine w_cons (Or.inl (y_m rfl)) ?_ | refine w_cons (Or.inr (by assumption)) ?_))
      exact T131 (y_sq e f rfl rfl) (pr_s_fr ps f rfl rfl) (hb rfl).1 ht hk (Or.inl (hb rfl).2)
    | false =>
      refine w_go z_hl [131] [227] 40 e.1 ?_
      refine ⟨fun z => absurd z (by decide), fun _ => fun H hH => ?_⟩
      have f : y_fr G H [] [] := y_st (y_rf e.1) hH (by repeat (first | exact w_nil | refine w_cons (Or.inl (y_m rfl)) ?_ | refine w_cons (Or.inr (by assumption)) ?_)) (by repeat (first | exact w_nil | refine w_cons (Or.inl (y_m rfl)) ?_ | refine w_cons (Or.inr (by assumption)) ?_))
      have ps2 := pr_s_fr ps f rfl rfl
      refine pr_isAt ps2 (by decide) (fun H2 e2 hp hc => ⟨fun n e => (by cases e), ?_⟩) (fun H2 e2 hne => ⟨fun n e => (by cases e), ?_⟩)
      · rw [c60] at hc
        exact T117 true (y_sq (y_sq e f rfl rfl) e2 rfl rfl) (pr_s_fr ps2 e2 rfl rfl) ht hk (fun _ => ⟨hp, hc⟩) (fun w => absurd w (by decide))
      · rw [c60] at hne
        exact T117 false (y_sq (y_sq e f rfl rfl) e2 rfl rfl) (pr_s_fr ps2 e2 rfl rfl) ht hk (fun w => absurd w (by decide)) (fun _ => ⟨hn rfl, hne⟩)
  have T102 : ∀ {G : aH} {q k : Nat}, y_fr h G [19613, 19615] [165, 166, 167, 168, 169] → pr_s nd G tp t q 0 → pr_tm (y_N tp) t nd.toInt 0 = (true, q, k) → ¬ (pr_k (y_N tp) t q = 126 ∧ k = 1) → aOK s_P X (d + 168) a_m222 102 [some (.ref 155)] [] G C S K0 := by
    intro G q k e ps ht hk
    refine w_go z_hl [131] [227] 40 e.1 ?_
    intro H hH
    have f : y_fr G H [] [] := y_st (y_rf e.1) hH (by repeat (first | exact w_nil | refine w_cons (Or.inl (y_m rfl)) ?_ | refine w_cons (Or.inr (by assumption)) ?_)) (by repeat (first | exact w_nil | refine w_cons (Or.inl (y_m rfl)) ?_ | refine w_cons (Or.inr (by assumption)) ?_))
    have ps2 := pr_s_fr ps f rfl rfl
    refine pr_isAt ps2 (by decide) (fun H2 e2 hp hc => ⟨fun n e => (by cases e), ?_⟩) (fun H2 e2 hne => ⟨fun n e => (by cases e), ?_⟩)
    · rw [c61] at hc
      exact T108 true (y_sq (y_sq e f rfl rfl) e2 rfl rfl) (pr_s_fr ps2 e2 rfl rfl) ht hk (fun _ => ⟨hp, hc⟩) (fun w => absurd w (by decide))
    · rw [c61] at hne
      exact T108 false (y_sq (y_sq e f rfl rfl) e2 rfl rfl) (pr_s_fr ps2 e2 rfl rfl) ht hk (fun w => absurd w (by decide)) (fun _ => hne)
  -- together
  have T76y : ∀ {G : aH} {q r : Nat}, y_fr h G [19613, 19615] [165, 166, 167, 168, 169] → pr_s nd G tp t (r + 1) 0 → pr_tm (y_N tp) t nd.toInt 0 = (true, q, 1) → pr_k (y_N tp) t q = 126 → pr_E (y_N tp) t nd.toInt false (q + 1) 0 = (true, r) → pr_k (y_N tp) t r = 47 → aOK s_P X (d + 168) a_m222 76 [some (.ref 155)] [.int (Int32.ofInt 1)] G C S K0 := by
    intro G q r e ps ht h126 hE h47
    refine w_go z_hl [] [228] 40 e.1 ?_
    refine ⟨fun q => absurd q (by decide), fun _ => ?_⟩
    intro x hx _ _
    obtain rfl := y_fi ((y_fe e rfl).trans gi) hx
    refine ⟨b21, by decide, fun l hl len bb => fun H hH => ?_⟩
    have f : y_fr G H [] [166] := y_st (y_mo (y_rf e.1) rfl rfl) hH (by repeat (first | exact w_nil | refine w_cons (Or.inl (y_m rfl)) ?_ | refine w_cons (Or.inr (by assumption)) ?_)) (by repeat (first | exact w_nil | refine w_cons (Or.inl (y_m rfl)) ?_ | refine w_cons (Or.inr (by assumption)) ?_))
    have e2 := y_sq e (y_mo f rfl rfl : y_fr G H [19613, 19615] [165, 166, 167, 168, 169]) rfl rfl
    refine pr_notes (d := d + 1) (sd := 1) (g := 1) n0 n10 (pr_s_fr ps f rfl rfl) ((y_fe e2 rfl).trans gi) hi i11 (by decide) (by decide) (by decide) (by decide) (fun H2 r2 f2 ps2 hE2 => ⟨fun n e => (by cases e), ?_⟩) (fun H2 r2 o2 f2 ps2 hE2 => ⟨fun n e => (by cases e), ?_⟩)
    · exact Y (Or.inl rfl) (y_sq e2 f2 rfl rfl) ps2 (pr_sy_b ht h126 (pr_gv_2 hE h47 hE2))
    · exact N (Or.inl rfl) (y_sq e2 f2 rfl rfl) ps2 (pr_sy_b ht h126 (pr_gv_2 hE h47 hE2))
  have T76n : ∀ {G : aH} {q r : Nat}, y_fr h G [19613, 19615] [165, 166, 167, 168, 169] → pr_s nd G tp t r 0 → pr_tm (y_N tp) t nd.toInt 0 = (true, q, 1) → pr_k (y_N tp) t q = 126 → pr_E (y_N tp) t nd.toInt false (q + 1) 0 = (true, r) → pr_k (y_N tp) t r ≠ 47 → aOK s_P X (d + 168) a_m222 76 [some (.ref 155)] [.int (Int32.ofInt 0)] G C S K0 := by
    intro G q r e ps ht h126 hE h47
    refine w_go z_hl [] [] 40 e.1 ?_
    refine ⟨fun _ => ⟨by decide, fun H hH => ?_⟩, fun q => absurd q (by decide)⟩
    have f : y_fr G H [] [] := y_st (y_rf e.1) hH (by repeat (first | exact w_nil | refine w_cons (Or.inl (y_m rfl)) ?_ | refine w_cons (Or.inr (by assumption)) ?_)) (by repeat (first | exact w_nil | refine w_cons (Or.inl (y_m rfl)) ?_ | refine w_cons (Or.inr (by assumption)) ?_))
    exact yes H r (y_sq e f rfl rfl) (pr_s_fr ps f rfl rfl) (pr_sy_b ht h126 (pr_gv_1 hE h47))
  have T65y : ∀ {G : aH} {q r : Nat}, y_fr h G [19613, 19615] [165, 166, 167, 168, 169] → pr_s nd G tp t r 0 → pr_tm (y_N tp) t nd.toInt 0 = (true, q, 1) → pr_k (y_N tp) t q = 126 → pr_E (y_N tp) t nd.toInt false (q + 1) 0 = (true, r) → aOK s_P X (d + 168) a_m222 65 [some (.ref 155)] [.int (Int32.ofInt 1)] G C S K0 := by
    intro G q r e ps ht h126 hE
    refine w_go z_hl [] [226] 40 e.1 ?_
    refine ⟨fun _ => fun H hH => ?_, fun q => absurd q (by decide)⟩
    have f : y_fr G H [] [] := y_st (y_rf e.1) hH (by repeat (first | exact w_nil | refine w_cons (Or.inl (y_m rfl)) ?_ | refine w_cons (Or.inr (by assumption)) ?_)) (by repeat (first | exact w_nil | refine w_cons (Or.inl (y_m rfl)) ?_ | refine w_cons (Or.inr (by assumption)) ?_))
    refine pr_comes (d := d + 166) (pr_s_fr ps f rfl rfl) (by decide) (fun H2 f2 ps2 _ hc => ⟨fun n e => (by cases e), ?_⟩) (fun H2 f2 ps2 hc => ⟨fun n e => (by cases e), ?_⟩)
    · rw [c47] at hc
      exact T76y (y_sq (y_sq e f rfl rfl) f2 rfl rfl) ps2 ht h126 hE hc
    · rw [c47] at hc
      exact T76n (y_sq (y_sq e f rfl rfl) f2 rfl rfl) ps2 ht h126 hE hc
  have T65n : ∀ {G : aH} {q r o' : Nat}, y_fr h G [19613, 19615] [165, 166, 167, 168, 169] → pr_s nd G tp t r o' → pr_tm (y_N tp) t nd.toInt 0 = (true, q, 1) → pr_k (y_N tp) t q = 126 → pr_E (y_N tp) t nd.toInt false (q + 1) 0 = (false, r) → aOK s_P X (d + 168) a_m222 65 [some (.ref 155)] [.int (Int32.ofInt 0)] G C S K0 := by
    intro G q r o' e ps ht h126 hE
    refine w_go z_hl [] [] 40 e.1 ?_
    refine ⟨fun q => absurd q (by decide), fun _ => ⟨by decide, fun H hH => ?_⟩⟩
    have f : y_fr G H [] [] := y_st (y_rf e.1) hH (by repeat (first | exact w_nil | refine w_cons (Or.inl (y_m rfl)) ?_ | refine w_cons (Or.inr (by assumption)) ?_)) (by repeat (first | exact w_nil | refine w_cons (Or.inl (y_m rfl)) ?_ | refine w_cons (Or.inr (by assumption)) ?_))
    exact no H r o' (y_sq e f rfl rfl) (pr_s_fr ps f rfl rfl) (pr_sy_b ht h126 (pr_gv_n hE))
  have T31y : ∀ {G : aH} {q : Nat}, y_fr h G [19613, 19615] [165, 166, 167, 168, 169] → pr_s nd G tp t (q + 1) 0 → pr_tm (y_N tp) t nd.toInt 0 = (true, q, 1) → pr_k (y_N tp) t q = 126 → aOK s_P X (d + 168) a_m222 31 [some (.ref 155)] [.int (Int32.ofInt 1)] G C S K0 := by
    intro G q e ps ht h126
    refine w_go z_hl [] [228] 40 e.1 ?_
    refine ⟨fun q => absurd q (by decide), fun _ => ?_⟩
    intro x hx _ _
    obtain rfl := y_fi ((y_fe e rfl).trans gi) hx
    refine ⟨b0, by decide, fun l2 hl2 len2 bb2 => ?_⟩
    refine ⟨b21, by decide, fun l hl len bb => fun H hH => ?_⟩
    have f : y_fr G H [] [165, 166] := y_st (y_mo (y_rf e.1) rfl rfl) hH (by repeat (first | exact w_nil | refine w_cons (Or.inl (y_m rfl)) ?_ | refine w_cons (Or.inr (by assumption)) ?_)) (by repeat (first | exact w_nil | refine w_cons (Or.inl (y_m rfl)) ?_ | refine w_cons (Or.inr (by assumption)) ?_))
    have e2 := y_sq e (y_mo f rfl rfl : y_fr G H [19613, 19615] [165, 166, 167, 168, 169]) rfl rfl
    refine pr_notes (d := d + 1) (sd := 1) (g := 0) n0 n10 (pr_s_fr ps f rfl rfl) ((y_fe e2 rfl).trans gi) hi i11 (by decide) (by decide) (by decide) (by decide) (fun H2 r f2 ps2 hE => ⟨fun n e => (by cases e), ?_⟩) (fun H2 r o2 f2 ps2 hE => ⟨fun n e => (by cases e), ?_⟩)
    · exact T65y (y_sq e2 f2 rfl rfl) ps2 ht h126 hE
    · exact T65n (y_sq e2 f2 rfl rfl) ps2 ht h126 hE
  have T31n : ∀ {G : aH} {q k : Nat}, y_fr h G [19613, 19615] [165, 166, 167, 168, 169] → pr_s nd G tp t q 0 → pr_tm (y_N tp) t nd.toInt 0 = (true, q, k) → pr_k (y_N tp) t q ≠ 126 → aOK s_P X (d + 168) a_m222 31 [some (.ref 155)] [.int (Int32.ofInt 0)] G C S K0 := by
    intro G q k e ps ht h126
    refine w_go z_hl [102] [] 40 e.1 ?_
    refine ⟨fun _ => fun H hH => ?_, fun q => absurd q (by decide)⟩
    have f : y_fr G H [] [] := y_st (y_rf e.1) hH (by repeat (first | exact w_nil | refine w_cons (Or.inl (y_m rfl)) ?_ | refine w_cons (Or.inr (by assumption)) ?_)) (by repeat (first | exact w_nil | refine w_cons (Or.inl (y_m rfl)) ?_ | refine w_cons (Or.inr (by assumption)) ?_))
    exact T102 (y_sq e f rfl rfl) (pr_s_fr ps f rfl rfl) ht (fun w => h126 w.1)
  have T5y : ∀ {G : aH} {q k : Nat} {kd : List Int32}, y_fr h G [19613, 19615] [165, 166, 167, 168, 169] → pr_s nd G tp t q 0 → pr_tm (y_N tp) t nd.toInt 0 = (true, q, k) → w_a G 166 = some (0, .inl kd) → y_N kd (2 * i) = (k : Nat) → aOK s_P X (d + 168) a_m222 5 [some (.ref 155)] [.int (Int32.ofInt 1)] G C S K0 := by
    intro G q k kd e ps ht gk hk
    refine w_go z_hl [102] [226] 40 e.1 ?_
    refine ⟨fun _ => ?_, fun q => absurd q (by decide)⟩
    intro x hx _ _
    obtain rfl := y_fi ((y_fe e rfl).trans gi) hx
    refine ⟨b2, fun l hl len bb => ?_⟩
    obtain rfl := y_ai gk hl
    refine ⟨fun q1 => fun H hH => ?_, fun q1 => fun H hH => ?_⟩
    · have q2 : (kd.getD (Int32.ofInt 2 * iI).toNatClampNeg 0).toInt ≠ (Int32.ofInt 1).toInt := (y_ci .ne _ _).mp q1
      rw [c2, show (Int32.ofInt 1).toInt = 1 by decide] at q2
      have q3 : y_N kd (2 * i) ≠ 1 := q2
      have f : y_fr G H [] [] := y_st (y_rf e.1) hH (by repeat (first | exact w_nil | refine w_cons (Or.inl (y_m rfl)) ?_ | refine w_cons (Or.inr (by assumption)) ?_)) (by repeat (first | exact w_nil | refine w_cons (Or.inl (y_m rfl)) ?_ | refine w_cons (Or.inr (by assumption)) ?_))
      exact T102 (y_sq e f rfl rfl) (pr_s_fr ps f rfl rfl) ht (fun w => by have := w.2; omega)
    · have q2 : ¬ ((kd.getD (Int32.ofInt 2 * iI).toNatClampNeg 0).toInt ≠ (Int32.ofInt 1).toInt) := y_cif q1
      rw [c2, show (Int32.ofInt 1).toInt = 1 by decide] at q2
      have q3 : ¬ (y_N kd (2 * i) ≠ 1) := q2
      have k1 : k = 1 := by omega
      rw [k1] at ht
      have f : y_fr G H [] [] := y_st (y_rf e.1) hH (by repeat (first | exact w_nil | refine w_cons (Or.inl (y_m rfl)) ?_ | refine w_cons (Or.inr (by assumption)) ?_)) (by repeat (first | exact w_nil | refine w_cons (Or.inl (y_m rfl)) ?_ | refine w_cons (Or.inr (by assumption)) ?_))
      refine pr_comes (d := d + 166) (pr_s_fr ps f rfl rfl) (by decide) (fun H2 f2 ps2 _ hc => ⟨fun n e => (by cases e), ?_⟩) (fun H2 f2 ps2 hc => ⟨fun n e => (by cases e), ?_⟩)
      · rw [c126] at hc
        exact T31y (y_sq (y_sq e f rfl rfl) f2 rfl rfl) ps2 ht hc
      · rw [c126] at hc
        exact T31n (y_sq (y_sq e f rfl rfl) f2 rfl rfl) ps2 ht hc
  have T5n : ∀ {G : aH} {q o' k : Nat}, y_fr h G [19613, 19615] [165, 166, 167, 168, 169] → pr_s nd G tp t q o' → pr_tm (y_N tp) t nd.toInt 0 = (false, q, k) → aOK s_P X (d + 168) a_m222 5 [some (.ref 155)] [.int (Int32.ofInt 0)] G C S K0 := by
    intro G q o' k e ps ht
    refine w_go z_hl [] [] 40 e.1 ?_
    refine ⟨fun q => absurd q (by decide), fun _ => ⟨by decide, fun H hH => ?_⟩⟩
    have f : y_fr G H [] [] := y_st (y_rf e.1) hH (by repeat (first | exact w_nil | refine w_cons (Or.inl (y_m rfl)) ?_ | refine w_cons (Or.inr (by assumption)) ?_)) (by repeat (first | exact w_nil | refine w_cons (Or.inl (y_m rfl)) ?_ | refine w_cons (Or.inr (by assumption)) ?_))
    exact no H q o' (y_sq e f rfl rfl) (pr_s_fr ps f rfl rfl) (pr_sy_n ht)
  refine w_go z_hl [] [223] 40 hr ?_
  intro H hH
  have f : y_fr h H [] [] := y_st (y_rf hr) hH (by repeat (first | exact w_nil | refine w_cons (Or.inl (y_m rfl)) ?_ | refine w_cons (Or.inr (by assumption)) ?_)) (by repeat (first | exact w_nil | refine w_cons (Or.inl (y_m rfl)) ?_ | refine w_cons (Or.inr (by assumption)) ?_))
  refine pr_readsTerm (sd := 0) n0 n10 (pr_s_fr s f rfl rfl) ((y_fe f rfl).trans gi) hi i11 (by decide) (by decide) (fun H2 q k kd f2 ps2 ht gk hk => ⟨fun n e => (by cases e), ?_⟩) (fun H2 q o2 k f2 ps2 ht => ⟨fun n e => (by cases e), ?_⟩)
  · exact T5y (y_sq (y_mo f rfl rfl : y_fr h H [19613, 19615] [165, 166, 167, 168, 169]) f2 rfl rfl) ps2 ht gk hk
  · exact T5n (y_sq (y_mo f rfl rfl : y_fr h H [19613, 19615] [165, 166, 167, 168, 169]) f2 rfl rfl) ps2 ht
end PRW
end PT33ibg
section PT33ibh
/-! ===== v21: say() of the reference ===== -/
def pr_t (len : Nat) : Nat := if 40 < len then 40 else len
def pr_wh (T : Nat → Int) (t : Nat) (n : Int) : Bool := (pr_sy T t n).1 && decide ((pr_sy T t n).2 = t)
/-- what say() answers: the sayings told so far, or where the text can't be read -/
def pr_an (T : Nat → Int) (len : Nat) (n sy : Int) : Int := if sy = 12 then -100 else if 40 < len ∧ (pr_wh T (pr_t len) n = true ∨ 40 ≤ (pr_sy T (pr_t len) n).2) then -41 else if pr_wh T (pr_t len) n = true then sy else -1 - ((pr_sy T (pr_t len) n).2 : Nat)
section PRX
variable {X : aX} {C S d : Nat} {K0 : Option Value → aH → Nat → Nat → Prop}
/-- the signs of a saying kept -/
theorem pr_copy {nI gI toI iI : Int32} {t i : Nat} (ht : toI.toInt = t) (t40 : t ≤ 40) (hi : iI.toInt = i) (i11 : i ≤ 11) : ∀ (m : Nat) (h : aH) (kI : Int32) (k : Nat), w_hr z_D h → w_f h 19614 = some (.int toI) → w_f h 19610 = some (.int iI) → kI.toInt = k → k + m = t → (∀ (H : aH) (kJ : Int32), y_fr h H [] [170] → aOK s_P X d a_m221 148 [some (.ref 155), some (.int nI), some (.int gI), some (.int kJ)] [] H C S K0) → aOK s_P X d a_m221 114 [some (.ref 155), some (.int nI), some (.int gI), some (.int kI)] [] h C S K0 := by
  intro m
  induction m with
  | zero =>
    intro h kI k hr g1 g2 hk hm hK
    refine w_go z_hl [114, 148] [] 30 hr ?_
    intro x hx _ _
    obtain rfl := y_fi g1 hx
    refine ⟨fun _ => fun H hH => hK H _ (y_st (y_mo (y_rf hr) rfl rfl) hH (by repeat (first | exact w_nil | refine w_cons (Or.inl (y_m rfl)) ?_ | refine w_cons (Or.inr (by assumption)) ?_)) (by repeat (first | exact w_nil | refine w_cons (Or.inl (y_m rfl)) ?_ | refine w_cons (Or.inr (by assumption)) ?_))), fun z => ?_⟩
    have y1 : ¬ (toI.toInt ≤ kI.toInt) := y_cif z
    exfalso
    omega
  | succ m ih =>
    intro h kI k hr g1 g2 hk hm hK
    have ink : (kI + Int32.ofInt 1).toInt = ((k + 1 : Nat) : Int) := by rw [y_inc (by omega), hk]; rfl
    have c40 : ((Int8.ofInt 40).toInt32).toInt = ((40 : Nat) : Int) := by decide
    have m1 : ((Int8.ofInt 40).toInt32 * iI).toInt = ((40 * i : Nat) : Int) := y_mulS (m := 40) _ c40 hi rfl (by omega)
    have m2 : ((Int8.ofInt 40).toInt32 * iI + kI).toInt = ((40 * i + k : Nat) : Int) := y_addS _ m1 hk rfl (by omega)
    refine w_go z_hl [114, 148] [] 60 hr ?_
    intro x hx _ _
    obtain rfl := y_fi g1 hx
    refine ⟨fun z => ?_, fun z => ?_⟩
    · have y1 : toI.toInt ≤ kI.toInt := (y_ci .ge _ _).mp z
      exfalso
      omega
    · intro w hw _ _
      obtain rfl := y_fi g2 hw
      refine ⟨⟨by omega, by omega⟩, fun l hl len bb => ?_⟩
      have vb := bb _ (z_gd (0 : Int32) (show kI.toNatClampNeg < l.length by have := y_cl1 hk; omega))
      refine ⟨⟨by show 0 ≤ ((Int8.ofInt 40).toInt32 * iI + kI).toInt; omega, by show ((Int8.ofInt 40).toInt32 * iI + kI).toInt < ((520 : Nat) : Int); omega⟩, vb, fun l2 hl2 len2 bb2 => fun H hH => ?_⟩
      have e : y_fr h H [] [170] := y_st (y_mo (y_rf hr) rfl rfl) hH (by repeat (first | exact w_nil | refine w_cons (Or.inl (y_m rfl)) ?_ | refine w_cons (Or.inr (by assumption)) ?_)) (by repeat (first | exact w_nil | refine w_cons (Or.inl (y_m rfl)) ?_ | refine w_cons (Or.inr (by assumption)) ?_))
      exact ih H _ (k + 1) e.1 ((y_fe e rfl).trans g1) ((y_fe e rfl).trans g2) ink (by omega) (fun H' kJ f => hK H' kJ (y_sq e f rfl rfl))
theorem pr_m1 {x : Int} {q : Nat} (h : x = -1 - (q : Int)) : x < 0 := by omega
theorem pr_m2 {x : Int} {q : Nat} (h : x = (q : Int)) (h1 : x < 40) (h2 : 40 ≤ q) : False := by omega
theorem pr_m3 {x : Int} {q : Nat} (h : x = (q : Int)) (h1 : ¬ x < 40) : 40 ≤ q := by omega
theorem pr_m4 {l : Int} (h : ¬ l ≤ 40) : 40 < l.toNat := by omega
theorem f_sayX {h : aH} (hr : w_hr z_D h) {len sy nd : Int32} {tp : List Int32} (g1 : w_f h 19612 = some (.int len)) (g2 : w_f h 19603 = some (.int sy)) (g3 : w_f h 19591 = some (.int nd)) (g4 : w_a h 171 = some (0, .inl tp)) (n0 : 0 ≤ nd.toInt) (n10 : nd.toInt ≤ 10)
    (hk : ∀ (r sy' : Int32) (H : aH), y_fr h H [19584, 19603, 19610, 19612, 19613, 19614, 19615] [165, 166, 167, 168, 169, 170] → r.toInt = pr_an (y_N tp) len.toInt.toNat nd.toInt sy.toInt → w_f H 19603 = some (.int sy') → sy'.toInt = (if 0 ≤ pr_an (y_N tp) len.toInt.toNat nd.toInt sy.toInt then sy.toInt + 1 else sy.toInt) → w_f H 19612 = some (.int (Int32.ofInt 0)) → K0 (some (.int r)) H C S) : aOK s_P X (d + 169) a_m221 0 [some (.ref 155), none, none, none] [] h C S K0 := by
  obtain ⟨y0, y12⟩ := y_syb hr g2
  have c40 : ((Int8.ofInt 40).toInt32).toInt = 40 := by decide
  have c12 : ((Int8.ofInt 12).toInt32).toInt = 12 := by decide
  have z0 : (0 : Int32).toInt = 0 := by decide
  -- told
  have T148 : ∀ {G : aH} {gI kJ : Int32}, y_fr h G [19584, 19610, 19612, 19613, 19614, 19615] [165, 166, 167, 168, 169, 170] → w_f G 19612 = some (.int (Int32.ofInt 0)) → sy.toInt ≤ 11 → pr_an (y_N tp) len.toInt.toNat nd.toInt sy.toInt = sy.toInt → aOK s_P X (d + 169) a_m221 148 [some (.ref 155), some (.int len), some (.int gI), some (.int kJ)] [] G C S K0 := by
    intro G gI kJ e gl s11 ea
    have hinc : (sy + Int32.ofInt 1).toInt = sy.toInt + 1 := y_inc (by omega)
    have hdec : (sy + Int32.ofInt 1 - Int32.ofInt 1).toInt = (sy + Int32.ofInt 1).toInt - 1 := y_sub1 (by omega)
    refine w_go z_hl [] [] 40 e.1 ?_
    intro x hx _ _
    obtain rfl := y_fi ((y_fe e rfl).trans g2) hx
    refine ⟨rfl, y_zini (by show 0 ≤ (sy + Int32.ofInt 1).toInt; omega) (by show (sy + Int32.ofInt 1).toInt ≤ 12; omega), ?_⟩
    intro H hH
    have f : y_fr G H [19603] [] := y_st (y_mo (y_rf e.1) rfl rfl) hH (by repeat (first | exact w_nil | refine w_cons (Or.inl (y_m rfl)) ?_ | refine w_cons (Or.inr (by assumption)) ?_)) (by repeat (first | exact w_nil | refine w_cons (Or.inl (y_m rfl)) ?_ | refine w_cons (Or.inr (by assumption)) ?_))
    exact hk _ _ H (y_sq (y_mo e rfl rfl) f rfl rfl) (by show (sy + Int32.ofInt 1 - Int32.ofInt 1).toInt = _; omega) (hH.2.1 19603 _ rfl) (by rw [ea, if_pos y0]; exact hinc) ((y_fe f rfl).trans gl)
  have out : ∀ {G : aH} {r : Int32}, y_fr h G [19584, 19610, 19612, 19613, 19614, 19615] [165, 166, 167, 168, 169] → w_f G 19612 = some (.int (Int32.ofInt 0)) → r.toInt = pr_an (y_N tp) len.toInt.toNat nd.toInt sy.toInt → r.toInt < 0 → K0 (some (.int r)) G C S := by
    intro G r e gl er r0
    exact hk r sy G (y_mo e rfl rfl) er ((y_fe e rfl).trans g2) (by rw [if_neg (by omega)]) gl
  -- behind the reading
  have T78 : ∀ {G : aH} {q o' : Nat} (b : Bool), y_fr h G [19584, 19610, 19612, 19613, 19614, 19615] [165, 166, 167, 168, 169] → w_f G 19612 = some (.int (Int32.ofInt 0)) → w_f G 19610 = some (.int sy) → pr_s nd G tp (pr_t len.toInt.toNat) q o' → 0 ≤ len.toInt → sy.toInt ≤ 11 → (pr_sy (y_N tp) (pr_t len.toInt.toNat) nd.toInt).2 = q → pr_wh (y_N tp) (pr_t len.toInt.toNat) nd.toInt = b → aOK s_P X (d + 169) a_m221 78 [some (.ref 155), some (.int len), none, none] [.int (y_01 b)] G C S K0 := by
    intro G q o' b e gl gi ps l0 s11 hq hb
    obtain ⟨toI, atI, opI, hr', b1, b2, b3, b4, b5, b6, b7, b8, pt', t40, o5'⟩ := id ps
    have hd : (Int32.ofInt (-1) - atI).toInt = -1 - (q : Nat) := by
      rw [Int32.toInt_sub, show (Int32.ofInt (-1)).toInt = -1 by decide, b5]
      exact Int.bmod_eq_of_le (by omega) (by omega)
    have ns : ¬ (sy.toInt = 12) := by omega
    have T112 : ∀ {H : aH}, y_fr G H [] [] → b = true → ¬ (40 < len.toInt.toNat) → aOK s_P X (d + 169) a_m221 112 [some (.ref 155), some (.int len), some (.int (y_01 b)), none] [] H C S K0 := by
      intro H f hb1 nl
      have ea : pr_an (y_N tp) len.toInt.toNat nd.toInt sy.toInt = sy.toInt := by
        unfold pr_an
        rw [if_neg ns, if_neg (fun w => nl w.1), if_pos (by rw [hb, hb1])]
      refine w_go z_hl [114] [] 40 f.1 ?_
      intro H2 h2
      have f2 := y_st f h2 (by repeat (first | exact w_nil | refine w_cons (Or.inl (y_m rfl)) ?_ | refine w_cons (Or.inr (by assumption)) ?_)) (by repeat (first | exact w_nil | refine w_cons (Or.inl (y_m rfl)) ?_ | refine w_cons (Or.inr (by assumption)) ?_))
      have e2 := y_sq e f2 rfl rfl
      exact pr_copy (d := d + 169) b3 t40 (show sy.toInt = (sy.toInt.toNat : Nat) by omega) (by omega) (pr_t len.toInt.toNat) H2 _ 0 f2.1 ((y_fe f2 rfl).trans b2) ((y_fe f2 rfl).trans gi) (by decide) (by omega) (fun H3 kJ f3 => T148 (y_sq (y_mo e2 rfl rfl) f3 rfl rfl) ((y_fe f3 rfl).trans ((y_fe f2 rfl).trans gl)) s11 ea)
    have T101 : ∀ {H : aH}, y_fr G H [] [] → ¬ (40 < len.toInt.toNat ∧ (b = true ∨ 40 ≤ q)) → aOK s_P X (d + 169) a_m221 101 [some (.ref 155), some (.int len), some (.int (y_01 b)), none] [] H C S K0 := by
      intro H f nc
      cases hb2 : b with
      | true =>
        rw [hb2] at T112
        refine w_go z_hl [112] [] 40 f.1 ?_
        exact ⟨fun _ => fun H2 h2 => T112 (y_st f h2 (by repeat (first | exact w_nil | refine w_cons (Or.inl (y_m rfl)) ?_ | refine w_cons (Or.inr (by assumption)) ?_)) (by repeat (first | exact w_nil | refine w_cons (Or.inl (y_m rfl)) ?_ | refine w_cons (Or.inr (by assumption)) ?_))) rfl (fun w => nc ⟨w, Or.inl hb2⟩), fun z => absurd z (by decide)⟩
      | false =>
        refine w_go z_hl [112] [] 40 f.1 ?_
        refine ⟨fun z => absurd z (by decide), fun _ => ?_⟩
        intro x hx _ _
        obtain rfl := y_fi ((y_fe f rfl).trans b4) hx
        intro H2 h2
        have f2 := y_st f h2 (by repeat (first | exact w_nil | refine w_cons (Or.inl (y_m rfl)) ?_ | refine w_cons (Or.inr (by assumption)) ?_)) (by repeat (first | exact w_nil | refine w_cons (Or.inl (y_m rfl)) ?_ | refine w_cons (Or.inr (by assumption)) ?_))
        refine out (y_sq e f2 rfl rfl) ((y_fe f2 rfl).trans gl) ?_ ?_
        · unfold pr_an
          rw [if_neg ns, hb, hq, if_neg nc, if_neg (by rw [hb2]; decide)]
          exact hd
        · exact pr_m1 hd
    have ans : 40 < len.toInt.toNat → (b = true ∨ 40 ≤ q) → pr_an (y_N tp) len.toInt.toNat nd.toInt sy.toInt = -41 := fun w1 w2 => by
      unfold pr_an
      rw [if_neg ns, hb, hq, if_pos ⟨w1, w2⟩]
    cases hb3 : b with
    | true =>
      rw [hb3] at T101
      refine w_go z_hl [101] [] 40 e.1 ?_
      refine ⟨fun z => fun H hH => ?_, fun z => ⟨fun _ => fun H hH => ?_, fun z2 => absurd z2 (by decide)⟩⟩
      · have y1 : len.toInt ≤ ((Int8.ofInt 40).toInt32).toInt := (y_ci .le _ _).mp z
        rw [c40] at y1
        exact T101 (y_st (y_rf e.1) hH (by repeat (first | exact w_nil | refine w_cons (Or.inl (y_m rfl)) ?_ | refine w_cons (Or.inr (by assumption)) ?_)) (by repeat (first | exact w_nil | refine w_cons (Or.inl (y_m rfl)) ?_ | refine w_cons (Or.inr (by assumption)) ?_))) (fun w => by have := w.1; omega)
      · have y1 : ¬ (len.toInt ≤ ((Int8.ofInt 40).toInt32).toInt) := y_cif z
        rw [c40] at y1
        have f : y_fr G H [] [] := y_st (y_rf e.1) hH (by repeat (first | exact w_nil | refine w_cons (Or.inl (y_m rfl)) ?_ | refine w_cons (Or.inr (by assumption)) ?_)) (by repeat (first | exact w_nil | refine w_cons (Or.inl (y_m rfl)) ?_ | refine w_cons (Or.inr (by assumption)) ?_))
        exact out (y_sq e f rfl rfl) ((y_fe f rfl).trans gl) (by rw [ans (by omega) (Or.inl hb3)]; decide) (by decide)
    | false =>
      rw [hb3] at T101
      refine w_go z_hl [101] [] 40 e.1 ?_
      refine ⟨fun z => fun H hH => ?_, fun z => ⟨fun z2 => absurd z2 (by decide), fun _ => ?_⟩⟩
      · have y1 : len.toInt ≤ ((Int8.ofInt 40).toInt32).toInt := (y_ci .le _ _).mp z
        rw [c40] at y1
        exact T101 (y_st (y_rf e.1) hH (by repeat (first | exact w_nil | refine w_cons (Or.inl (y_m rfl)) ?_ | refine w_cons (Or.inr (by assumption)) ?_)) (by repeat (first | exact w_nil | refine w_cons (Or.inl (y_m rfl)) ?_ | refine w_cons (Or.inr (by assumption)) ?_))) (fun w => by have := w.1; omega)
      · have y1 : ¬ (len.toInt ≤ ((Int8.ofInt 40).toInt32).toInt) := y_cif z
        rw [c40] at y1
        intro x hx _ _
        obtain rfl := y_fi b4 hx
        refine ⟨fun z2 => fun H hH => ?_, fun z2 => fun H hH => ?_⟩
        · have y2 : atI.toInt < ((Int8.ofInt 40).toInt32).toInt := (y_ci .lt _ _).mp z2
          rw [c40] at y2
          exact T101 (y_st (y_rf e.1) hH (by repeat (first | exact w_nil | refine w_cons (Or.inl (y_m rfl)) ?_ | refine w_cons (Or.inr (by assumption)) ?_)) (by repeat (first | exact w_nil | refine w_cons (Or.inl (y_m rfl)) ?_ | refine w_cons (Or.inr (by assumption)) ?_))) (fun w => by rcases w.2 with w2 | w2; exact absurd w2 (by decide); exact pr_m2 b5 y2 w2)
        · have y2 : ¬ (atI.toInt < ((Int8.ofInt 40).toInt32).toInt) := y_cif z2
          rw [c40] at y2
          have f : y_fr G H [] [] := y_st (y_rf e.1) hH (by repeat (first | exact w_nil | refine w_cons (Or.inl (y_m rfl)) ?_ | refine w_cons (Or.inr (by assumption)) ?_)) (by repeat (first | exact w_nil | refine w_cons (Or.inl (y_m rfl)) ?_ | refine w_cons (Or.inr (by assumption)) ?_))
          exact out (y_sq e f rfl rfl) ((y_fe f rfl).trans gl) (by rw [ans (pr_m4 y1) (Or.inr (pr_m3 b5 y2))]; decide) (by decide)
  have T59y : ∀ {G : aH} {q : Nat}, y_fr h G [19584, 19610, 19612, 19613, 19614, 19615] [165, 166, 167, 168, 169] → w_f G 19612 = some (.int (Int32.ofInt 0)) → w_f G 19610 = some (.int sy) → pr_s nd G tp (pr_t len.toInt.toNat) q 0 → 0 ≤ len.toInt → sy.toInt ≤ 11 → pr_sy (y_N tp) (pr_t len.toInt.toNat) nd.toInt = (true, q) → aOK s_P X (d + 169) a_m221 59 [some (.ref 155), some (.int len), none, none] [.int (Int32.ofInt 1)] G C S K0 := by
    intro G q e gl gi ps l0 s11 hs
    obtain ⟨toI, atI, opI, hr', b1, b2, b3, b4, b5, b6, b7, b8, pt', t40, o5'⟩ := id ps
    refine w_go z_hl [78] [] 40 e.1 ?_
    refine ⟨fun q => absurd q (by decide), fun _ => ?_⟩
    intro x hx _ _
    obtain rfl := y_fi b4 hx
    intro y hy _ _
    obtain rfl := y_fi b2 hy
    refine ⟨fun z => fun H hH => ?_, fun z => fun H hH => ?_⟩
    · have y1 : atI.toInt ≠ toI.toInt := (y_ci .ne _ _).mp z
      have f : y_fr G H [] [] := y_st (y_rf e.1) hH (by repeat (first | exact w_nil | refine w_cons (Or.inl (y_m rfl)) ?_ | refine w_cons (Or.inr (by assumption)) ?_)) (by repeat (first | exact w_nil | refine w_cons (Or.inl (y_m rfl)) ?_ | refine w_cons (Or.inr (by assumption)) ?_))
      refine T78 false (y_sq e f rfl rfl) ((y_fe f rfl).trans gl) ((y_fe f rfl).trans gi) (pr_s_fr ps f rfl rfl) l0 s11 (by rw [hs]) ?_
      unfold pr_wh
      rw [hs]
      show (true && decide (q = pr_t len.toInt.toNat)) = false
      rw [decide_eq_false (by omega)]
      rfl
    · have y1 : ¬ (atI.toInt ≠ toI.toInt) := y_cif z
      have f : y_fr G H [] [] := y_st (y_rf e.1) hH (by repeat (first | exact w_nil | refine w_cons (Or.inl (y_m rfl)) ?_ | refine w_cons (Or.inr (by assumption)) ?_)) (by repeat (first | exact w_nil | refine w_cons (Or.inl (y_m rfl)) ?_ | refine w_cons (Or.inr (by assumption)) ?_))
      refine T78 true (y_sq e f rfl rfl) ((y_fe f rfl).trans gl) ((y_fe f rfl).trans gi) (pr_s_fr ps f rfl rfl) l0 s11 (by rw [hs]) ?_
      unfold pr_wh
      rw [hs]
      show (true && decide (q = pr_t len.toInt.toNat)) = true
      rw [decide_eq_true (by omega)]
      rfl
  have T59n : ∀ {G : aH} {q o' : Nat}, y_fr h G [19584, 19610, 19612, 19613, 19614, 19615] [165, 166, 167, 168, 169] → w_f G 19612 = some (.int (Int32.ofInt 0)) → w_f G 19610 = some (.int sy) → pr_s nd G tp (pr_t len.toInt.toNat) q o' → 0 ≤ len.toInt → sy.toInt ≤ 11 → pr_sy (y_N tp) (pr_t len.toInt.toNat) nd.toInt = (false, q) → aOK s_P X (d + 169) a_m221 59 [some (.ref 155), some (.int len), none, none] [.int (Int32.ofInt 0)] G C S K0 := by
    intro G q o' e gl gi ps l0 s11 hs
    refine w_go z_hl [78] [] 40 e.1 ?_
    refine ⟨fun _ => fun H hH => ?_, fun q => absurd q (by decide)⟩
    have f : y_fr G H [] [] := y_st (y_rf e.1) hH (by repeat (first | exact w_nil | refine w_cons (Or.inl (y_m rfl)) ?_ | refine w_cons (Or.inr (by assumption)) ?_)) (by repeat (first | exact w_nil | refine w_cons (Or.inl (y_m rfl)) ?_ | refine w_cons (Or.inr (by assumption)) ?_))
    refine T78 false (y_sq e f rfl rfl) ((y_fe f rfl).trans gl) ((y_fe f rfl).trans gi) (pr_s_fr ps f rfl rfl) l0 s11 (by rw [hs]) ?_
    unfold pr_wh
    rw [hs]
    rfl
  have T52 : ∀ {G : aH} {mI : Int32}, y_fr h G [19584, 19610, 19612, 19613, 19615] [] → w_f G 19612 = some (.int (Int32.ofInt 0)) → w_f G 19610 = some (.int sy) → w_f G 19613 = some (.int (Int32.ofInt 0)) → w_f G 19615 = some (.int (Int32.ofInt 0)) → sy.toInt ≤ 11 → 0 ≤ len.toInt → mI.toInt = (pr_t len.toInt.toNat : Nat) → pr_t len.toInt.toNat ≤ 40 → aOK s_P X (d + 169) a_m221 52 [some (.ref 155), some (.int len), none, none] [.int mI, .ref 155] G C S K0 := by
    intro G mI e gl f1 f2 f3 s11 l0 hm m40
    refine w_go z_hl [] [222] 40 e.1 ?_
    refine ⟨rfl, y_zini (by show 0 ≤ mI.toInt; omega) (by show mI.toInt ≤ 40; omega), fun H hH => ?_⟩
    have f : y_fr G H [19614] [] := y_st (y_mo (y_rf e.1) rfl rfl) hH (by repeat (first | exact w_nil | refine w_cons (Or.inl (y_m rfl)) ?_ | refine w_cons (Or.inr (by assumption)) ?_)) (by repeat (first | exact w_nil | refine w_cons (Or.inl (y_m rfl)) ?_ | refine w_cons (Or.inr (by assumption)) ?_))
    have e2 : y_fr h H [19584, 19610, 19612, 19613, 19614, 19615] [] := y_sq (y_mo e rfl rfl) f rfl rfl
    have ps : pr_s nd H tp (pr_t len.toInt.toNat) 0 0 := ⟨mI, _, _, f.1, (y_ae e2 rfl).trans g4, hH.2.1 19614 _ rfl, hm, (y_fe f rfl).trans f2, rfl, (y_fe f rfl).trans f3, rfl, (y_fe e2 rfl).trans g3, by omega, m40, by decide⟩
    refine pr_readsSaying n0 n10 ps ((y_fe f rfl).trans f1) (show sy.toInt = (sy.toInt.toNat : Nat) by omega) (by omega) (fun H2 q f2 ps2 hs => ⟨fun n e => (by cases e), ?_⟩) (fun H2 q o' f2 ps2 hs => ⟨fun n e => (by cases e), ?_⟩)
    · exact T59y (y_sq (y_mo e2 rfl rfl) f2 rfl rfl) ((y_fe f2 rfl).trans ((y_fe f rfl).trans gl)) ((y_fe f2 rfl).trans ((y_fe f rfl).trans f1)) ps2 l0 s11 hs
    · exact T59n (y_sq (y_mo e2 rfl rfl) f2 rfl rfl) ((y_fe f2 rfl).trans ((y_fe f rfl).trans gl)) ((y_fe f2 rfl).trans ((y_fe f rfl).trans f1)) ps2 l0 s11 hs
  refine w_go z_hl [52] [] 40 hr ?_
  refine ⟨rfl, y_zini (by decide) (by decide), ?_⟩
  intro x hx x0 x60
  obtain rfl := y_fi g1 hx
  refine ⟨rfl, y_zini (by decide) (by decide), ?_⟩
  intro y hy _ _
  obtain rfl := y_fi g2 hy
  have x0' : 0 ≤ len.toInt := x0
  refine ⟨fun z => ?_, fun z => fun H hH => ?_⟩
  · have z2 : sy.toInt ≠ ((Int8.ofInt 12).toInt32).toInt := (y_ci .ne _ _).mp z
    rw [c12] at z2
    refine ⟨rfl, y_zini (by show 0 ≤ sy.toInt; omega) (by show sy.toInt ≤ 12; omega), rfl, y_zini (by decide) (by decide), rfl, y_zini (by decide) (by decide), ?_⟩
    refine ⟨fun q3 => fun H hH => ?_, fun q3 => fun H hH => ?_⟩
    · have q4 : ((Int8.ofInt 40).toInt32).toInt < len.toInt := (y_ci .gt _ _).mp q3
      rw [c40] at q4
      have et : pr_t len.toInt.toNat = 40 := if_pos (by omega)
      have e2 : y_fr h H [19584, 19610, 19612, 19613, 19615] [] := y_st (y_mo (y_rf hr) rfl rfl) hH (by repeat (first | exact w_nil | refine w_cons (Or.inl (y_m rfl)) ?_ | refine w_cons (Or.inr (by assumption)) ?_)) (by repeat (first | exact w_nil | refine w_cons (Or.inl (y_m rfl)) ?_ | refine w_cons (Or.inr (by assumption)) ?_))
      exact T52 e2 (hH.2.1 19612 _ rfl) (hH.2.1 19610 _ rfl) (hH.2.1 19613 _ rfl) (hH.2.1 19615 _ rfl) (by omega) x0' (by rw [et]; exact c40) (by omega)
    · have q4 : ¬ (((Int8.ofInt 40).toInt32).toInt < len.toInt) := y_cif q3
      rw [c40] at q4
      have et : pr_t len.toInt.toNat = len.toInt.toNat := if_neg (by omega)
      have e2 : y_fr h H [19584, 19610, 19612, 19613, 19615] [] := y_st (y_mo (y_rf hr) rfl rfl) hH (by repeat (first | exact w_nil | refine w_cons (Or.inl (y_m rfl)) ?_ | refine w_cons (Or.inr (by assumption)) ?_)) (by repeat (first | exact w_nil | refine w_cons (Or.inl (y_m rfl)) ?_ | refine w_cons (Or.inr (by assumption)) ?_))
      exact T52 e2 (hH.2.1 19612 _ rfl) (hH.2.1 19610 _ rfl) (hH.2.1 19613 _ rfl) (hH.2.1 19615 _ rfl) (by omega) x0' (by rw [et]; omega) (by omega)
  · have z2 : ¬ (sy.toInt ≠ ((Int8.ofInt 12).toInt32).toInt) := y_cif z
    rw [c12] at z2
    have e2 : y_fr h H [19584, 19612] [] := y_st (y_mo (y_rf hr) rfl rfl) hH (by repeat (first | exact w_nil | refine w_cons (Or.inl (y_m rfl)) ?_ | refine w_cons (Or.inr (by assumption)) ?_)) (by repeat (first | exact w_nil | refine w_cons (Or.inl (y_m rfl)) ?_ | refine w_cons (Or.inr (by assumption)) ?_))
    have ea : pr_an (y_N tp) len.toInt.toNat nd.toInt sy.toInt = -100 := if_pos (by omega)
    refine hk _ sy H (y_mo e2 rfl rfl) (by rw [ea]; decide) ((y_fe e2 rfl).trans g2) (by rw [ea, if_neg (by decide)]) (hH.2.1 19612 _ rfl)
end PRX
end PT33ibh
section PT33ibi
/-! ===== v21: the class's look, isDigit, parseNumber, closeBrackets ===== -/
section PCL
variable {X : aX} {C S d : Nat} {K0 : Option Value → aH → Nat → Nat → Prop}
theorem y_cald {h : aH} (hr : w_hr z_D h) {M : aM} {pc len : Nat} {k : aK} {ls : aL} {rest : List Value} {o j n : Nat} {lo hi : Int} {l : List Int32} {jI : Int32} (a1 : w_a h o = some (3, .inl l)) (hD : z_D o = some (.inl (3, n, lo, hi))) (hj : jI.toInt = j) (hn : j < n) (hl : M.2.2.2.2.2.lookup pc = some (.caload, len, k)) (hK : aOK s_P X d M (pc + len) ls (.int (l.getD j 0) :: rest) h C S K0) : aOK s_P X d M pc ls (.int jI :: .ref (o + 2) :: rest) h C S K0 := by
  obtain ⟨l', e1, e2, e3⟩ := w_arrI hr (by decide) hD
  have e4 := w_a_at e1
  rw [a1] at e4
  obtain rfl : l = l' := by
    injection e4 with e5
    injection e5 with _ e6
    injection e6
  have cj : jI.toNatClampNeg = j := y_cl1 hj
  have zn : ¬ (jI < 0) := fun w => by
    have : jI.toInt < (0 : Int32).toInt := Int32.lt_iff_toInt_lt.mp w
    have : jI.toInt < 0 := this
    omega
  have ha : a_ald 3 (.int jI :: .ref (o + 2) :: rest) h = some (.int (l.getD j 0) :: rest, h, 0, 0) := by
    unfold a_ald
    dsimp only
    rw [e1]
    dsimp only
    rw [if_pos rfl, cj, if_neg (fun w => by
      rcases w with w | w
      · exact zn w
      · omega)]
  have hh : a_hp .caload k (.int jI :: .ref (o + 2) :: rest) h = some (.int (l.getD j 0) :: rest, h, 0, 0) := ha
  exact aOK_op hl (y_ophp rfl rfl rfl hh) hK
end PCL
theorem pr_dec {x : Int32} (h : -2147483648 < x.toInt) : (x + Int32.ofInt (-1)).toInt = x.toInt - 1 := by
  have := x.toInt_lt
  rw [Int32.toInt_add, show (Int32.ofInt (-1)).toInt = -1 by decide]
  exact Int.bmod_eq_of_le (by omega) (by omega)
/-- where the class's reader stands -/
def tx_s (nd : Int32) (h : aH) (sg : List Int32) (t p : Nat) : Prop := ∃ toI atI : Int32, w_hr z_D h ∧ w_a h 13 = some (3, .inl sg) ∧ w_f h 1539 = some (.int toI) ∧ toI.toInt = t ∧ w_f h 1538 = some (.int atI) ∧ atI.toInt = p ∧ w_f h 1540 = some (.int nd) ∧ p ≤ t ∧ t ≤ 40
theorem tx_s_fr {nd : Int32} {h H : aH} {sg : List Int32} {t p : Nat} {fs as : List Nat} (s : tx_s nd h sg t p) (e : y_fr h H fs as) (h1 : [1538, 1539, 1540].all (fun x => !fs.elem x) = true) (h2 : as.elem 13 = false) : tx_s nd H sg t p := by
  obtain ⟨toI, atI, hr, a1, a2, a3, a4, a5, a6, a7⟩ := s
  have k : ∀ x, [1538, 1539, 1540].elem x = true → fs.elem x = false := fun x hx => by
    have := List.all_eq_true.mp h1 x (List.elem_iff.mp hx)
    rw [Bool.not_eq_true'] at this
    exact this
  exact ⟨toI, atI, e.1, (y_ae e h2).trans a1, (y_fe e (k _ rfl)).trans a2, a3, (y_fe e (k _ rfl)).trans a4, a5, (y_fe e (k _ rfl)).trans a6, a7⟩
theorem tx_s_hr {nd : Int32} {h : aH} {sg : List Int32} {t p : Nat} (s : tx_s nd h sg t p) : w_hr z_D h ∧ p ≤ t ∧ t ≤ 40 := by
  obtain ⟨toI, atI, hr, a1, a2, a3, a4, a5, a6, a7, a8⟩ := s
  exact ⟨hr, a7, a8⟩
/-- the reader moved on -/
theorem tx_s_at {nd : Int32} {h H : aH} {sg : List Int32} {t p q : Nat} {as : List Nat} {aJ : Int32} (s : tx_s nd h sg t p) (e : y_fr h H [1538] as) (h2 : as.elem 13 = false) (g : w_f H 1538 = some (.int aJ)) (hq : aJ.toInt = q) (qt : q ≤ t) : tx_s nd H sg t q := by
  obtain ⟨toI, atI, hr, a1, a2, a3, a4, a5, a6, a7, a8⟩ := s
  exact ⟨toI, aJ, e.1, (y_ae e h2).trans a1, (y_fe e rfl).trans a2, a3, g, hq, (y_fe e rfl).trans a6, qt, a8⟩
/-- behind as many closing brackets as are open -/
def pr_c (T : Nat → Int) (t : Nat) : Nat → Nat → Nat × Nat
  | 0, p => (p, 0)
  | o + 1, p => if pr_k T t p = 41 then pr_c T t o (p + 1) else (p, o + 1)
theorem pr_c_1 {T : Nat → Int} {t o p : Nat} (h : pr_k T t p = 41) : pr_c T t (o + 1) p = pr_c T t o (p + 1) := by
  show (if pr_k T t p = 41 then pr_c T t o (p + 1) else (p, o + 1)) = _
  exact if_pos h
theorem pr_c_0 {T : Nat → Int} {t o p : Nat} (h : pr_k T t p ≠ 41) : pr_c T t (o + 1) p = (p, o + 1) := by
  show (if pr_k T t p = 41 then pr_c T t o (p + 1) else (p, o + 1)) = _
  exact if_neg h
theorem pr_k_t {T : Nat → Int} {t p : Nat} {c : Int} (c0 : c ≠ 0) (h : pr_k T t p = c) : p < t := by
  rcases Nat.lt_or_ge p t with w | w
  · exact w
  · have e : pr_k T t p = 0 := if_neg (by omega)
    rw [e] at h
    exact absurd h.symm c0
theorem pr_c_p {T : Nat → Int} {t : Nat} {n : Int} (t40 : t ≤ 40) : ∀ (o p : Nat), p ≤ t → (pr_c T t o p).1 ≤ t ∧ p ≤ (pr_c T t o p).1 ∧ (pr_c T t o p).2 ≤ o ∧ pr_E T t n true p o = pr_E T t n true (pr_c T t o p).1 (pr_c T t o p).2 ∧ ¬ (pr_k T t (pr_c T t o p).1 = 41 ∧ 0 < (pr_c T t o p).2) := by
  intro o
  induction o with
  | zero =>
    intro p hp
    exact ⟨hp, Nat.le_refl p, Nat.le_refl 0, rfl, fun w => absurd w.2 (Nat.lt_irrefl 0)⟩
  | succ o ih =>
    intro p hp
    by_cases w : pr_k T t p = 41
    · rw [pr_c_1 w]
      have pt := pr_k_t (by decide) w
      obtain ⟨h1, h2, h3, h4, h5⟩ := ih (p + 1) (by omega)
      exact ⟨h1, by omega, by omega, by rw [pr_close (by omega) w]; exact h4, h5⟩
    · rw [pr_c_0 w]
      exact ⟨hp, Nat.le_refl p, Nat.le_refl _, rfl, fun z => w z.1⟩
theorem y_fitC {x : Int32} (b1 : 0 ≤ x.toInt) (b2 : x.toInt ≤ 65535) : a_fit .char (.int x) = true := by
  show (decide (narrow .char (.int x) = .int x) && fits .char (.int x)) = true
  have h3 : narrow .char (.int x) = .int x := by
    show Value.int (x.toUInt32.toUInt16.toUInt32.toInt32) = _
    rw [z_nar3 b1 b2]
  have h4 : fits .char (.int x) = true := by
    show ((decide (0 ≤ x)) && (decide (x ≤ 65535))) = true
    have e5 : (65535 : Int32).toInt = 65535 := rfl
    have e0 : (0 : Int32).toInt = 0 := rfl
    simp only [Bool.and_eq_true, decide_eq_true_eq, Int32.le_iff_toInt_le, e0, e5]
    exact ⟨b1, b2⟩
  rw [h4, decide_eq_true h3]
  rfl
theorem y_retC {X : aX} {C S d : Nat} {K0 : Option Value → aH → Nat → Nat → Prop} {h : aH} {M : aM} {pc len : Nat} {k : aK} {ls : aL} {c : Int32} (hl : M.2.2.2.2.2.lookup pc = some (.ireturn, len, k)) (hM : M.2.2.2.1 = some .char) (c0 : 0 ≤ c.toInt) (c1 : c.toInt ≤ 65535) (hK : K0 (some (.int c)) h C S) : aOK s_P X d M pc ls [.int c] h C S K0 := by
  refine aOK_ret (i := .ireturn) hl s_ireturn (v := some (.int c)) ?_ (fun n e => by cases e) hK
  rw [hM]
  show (if narrow .char (.int c) = .int c then some (some (Value.int c)) else none) = _
  rw [if_pos (by show Value.int (c.toUInt32.toUInt16.toUInt32.toInt32) = _; rw [z_nar3 c0 c1])]
section PCM
variable {X : aX} {C S d : Nat} {K0 : Option Value → aH → Nat → Nat → Prop} {h : aH} {sg : List Int32} {t p : Nat} {nd : Int32}
theorem c_lkT (s : tx_s nd h sg t p) (hK : ∀ (r : Int32) (H : aH), y_fr h H [] [] → r.toInt = pr_k (y_N sg) t p → K0 (some (.int r)) H C S) : aOK s_P X d a_m82 0 [some (.ref 14)] [] h C S K0 := by
  obtain ⟨toI, atI, hr, a1, a2, a3, a4, a5, a6, pt, t40⟩ := s
  obtain ⟨sg', e1, e2, e3⟩ := w_arrI hr (o := 13) (t := 3) (n := 60) (lo := 0) (hi := 65535) (by decide) rfl
  have e4 := w_a_at e1
  rw [a1] at e4
  obtain rfl : sg = sg' := by
    injection e4 with e5
    injection e5 with _ e6
    injection e6
  refine w_go z_hl [19, 24] [] 30 hr ?_
  intro x hx _ _
  obtain rfl := y_fi a4 hx
  intro y hy _ _
  obtain rfl := y_fi a2 hy
  refine ⟨fun z => fun H hH => ?_, fun z => fun H hH => ?_⟩
  · have y1 : toI.toInt ≤ atI.toInt := (y_ci .ge _ _).mp z
    refine y_retC rfl rfl (by decide) (by decide) (hK _ H (y_st (y_rf hr) hH (by repeat (first | exact w_nil | refine w_cons (Or.inl (y_m rfl)) ?_ | refine w_cons (Or.inr (by assumption)) ?_)) (by repeat (first | exact w_nil | refine w_cons (Or.inl (y_m rfl)) ?_ | refine w_cons (Or.inr (by assumption)) ?_))) ?_)
    rw [show pr_k (y_N sg) t p = 0 from if_neg (by omega)]
    decide
  · have y1 : ¬ (toI.toInt ≤ atI.toInt) := y_cif z
    have e : y_fr h H [] [] := y_st (y_rf hr) hH (by repeat (first | exact w_nil | refine w_cons (Or.inl (y_m rfl)) ?_ | refine w_cons (Or.inr (by assumption)) ?_)) (by repeat (first | exact w_nil | refine w_cons (Or.inl (y_m rfl)) ?_ | refine w_cons (Or.inr (by assumption)) ?_))
    have vb := e3 _ (z_gd (0 : Int32) (show p < sg.length by omega))
    refine y_cald (o := 13) (j := p) e.1 ((y_ae e rfl).trans a1) rfl a5 (by omega) rfl ?_
    show aOK s_P X d a_m82 20 [some (.ref 14)] [.int (sg.getD p 0)] H C S K0
    refine w_go z_hl [24] [] 20 e.1 ?_
    intro H2 h2
    refine y_retC rfl rfl vb.1 vb.2 (hK _ H2 (y_st e h2 (by repeat (first | exact w_nil | refine w_cons (Or.inl (y_m rfl)) ?_ | refine w_cons (Or.inr (by assumption)) ?_)) (by repeat (first | exact w_nil | refine w_cons (Or.inl (y_m rfl)) ?_ | refine w_cons (Or.inr (by assumption)) ?_))) ?_)
    rw [pr_k_1 (show p < t by omega)]
    rfl
theorem c_isDg (hr : w_hr z_D h) {c : Int32} (yes : ∀ (H : aH), y_fr h H [] [] → 48 ≤ c.toInt ∧ c.toInt ≤ 57 → K0 (some (.int (Int32.ofInt 1))) H C S) (no : ∀ (H : aH), y_fr h H [] [] → ¬ (48 ≤ c.toInt ∧ c.toInt ≤ 57) → K0 (some (.int (Int32.ofInt 0))) H C S) : aOK s_P X d a_m83 0 [some (.int c)] [] h C S K0 := by
  have c48 : ((Int8.ofInt 48).toInt32).toInt = 48 := by decide
  have c57 : ((Int8.ofInt 57).toInt32).toInt = 57 := by decide
  refine w_go z_hl [] [] 30 hr ?_
  refine ⟨fun z => ⟨by decide, fun H hH => no H (y_st (y_rf hr) hH (by repeat (first | exact w_nil | refine w_cons (Or.inl (y_m rfl)) ?_ | refine w_cons (Or.inr (by assumption)) ?_)) (by repeat (first | exact w_nil | refine w_cons (Or.inl (y_m rfl)) ?_ | refine w_cons (Or.inr (by assumption)) ?_))) (fun w => ?_)⟩, fun z => ⟨fun z2 => ⟨by decide, fun H hH => no H (y_st (y_rf hr) hH (by repeat (first | exact w_nil | refine w_cons (Or.inl (y_m rfl)) ?_ | refine w_cons (Or.inr (by assumption)) ?_)) (by repeat (first | exact w_nil | refine w_cons (Or.inl (y_m rfl)) ?_ | refine w_cons (Or.inr (by assumption)) ?_))) (fun w => ?_)⟩, fun z2 => ⟨by decide, fun H hH => yes H (y_st (y_rf hr) hH (by repeat (first | exact w_nil | refine w_cons (Or.inl (y_m rfl)) ?_ | refine w_cons (Or.inr (by assumption)) ?_)) (by repeat (first | exact w_nil | refine w_cons (Or.inl (y_m rfl)) ?_ | refine w_cons (Or.inr (by assumption)) ?_))) ⟨?_, ?_⟩⟩⟩⟩
  · have y1 : c.toInt < ((Int8.ofInt 48).toInt32).toInt := (y_ci .lt _ _).mp z
    rw [c48] at y1
    omega
  · have y1 : ((Int8.ofInt 57).toInt32).toInt < c.toInt := (y_ci .gt _ _).mp z2
    rw [c57] at y1
    omega
  · have y1 : ¬ (c.toInt < ((Int8.ofInt 48).toInt32).toInt) := y_cif z
    rw [c48] at y1
    omega
  · have y1 : ¬ (((Int8.ofInt 57).toInt32).toInt < c.toInt) := y_cif z2
    rw [c57] at y1
    omega
theorem c_nmT_loop : ∀ (m : Nat) (h : aH) (p : Nat) (nI iI : Int32) (k : Nat), tx_s nd h sg t p → iI.toInt = k → k + m = 8 → (∀ (r : Int32) (H : aH), y_fr h H [1538] [] → tx_s nd H sg t (pr_dq (y_N sg) t m p) → K0 (some (.int r)) H C S) → aOK s_P X (d + 1) a_m85 4 [some (.ref 14), some (.int nI), some (.int iI)] [] h C S K0 := by
  have c8 : ((Int8.ofInt 8).toInt32).toInt = 8 := by decide
  intro m
  induction m with
  | zero =>
    intro h p nI iI k s hk hm hK
    have hr := (tx_s_hr s).1
    refine w_go z_hl [4] [82, 83] 30 hr ?_
    refine ⟨fun _ => fun H hH => ?_, fun z => ?_⟩
    · have f : y_fr h H [] [] := y_st (y_rf hr) hH (by repeat (first | exact w_nil | refine w_cons (Or.inl (y_m rfl)) ?_ | refine w_cons (Or.inr (by assumption)) ?_)) (by repeat (first | exact w_nil | refine w_cons (Or.inl (y_m rfl)) ?_ | refine w_cons (Or.inr (by assumption)) ?_))
      exact hK _ H (y_mo f rfl rfl) (tx_s_fr s f rfl rfl)
    · have y1 : ¬ (((Int8.ofInt 8).toInt32).toInt ≤ iI.toInt) := y_cif z
      rw [c8] at y1
      exfalso
      omega
  | succ m ih =>
    intro h p nI iI k s hk hm hK
    obtain ⟨hr, pt, t40⟩ := tx_s_hr s
    have ink : (iI + Int32.ofInt 1).toInt = ((k + 1 : Nat) : Int) := by rw [y_inc (by omega), hk]; rfl
    have T28 : ∀ {G : aH} {r : Int32} {n2 : Int32}, y_fr h G [] [] → pr_dg (y_N sg) t p → aOK s_P X (d + 1) a_m85 28 [some (.ref 14), some (.int nI), some (.int iI)] [.int r, .int n2] G C S K0 := by
      intro G r n2 e hd
      have s2 := tx_s_fr s e rfl rfl
      obtain ⟨toI, atI, -, a1, a2, a3, a4, a5, a6, -, -⟩ := id s2
      have pt' := pr_k_t (T := y_N sg) (t := t) (p := p) (c := pr_k (y_N sg) t p) (by have := hd.1; omega) rfl
      have inc : (atI + Int32.ofInt 1).toInt = ((p + 1 : Nat) : Int) := by rw [y_inc (by omega), a5]; rfl
      refine w_go z_hl [4] [82, 83] 40 e.1 ?_
      intro x hx _ _
      obtain rfl := y_fi a4 hx
      refine ⟨rfl, y_zini (by show 0 ≤ (atI + Int32.ofInt 1).toInt; omega) (by show (atI + Int32.ofInt 1).toInt ≤ 40; omega), fun H hH => ?_⟩
      have f : y_fr G H [1538] [] := y_st (y_mo (y_rf e.1) rfl rfl) hH (by repeat (first | exact w_nil | refine w_cons (Or.inl (y_m rfl)) ?_ | refine w_cons (Or.inr (by assumption)) ?_)) (by repeat (first | exact w_nil | refine w_cons (Or.inl (y_m rfl)) ?_ | refine w_cons (Or.inr (by assumption)) ?_))
      exact ih H (p + 1) _ _ (k + 1) (tx_s_at s2 f rfl (hH.2.1 1538 _ rfl) inc (by omega)) ink (by omega) (fun r' H' f1 f2 => hK r' H' (y_sq (y_sq (y_mo e rfl rfl) f rfl rfl) f1 rfl rfl) (by rw [pr_dq_1 hd]; exact f2))
    have T17 : ∀ {G : aH} (b : Bool), y_fr h G [] [] → (b = true → pr_dg (y_N sg) t p) → (b = false → ¬ pr_dg (y_N sg) t p) → aOK s_P X (d + 1) a_m85 17 [some (.ref 14), some (.int nI), some (.int iI)] [.int (y_01 b)] G C S K0 := by
      intro G b e hy hn
      cases b with
      | true =>
        refine w_go z_hl [4] [82, 83] 30 e.1 ?_
        refine ⟨fun z => absurd z (by decide), fun _ => fun H hH => ?_⟩
        have f : y_fr h H [] [] := y_st e hH (by repeat (first | exact w_nil | refine w_cons (Or.inl (y_m rfl)) ?_ | refine w_cons (Or.inr (by assumption)) ?_)) (by repeat (first | exact w_nil | refine w_cons (Or.inl (y_m rfl)) ?_ | refine w_cons (Or.inr (by assumption)) ?_))
        refine c_lkT (tx_s_fr s f rfl rfl) (fun r H2 f2 _ => ⟨fun n e => (by cases e), ?_⟩)
        exact T28 (y_sq f f2 rfl rfl) (hy rfl)
      | false =>
        refine w_go z_hl [4] [82, 83] 30 e.1 ?_
        refine ⟨fun _ => fun H hH => ?_, fun z => absurd z (by decide)⟩
        have f : y_fr h H [] [] := y_st e hH (by repeat (first | exact w_nil | refine w_cons (Or.inl (y_m rfl)) ?_ | refine w_cons (Or.inr (by assumption)) ?_)) (by repeat (first | exact w_nil | refine w_cons (Or.inl (y_m rfl)) ?_ | refine w_cons (Or.inr (by assumption)) ?_))
        exact hK _ H (y_mo f rfl rfl) (by rw [pr_dq_0 (hn rfl)]; exact tx_s_fr s f rfl rfl)
    have T14 : ∀ {G : aH} {r : Int32}, y_fr h G [] [] → r.toInt = pr_k (y_N sg) t p → aOK s_P X (d + 1) a_m85 14 [some (.ref 14), some (.int nI), some (.int iI)] [.int r] G C S K0 := by
      intro G r e er
      refine w_go z_hl [4] [82, 83] 20 e.1 ?_
      intro H hH
      have f : y_fr h H [] [] := y_st e hH (by repeat (first | exact w_nil | refine w_cons (Or.inl (y_m rfl)) ?_ | refine w_cons (Or.inr (by assumption)) ?_)) (by repeat (first | exact w_nil | refine w_cons (Or.inl (y_m rfl)) ?_ | refine w_cons (Or.inr (by assumption)) ?_))
      refine c_isDg (c := r) f.1 (fun H2 f2 w => ⟨fun n e => (by cases e), ?_⟩) (fun H2 f2 w => ⟨fun n e => (by cases e), ?_⟩)
      · exact T17 true (y_sq f f2 rfl rfl) (fun _ => ⟨by omega, by omega⟩) (fun z => absurd z (by decide))
      · exact T17 false (y_sq f f2 rfl rfl) (fun z => absurd z (by decide)) (fun _ z => w ⟨by have := z.1; omega, by have := z.2; omega⟩)
    refine w_go z_hl [4] [82, 83] 30 hr ?_
    refine ⟨fun z => ?_, fun _ => fun H hH => ?_⟩
    · have y1 : ((Int8.ofInt 8).toInt32).toInt ≤ iI.toInt := (y_ci .ge _ _).mp z
      rw [c8] at y1
      exfalso
      omega
    · have f : y_fr h H [] [] := y_st (y_rf hr) hH (by repeat (first | exact w_nil | refine w_cons (Or.inl (y_m rfl)) ?_ | refine w_cons (Or.inr (by assumption)) ?_)) (by repeat (first | exact w_nil | refine w_cons (Or.inl (y_m rfl)) ?_ | refine w_cons (Or.inr (by assumption)) ?_))
      refine c_lkT (tx_s_fr s f rfl rfl) (fun r H2 f2 er => ⟨fun n e => (by cases e), ?_⟩)
      exact T14 (y_sq f f2 rfl rfl) er
theorem c_number (s : tx_s nd h sg t p) (hK : ∀ (r : Int32) (H : aH), y_fr h H [1538] [] → tx_s nd H sg t (pr_dq (y_N sg) t 8 p) → K0 (some (.int r)) H C S) : aOK s_P X (d + 1) a_m85 0 [some (.ref 14), none, none] [] h C S K0 := by
  have hr := (tx_s_hr s).1
  refine w_go z_hl [4] [] 20 hr ?_
  intro H hH
  have f : y_fr h H [] [] := y_st (y_rf hr) hH (by repeat (first | exact w_nil | refine w_cons (Or.inl (y_m rfl)) ?_ | refine w_cons (Or.inr (by assumption)) ?_)) (by repeat (first | exact w_nil | refine w_cons (Or.inl (y_m rfl)) ?_ | refine w_cons (Or.inr (by assumption)) ?_))
  exact c_nmT_loop (d := d) 8 H p _ _ 0 (tx_s_fr s f rfl rfl) (by decide) rfl (fun r H' f1 f2 => hK r H' (y_sq (y_mo f rfl rfl) f1 rfl rfl) f2)
theorem c_close_loop {oI : Int32} : ∀ (o : Nat) (h : aH) (p : Nat) (lI : Int32), tx_s nd h sg t p → lI.toInt = o → o ≤ 5 → (∀ (r : Int32) (H : aH), y_fr h H [1538] [] → tx_s nd H sg t (pr_c (y_N sg) t o p).1 → r.toInt = ((pr_c (y_N sg) t o p).2 : Nat) → K0 (some (.int r)) H C S) → aOK s_P X (d + 1) a_m88 2 [some (.ref 14), some (.int oI), some (.int lI)] [] h C S K0 := by
  have z0 : (0 : Int32).toInt = 0 := by decide
  have c41 : ((Int8.ofInt 41).toInt32).toInt = 41 := by decide
  intro o
  induction o with
  | zero =>
    intro h p lI s hl o5 hK
    have hr := (tx_s_hr s).1
    refine w_go z_hl [2] [82] 30 hr ?_
    refine ⟨fun _ => fun H hH => ?_, fun z => ?_⟩
    · have f : y_fr h H [] [] := y_st (y_rf hr) hH (by repeat (first | exact w_nil | refine w_cons (Or.inl (y_m rfl)) ?_ | refine w_cons (Or.inr (by assumption)) ?_)) (by repeat (first | exact w_nil | refine w_cons (Or.inl (y_m rfl)) ?_ | refine w_cons (Or.inr (by assumption)) ?_))
      exact hK _ H (y_mo f rfl rfl) (tx_s_fr s f rfl rfl) hl
    · have y1 : ¬ (lI.toInt ≤ (0 : Int32).toInt) := y_cif z
      rw [z0] at y1
      exfalso
      omega
  | succ o ih =>
    intro h p lI s hl o5 hK
    obtain ⟨hr, pt, t40⟩ := tx_s_hr s
    have dek := pr_dec (x := lI) (by omega)
    have T10 : ∀ {G : aH} {r : Int32}, y_fr h G [] [] → r.toInt = pr_k (y_N sg) t p → aOK s_P X (d + 1) a_m88 10 [some (.ref 14), some (.int oI), some (.int lI)] [.int r] G C S K0 := by
      intro G r e er
      have s2 := tx_s_fr s e rfl rfl
      obtain ⟨toI, atI, -, a1, a2, a3, a4, a5, a6, -, -⟩ := id s2
      refine w_go z_hl [2] [82] 40 e.1 ?_
      refine ⟨fun z => fun H hH => ?_, fun z => ?_⟩
      · have y1 : r.toInt ≠ ((Int8.ofInt 41).toInt32).toInt := (y_ci .ne _ _).mp z
        rw [c41, er] at y1
        have f : y_fr h H [] [] := y_st e hH (by repeat (first | exact w_nil | refine w_cons (Or.inl (y_m rfl)) ?_ | refine w_cons (Or.inr (by assumption)) ?_)) (by repeat (first | exact w_nil | refine w_cons (Or.inl (y_m rfl)) ?_ | refine w_cons (Or.inr (by assumption)) ?_))
        refine hK _ H (y_mo f rfl rfl) ?_ ?_
        · rw [pr_c_0 y1]
          exact tx_s_fr s f rfl rfl
        · rw [pr_c_0 y1]
          exact hl
      · have y1 : ¬ (r.toInt ≠ ((Int8.ofInt 41).toInt32).toInt) := y_cif z
        rw [c41, er] at y1
        have y2 : pr_k (y_N sg) t p = 41 := Decidable.not_not.mp y1
        have pt' := pr_k_t (by decide) y2
        have inc : (atI + Int32.ofInt 1).toInt = ((p + 1 : Nat) : Int) := by rw [y_inc (by omega), a5]; rfl
        intro x hx _ _
        obtain rfl := y_fi a4 hx
        refine ⟨rfl, y_zini (by show 0 ≤ (atI + Int32.ofInt 1).toInt; omega) (by show (atI + Int32.ofInt 1).toInt ≤ 40; omega), fun H hH => ?_⟩
        have f : y_fr G H [1538] [] := y_st (y_mo (y_rf e.1) rfl rfl) hH (by repeat (first | exact w_nil | refine w_cons (Or.inl (y_m rfl)) ?_ | refine w_cons (Or.inr (by assumption)) ?_)) (by repeat (first | exact w_nil | refine w_cons (Or.inl (y_m rfl)) ?_ | refine w_cons (Or.inr (by assumption)) ?_))
        exact ih H (p + 1) _ (tx_s_at s2 f rfl (hH.2.1 1538 _ rfl) inc (by omega)) (by omega) (by omega) (fun r' H' f1 f2 f3 => hK r' H' (y_sq (y_sq (y_mo e rfl rfl) f rfl rfl) f1 rfl rfl) (by rw [pr_c_1 y2]; exact f2) (by rw [pr_c_1 y2]; exact f3))
    refine w_go z_hl [2] [82] 30 hr ?_
    refine ⟨fun z => ?_, fun _ => fun H hH => ?_⟩
    · have y1 : lI.toInt ≤ (0 : Int32).toInt := (y_ci .le _ _).mp z
      rw [z0] at y1
      exfalso
      omega
    · have f : y_fr h H [] [] := y_st (y_rf hr) hH (by repeat (first | exact w_nil | refine w_cons (Or.inl (y_m rfl)) ?_ | refine w_cons (Or.inr (by assumption)) ?_)) (by repeat (first | exact w_nil | refine w_cons (Or.inl (y_m rfl)) ?_ | refine w_cons (Or.inr (by assumption)) ?_))
      refine c_lkT (tx_s_fr s f rfl rfl) (fun r H2 f2 er => ⟨fun n e => (by cases e), ?_⟩)
      exact T10 (y_sq f f2 rfl rfl) er
theorem c_closeBr (s : tx_s nd h sg t p) {oI : Int32} {o : Nat} (ho : oI.toInt = o) (o5 : o ≤ 5) (hK : ∀ (r : Int32) (H : aH), y_fr h H [1538] [] → tx_s nd H sg t (pr_c (y_N sg) t o p).1 → r.toInt = ((pr_c (y_N sg) t o p).2 : Nat) → K0 (some (.int r)) H C S) : aOK s_P X (d + 1) a_m88 0 [some (.ref 14), some (.int oI), none] [] h C S K0 := by
  have hr := (tx_s_hr s).1
  refine w_go z_hl [2] [] 20 hr ?_
  intro H hH
  have f : y_fr h H [] [] := y_st (y_rf hr) hH (by repeat (first | exact w_nil | refine w_cons (Or.inl (y_m rfl)) ?_ | refine w_cons (Or.inr (by assumption)) ?_)) (by repeat (first | exact w_nil | refine w_cons (Or.inl (y_m rfl)) ?_ | refine w_cons (Or.inr (by assumption)) ?_))
  exact c_close_loop (d := d) o H p _ (tx_s_fr s f rfl rfl) ho o5 (fun r H' f1 f2 f3 => hK r H' (y_sq (y_mo f rfl rfl) f1 rfl rfl) f2 f3)
end PCM
end PT33ibi
section PT33ibj
/-! ===== v21: what parseGiven leaves of where events begin ===== -/
def tx_f (fr fr' : List Int32) (sd k : Nat) : Prop := (k = 1 ∨ k = 2) ∧ 0 ≤ y_N fr' (2 * sd) ∧ (k = 1 → ∀ j, j ≠ 2 * sd → y_N fr' j = y_N fr j) ∧ (k = 2 → 0 ≤ y_N fr' (2 * sd + 1) ∧ ∀ j, j ≠ 2 * sd → j ≠ 2 * sd + 1 → y_N fr' j = y_N fr j)
theorem tx_f_1 {fr : List Int32} {sd : Nat} {a : Int32} (len : fr.length = 4) (ha : 0 ≤ a.toInt) (hs : sd < 2) : tx_f fr (fr.set (2 * sd) a) sd 1 := by
  refine ⟨Or.inl rfl, ?_, fun _ j hj => ?_, fun w => absurd w (by decide)⟩
  · rw [y_Nset (by omega), if_pos rfl]
    exact ha
  · rw [y_Nset (by omega), if_neg hj]
theorem tx_f_2 {fr : List Int32} {sd : Nat} {a b : Int32} (len : fr.length = 4) (ha : 0 ≤ a.toInt) (hb : 0 ≤ b.toInt) (hs : sd < 2) : tx_f fr ((fr.set (2 * sd) a).set (2 * sd + 1) b) sd 2 := by
  have l2 : (fr.set (2 * sd) a).length = 4 := by rw [List.length_set]; exact len
  refine ⟨Or.inr rfl, ?_, fun w => absurd w (by decide), fun _ => ⟨?_, fun j h1 h2 => ?_⟩⟩
  · rw [y_Nset (by omega), if_neg (by omega), y_Nset (by omega), if_pos rfl]
    exact ha
  · rw [y_Nset (by omega), if_pos rfl]
    exact hb
  · rw [y_Nset (by omega), if_neg h2, y_Nset (by omega), if_neg h1]
end PT33ibj
section PT33ibk
/-! ===== v21: arraycopy of signs in walks ===== -/
section PCY
variable {X : aX} {C S d : Nat} {K0 : Option Value → aH → Nat → Nat → Prop}
theorem y_copy3 {h : aH} (hr : w_hr z_D h) {M : aM} {pc len q : Nat} {k : aK} {ls : aL} {rest : List Value} {o dd : Nat} {nI : Int32} {m n1 n2 : Nat} (hn : nI.toInt = m) (hD1 : z_D o = some (.inl (3, n1, 0, 65535))) (hD2 : z_D dd = some (.inl (3, n2, 0, 65535))) (m1 : m ≤ n1) (m2 : m ≤ n2) (hl : M.2.2.2.2.2.lookup pc = some (.invokestatic q, len, k)) (hk : k.1 = 10) (hw : a_wd rest ≤ 8)
    (hK : ∀ H, y_fr h H [] [dd] → aOK s_P X d M (pc + len) ls rest H C S K0) : aOK s_P X d M pc ls (.int nI :: .int (Int32.ofInt 0) :: .ref (dd + 2) :: .int (Int32.ofInt 0) :: .ref (o + 2) :: rest) h C S K0 := by
  obtain ⟨f, e1, e2, e3⟩ := w_arrI hr (by decide) hD1
  obtain ⟨g, e4, e5, e6⟩ := w_arrI hr (by decide) hD2
  have cn : nI.toNatClampNeg = m := y_cl1 hn
  have c0 : (Int32.ofInt 0).toNatClampNeg = 0 := by decide
  have z0 : ¬ (Int32.ofInt 0 < 0) := by decide
  have zn : ¬ (nI < 0) := fun w => by
    have : nI.toInt < (0 : Int32).toInt := Int32.lt_iff_toInt_lt.mp w
    have : nI.toInt < 0 := this
    omega
  have hfit : (3 : Nat) = 0 ∨ (List.range m).all (fun i => fits .char (.int (f.getD (0 + i) 0))) = true := by
    refine Or.inr (List.all_eq_true.mpr (fun i hi' => ?_))
    have hlt := List.mem_range.mp hi'
    have hm := e3 _ (z_gd (0 : Int32) (show 0 + i < f.length by omega))
    show ((decide (0 ≤ f.getD (0 + i) 0)) && (decide (f.getD (0 + i) 0 ≤ 65535))) = true
    have e5 : (65535 : Int32).toInt = 65535 := rfl
    have e0 : (0 : Int32).toInt = 0 := rfl
    simp only [Bool.and_eq_true, decide_eq_true_eq, Int32.le_iff_toInt_le, e0, e5]
    omega
  have hcp : a_copy (.int nI :: .int (Int32.ofInt 0) :: .ref (dd + 2) :: .int (Int32.ofInt 0) :: .ref (o + 2) :: rest) h = some (rest, h.set dd (.inl (3, .inl (a_cpy f g 0 0 m))), 0, 0) := by
    unfold a_copy
    dsimp only
    rw [e1, e4]
    dsimp only
    rw [if_pos ⟨rfl, Or.inr rfl⟩, cn, c0, if_neg (fun w => by
      rcases w with w | w | w | w | w
      · exact z0 w
      · exact z0 w
      · exact zn w
      · omega
      · omega), if_pos hfit]
  have hh : a_hp (.invokestatic q) k (.int nI :: .int (Int32.ofInt 0) :: .ref (dd + 2) :: .int (Int32.ofInt 0) :: .ref (o + 2) :: rest) h = some (rest, h.set dd (.inl (3, .inl (a_cpy f g 0 0 m))), 0, 0) := by
    show (if k.1 = 10 then (if a_wd rest ≤ 8 then _ else none) else none) = _
    rw [if_pos hk, if_pos hw]
    exact hcp
  refine aOK_op hl (y_ophp rfl rfl rfl hh) ?_
  have r0 : w_rel z_D h [] [] h := ⟨hr, fun _ _ q => (by cases q), fun _ _ q => (by cases q), fun _ _ => rfl, fun _ _ => rfl⟩
  have r1 := w_rel_arr r0 hD2 e4 (b := (3, .inl (a_cpy f g 0 0 m))) ⟨by decide, _, rfl, by rw [y_cpy_len]; exact e5, fun x hx => by
    unfold a_cpy at hx
    obtain ⟨j, hj, rfl⟩ := List.mem_map.mp hx
    have hj' := List.mem_range.mp hj
    split
    · rename_i w
      exact e3 _ (z_gd (0 : Int32) (show 0 + (j - 0) < f.length by omega))
    · exact e6 _ (z_gd (0 : Int32) hj')⟩
  exact hK _ (y_fr_rel r1 w_nil (w_cons (Or.inl (List.mem_singleton.mpr rfl)) w_nil))
end PCY
end PT33ibk
section PT33ibl
/-! ===== v21: what parse() answers ===== -/
/-- NONE, or the place of the sign that can't stand there -/
def pr_wr (T : Nat → Int) (len : Nat) (n : Int) : Int := if pr_wh T (pr_t len) n = true then (if 40 < len then 40 else -1) else (pr_sy T (pr_t len) n).2
theorem pr_t_le {len : Nat} : pr_t len ≤ 40 ∧ pr_t len ≤ len := by
  unfold pr_t
  split
  · omega
  · omega
/-- both answers by one -/
theorem pr_an_wr {T : Nat → Int} {len : Nat} {n sy : Int} (ns : sy ≠ 12) (qt : (pr_sy T (pr_t len) n).2 ≤ pr_t len) : pr_an T len n sy = if pr_wr T len n = -1 then sy else -1 - pr_wr T len n := by
  have tl := pr_t_le (len := len)
  unfold pr_an pr_wr
  rw [if_neg ns]
  by_cases w : pr_wh T (pr_t len) n = true
  · rw [if_pos w, if_pos w]
    by_cases l : 40 < len
    · rw [if_pos ⟨l, Or.inl w⟩, if_pos l, if_neg (by decide)]
      decide
    · rw [if_neg (fun z => l z.1), if_neg l, if_pos rfl]
  · have h : ¬ (((pr_sy T (pr_t len) n).2 : Int) = -1) := by omega
    by_cases l : 40 < len ∧ (pr_wh T (pr_t len) n = true ∨ 40 ≤ (pr_sy T (pr_t len) n).2)
    · rw [if_pos l, if_neg w, if_neg h]
      rcases l.2 with z | z
      · exact absurd z w
      · omega
    · rw [if_neg l, if_neg w, if_neg w, if_neg h]
end PT33ibl
section PT33ibm
/-! ===== v21: parseEvent of the class with saying 0 (laid by wip/tools/mk21c.py) ===== -/
section PEV0
variable {X : aX} {C S d : Nat} {K0 : Option Value → aH → Nat → Nat → Prop} {sg : List Int32} {t : Nat} {nd : Int32}
theorem c_evl0 (n0 : 0 ≤ nd.toInt) (n10 : nd.toInt ≤ 10) {pI : Int32} {pa : Nat} (hpa : pI.toInt = pa) (pa4 : pa < 4) : ∀ (m : Nat) (h : aH) (p : Nat) (oI : Int32) (o : Nat) (o4 : Option Value), tx_s nd h sg t p → oI.toInt = o → o ≤ 5 → t - p ≤ m → (∀ (b : Bool) (q : Nat) (H : aH), y_fr h H [1538] [18, 19] → tx_s nd H sg t q → pr_E (y_N sg) t nd.toInt false p o = (b, q) → K0 (some (.int (y_01 b))) H C S) → aOK s_P X (d + 2) a_m87 12 [some (.ref 14), some (.ref 17), some (.int pI), some (.int oI), o4] [] h C S K0 := by
  have c33 : ((Int8.ofInt 33).toInt32).toInt = 33 := by decide
  have c38 : ((Int8.ofInt 38).toInt32).toInt = 38 := by decide
  have c40 : ((Int8.ofInt 40).toInt32).toInt = 40 := by decide
  have c97 : ((Int8.ofInt 97).toInt32).toInt = 97 := by decide
  have c124 : ((Int8.ofInt 124).toInt32).toInt = 124 := by decide
  have c5 : (Int32.ofInt 5).toInt = 5 := by decide
  have z0 : (0 : Int32).toInt = 0 := by decide
  have cn : ((Int8.ofInt 97).toInt32 + nd).toInt = 97 + nd.toInt := by
    rw [Int32.toInt_add, c97]
    exact Int.bmod_eq_of_le (by omega) (by omega)
  intro m
  induction m with
  | zero =>
    intro h p oI o o4 s ho o5 hm hK
    obtain ⟨toI, atI, hr, a1, a2, a3, a4, a5, a6, pt, t40⟩ := id s
    refine w_go z_hl [12] [82] 30 hr ?_
    intro x hx _ _
    obtain rfl := y_fi a4 hx
    intro y hy _ _
    obtain rfl := y_fi a2 hy
    refine ⟨fun _ => ⟨by decide, fun H hH => ?_⟩, fun z => ?_⟩
    · have f : y_fr h H [] [] := y_st (y_rf hr) hH (by repeat (first | exact w_nil | refine w_cons (Or.inl (y_m rfl)) ?_ | refine w_cons (Or.inr (by assumption)) ?_)) (by repeat (first | exact w_nil | refine w_cons (Or.inl (y_m rfl)) ?_ | refine w_cons (Or.inr (by assumption)) ?_))
      have k0 : pr_k (y_N sg) t p = 0 := if_neg (by omega)
      exact hK false p H (y_mo f rfl rfl) (tx_s_fr s f rfl rfl) (pr_bad (by omega) (by omega) (fun w => by have := w.1; omega) (fun w => by have := w.1; omega))
    · have y1 : ¬ (toI.toInt ≤ atI.toInt) := y_cif z
      exfalso
      omega
  | succ m ih =>
    intro h p oI o o4 s ho o5 hm hK
    obtain ⟨toI, atI, hr, a1, a2, a3, a4, a5, a6, pt, t40⟩ := id s
    -- on to the next sign
    have T189 : ∀ {G : aH} {oJ : Int32} {q o' : Nat} {p4 : Option Value}, y_fr h G [1538] [18, 19] → tx_s nd G sg t q → p < q → q < t → oJ.toInt = o' → o' ≤ 5 → pr_E (y_N sg) t nd.toInt false p o = pr_E (y_N sg) t nd.toInt false (q + 1) o' → aOK s_P X (d + 2) a_m87 189 [some (.ref 14), some (.ref 17), some (.int pI), some (.int oJ), p4] [] G C S K0 := by
      intro G oJ q o' p4 e s2 pq qt hoJ o5' hE
      obtain ⟨toJ, atJ, -, b1, b2, b3, b4, b5, b6, -, -⟩ := id s2
      have inc : (atJ + Int32.ofInt 1).toInt = ((q + 1 : Nat) : Int) := by rw [y_inc (by omega), b5]; rfl
      refine w_go z_hl [12] [82] 30 e.1 ?_
      intro x hx _ _
      obtain rfl := y_fi b4 hx
      refine ⟨rfl, y_zini (by show 0 ≤ (atJ + Int32.ofInt 1).toInt; omega) (by show (atJ + Int32.ofInt 1).toInt ≤ 40; omega), fun H hH => ?_⟩
      have f : y_fr G H [1538] [] := y_st (y_mo (y_rf e.1) rfl rfl) hH (by repeat (first | exact w_nil | refine w_cons (Or.inl (y_m rfl)) ?_ | refine w_cons (Or.inr (by assumption)) ?_)) (by repeat (first | exact w_nil | refine w_cons (Or.inl (y_m rfl)) ?_ | refine w_cons (Or.inr (by assumption)) ?_))
      exact ih H (q + 1) _ o' _ (tx_s_at s2 f rfl (hH.2.1 1538 _ rfl) inc (by omega)) hoJ o5' (by omega) (fun b r H' f1 f2 f3 => hK b r H' (y_sq (y_sq e f rfl rfl) f1 rfl rfl) f2 (hE.trans f3))
    have T143 : ∀ {G : aH} {oJ cI : Int32} {q o' : Nat}, y_fr h G [1538] [18, 19] → tx_s nd G sg t q → p < q → q < t → oJ.toInt = o' → o' ≤ 5 → pr_E (y_N sg) t nd.toInt false p o = pr_E (y_N sg) t nd.toInt false (q + 1) o' → aOK s_P X (d + 2) a_m87 143 [some (.ref 14), some (.ref 17), some (.int pI), some (.int oJ), some (.int cI)] [] G C S K0 := by
      intro G oJ cI q o' e s2 pq qt hoJ o5' hE
      have f0 : y_fr G G [] [] := y_rf e.1
      have T168 : ∀ {G2 : aH}, y_fr G G2 [] [18] → aOK s_P X (d + 2) a_m87 168 [some (.ref 14), some (.ref 17), some (.int pI), some (.int oJ), some (.int cI)] [] G2 C S K0 := by
        intro G2 f
        refine w_go z_hl [189] [82] 40 f.1 ?_
        refine ⟨⟨by omega, by omega⟩, fun l hl len bb => ⟨fun _ => ⟨⟨by omega, by omega⟩, y_l32 _, fun H hH => ?_⟩, fun _ => ⟨⟨by omega, by omega⟩, y_l32 _, fun H hH => ?_⟩⟩⟩
        · have f2 : y_fr G H [] [18, 19] := y_st (y_mo f rfl rfl) hH (by repeat (first | exact w_nil | refine w_cons (Or.inl (y_m rfl)) ?_ | refine w_cons (Or.inr (by assumption)) ?_)) (by repeat (first | exact w_nil | refine w_cons (Or.inl (y_m rfl)) ?_ | refine w_cons (Or.inr (by assumption)) ?_))
          exact T189 (y_sq e (y_mo f2 rfl rfl : y_fr G H [1538] [18, 19]) rfl rfl) (tx_s_fr s2 f2 rfl rfl) pq qt hoJ o5' hE
        · have f2 : y_fr G H [] [18, 19] := y_st (y_mo f rfl rfl) hH (by repeat (first | exact w_nil | refine w_cons (Or.inl (y_m rfl)) ?_ | refine w_cons (Or.inr (by assumption)) ?_)) (by repeat (first | exact w_nil | refine w_cons (Or.inl (y_m rfl)) ?_ | refine w_cons (Or.inr (by assumption)) ?_))
          exact T189 (y_sq e (y_mo f2 rfl rfl : y_fr G H [1538] [18, 19]) rfl rfl) (tx_s_fr s2 f2 rfl rfl) pq qt hoJ o5' hE
      refine w_go z_hl [168, 189] [82] 40 e.1 ?_
      refine ⟨fun _ => fun H hH => ?_, fun _ => ⟨⟨by omega, by omega⟩, fun l hl len bb => ⟨fun _ => ⟨⟨by omega, by omega⟩, y_l32 _, fun H hH => ?_⟩, fun _ => ⟨⟨by omega, by omega⟩, y_l32 _, fun H hH => ?_⟩⟩⟩⟩
      · have f2 : y_fr G H [] [] := y_st f0 hH (by repeat (first | exact w_nil | refine w_cons (Or.inl (y_m rfl)) ?_ | refine w_cons (Or.inr (by assumption)) ?_)) (by repeat (first | exact w_nil | refine w_cons (Or.inl (y_m rfl)) ?_ | refine w_cons (Or.inr (by assumption)) ?_))
        exact T189 (y_sq e f2 rfl rfl) (tx_s_fr s2 f2 rfl rfl) pq qt hoJ o5' hE
      · exact T168 (y_st (y_mo f0 rfl rfl) hH (by repeat (first | exact w_nil | refine w_cons (Or.inl (y_m rfl)) ?_ | refine w_cons (Or.inr (by assumption)) ?_)) (by repeat (first | exact w_nil | refine w_cons (Or.inl (y_m rfl)) ?_ | refine w_cons (Or.inr (by assumption)) ?_)))
      · exact T168 (y_st (y_mo f0 rfl rfl) hH (by repeat (first | exact w_nil | refine w_cons (Or.inl (y_m rfl)) ?_ | refine w_cons (Or.inr (by assumption)) ?_)) (by repeat (first | exact w_nil | refine w_cons (Or.inl (y_m rfl)) ?_ | refine w_cons (Or.inr (by assumption)) ?_)))
    have T117 : ∀ {G : aH} {oJ cI : Int32} {q o' : Nat} {p4 : Option Value}, y_fr h G [1538] [] → tx_s nd G sg t q → p < q → oJ.toInt = o' → o' ≤ 5 → cI.toInt = pr_k (y_N sg) t q → pr_E (y_N sg) t nd.toInt false p o = pr_E (y_N sg) t nd.toInt true q o' → ¬ (pr_k (y_N sg) t q = 41 ∧ 0 < o') → aOK s_P X (d + 2) a_m87 117 [some (.ref 14), some (.ref 17), some (.int pI), some (.int oJ), p4] [.int cI] G C S K0 := by
      intro G oJ cI q o' p4 e s2 pq hoJ o5' hc hE h41
      have q40 := (tx_s_hr s2).2.1
      have f0 : y_fr G G [] [] := y_rf e.1
      refine w_go z_hl [143] [82] 40 e.1 ?_
      refine ⟨fun z => fun H hH => ?_, fun z => ⟨fun z2 => fun H hH => ?_, fun z2 => ⟨fun z3 => ⟨by decide, fun H hH => ?_⟩, fun z3 => ⟨by decide, fun H hH => ?_⟩⟩⟩⟩
      · have y1 : cI.toInt = ((Int8.ofInt 38).toInt32).toInt := (y_ci .eq _ _).mp z
        rw [c38, hc] at y1
        have f2 : y_fr G H [] [] := y_st f0 hH (by repeat (first | exact w_nil | refine w_cons (Or.inl (y_m rfl)) ?_ | refine w_cons (Or.inr (by assumption)) ?_)) (by repeat (first | exact w_nil | refine w_cons (Or.inl (y_m rfl)) ?_ | refine w_cons (Or.inr (by assumption)) ?_))
        exact T143 (y_mo (y_sq e f2 rfl rfl) rfl rfl) (tx_s_fr s2 f2 rfl rfl) pq (pr_k_t (by decide) y1) hoJ o5' (hE.trans (pr_op (by omega) (Or.inl y1)))
      · have y1 : cI.toInt = ((Int8.ofInt 124).toInt32).toInt := (y_ci .eq _ _).mp z2
        rw [c124, hc] at y1
        have f2 : y_fr G H [] [] := y_st f0 hH (by repeat (first | exact w_nil | refine w_cons (Or.inl (y_m rfl)) ?_ | refine w_cons (Or.inr (by assumption)) ?_)) (by repeat (first | exact w_nil | refine w_cons (Or.inl (y_m rfl)) ?_ | refine w_cons (Or.inr (by assumption)) ?_))
        exact T143 (y_mo (y_sq e f2 rfl rfl) rfl rfl) (tx_s_fr s2 f2 rfl rfl) pq (pr_k_t (by decide) y1) hoJ o5' (hE.trans (pr_op (by omega) (Or.inr y1)))
      · have y1 : ¬ (cI.toInt = ((Int8.ofInt 38).toInt32).toInt) := y_cif z
        have y2 : ¬ (cI.toInt = ((Int8.ofInt 124).toInt32).toInt) := y_cif z2
        have y3 : oJ.toInt ≠ (0 : Int32).toInt := (y_ci .ne _ _).mp z3
        rw [c38, hc] at y1
        rw [c124, hc] at y2
        rw [z0] at y3
        have f2 : y_fr G H [] [] := y_st f0 hH (by repeat (first | exact w_nil | refine w_cons (Or.inl (y_m rfl)) ?_ | refine w_cons (Or.inr (by assumption)) ?_)) (by repeat (first | exact w_nil | refine w_cons (Or.inl (y_m rfl)) ?_ | refine w_cons (Or.inr (by assumption)) ?_))
        refine hK false q H (y_mo (y_sq e f2 rfl rfl) rfl rfl) (tx_s_fr s2 f2 rfl rfl) (hE.trans ?_)
        rw [pr_end (by omega) h41 y1 y2, decide_eq_false (by omega)]
      · have y1 : ¬ (cI.toInt = ((Int8.ofInt 38).toInt32).toInt) := y_cif z
        have y2 : ¬ (cI.toInt = ((Int8.ofInt 124).toInt32).toInt) := y_cif z2
        have y3 : ¬ (oJ.toInt ≠ (0 : Int32).toInt) := y_cif z3
        rw [c38, hc] at y1
        rw [c124, hc] at y2
        rw [z0] at y3
        have f2 : y_fr G H [] [] := y_st f0 hH (by repeat (first | exact w_nil | refine w_cons (Or.inl (y_m rfl)) ?_ | refine w_cons (Or.inr (by assumption)) ?_)) (by repeat (first | exact w_nil | refine w_cons (Or.inl (y_m rfl)) ?_ | refine w_cons (Or.inr (by assumption)) ?_))
        refine hK true q H (y_mo (y_sq e f2 rfl rfl) rfl rfl) (tx_s_fr s2 f2 rfl rfl) (hE.trans ?_)
        rw [pr_end (by omega) h41 y1 y2, decide_eq_true (by omega)]
    have T112 : ∀ {G : aH} {oJ : Int32} {q o' : Nat} {p3 p4 : Option Value}, y_fr h G [1538] [] → tx_s nd G sg t q → p < q → oJ.toInt = o' → o' ≤ 5 → pr_E (y_N sg) t nd.toInt false p o = pr_E (y_N sg) t nd.toInt true q o' → ¬ (pr_k (y_N sg) t q = 41 ∧ 0 < o') → aOK s_P X (d + 2) a_m87 112 [some (.ref 14), some (.ref 17), some (.int pI), p3, p4] [.int oJ] G C S K0 := by
      intro G oJ q o' p3 p4 e s2 pq hoJ o5' hE h41
      refine w_go z_hl [143] [82] 20 e.1 ?_
      intro H hH
      have f2 : y_fr G H [] [] := y_st (y_rf e.1) hH (by repeat (first | exact w_nil | refine w_cons (Or.inl (y_m rfl)) ?_ | refine w_cons (Or.inr (by assumption)) ?_)) (by repeat (first | exact w_nil | refine w_cons (Or.inl (y_m rfl)) ?_ | refine w_cons (Or.inr (by assumption)) ?_))
      refine c_lkT (tx_s_fr s2 f2 rfl rfl) (fun r H2 f3 er => ⟨fun n e => (by cases e), ?_⟩)
      exact T117 (y_sq (y_sq e f2 rfl rfl) f3 rfl rfl) (tx_s_fr (tx_s_fr s2 f2 rfl rfl) f3 rfl rfl) pq hoJ o5' er hE h41
    have T97 : ∀ {G : aH} {cI : Int32}, y_fr h G [] [] → p < t → 97 ≤ pr_k (y_N sg) t p → pr_k (y_N sg) t p < 97 + nd.toInt → aOK s_P X (d + 2) a_m87 97 [some (.ref 14), some (.ref 17), some (.int pI), some (.int oI), some (.int cI)] [] G C S K0 := by
      intro G cI e ptt h97 h98
      have s2 := tx_s_fr s e rfl rfl
      have inc : (atI + Int32.ofInt 1).toInt = ((p + 1 : Nat) : Int) := by rw [y_inc (by omega), a5]; rfl
      refine w_go z_hl [12] [88] 30 e.1 ?_
      intro x hx _ _
      obtain rfl := y_fi ((y_fe e rfl).trans a4) hx
      refine ⟨rfl, y_zini (by show 0 ≤ (atI + Int32.ofInt 1).toInt; omega) (by show (atI + Int32.ofInt 1).toInt ≤ 40; omega), fun H hH => ?_⟩
      have f : y_fr G H [1538] [] := y_st (y_mo (y_rf e.1) rfl rfl) hH (by repeat (first | exact w_nil | refine w_cons (Or.inl (y_m rfl)) ?_ | refine w_cons (Or.inr (by assumption)) ?_)) (by repeat (first | exact w_nil | refine w_cons (Or.inl (y_m rfl)) ?_ | refine w_cons (Or.inr (by assumption)) ?_))
      have s3 := tx_s_at s2 f rfl (hH.2.1 1538 _ rfl) inc (by omega)
      obtain ⟨k1, k2, k3, k4, k5⟩ := pr_c_p (T := y_N sg) (n := nd.toInt) t40 o (p + 1) (by omega)
      refine c_closeBr (d := d) s3 ho o5 (fun r H2 f2 s4 er => ⟨fun n e => (by cases e), ?_⟩)
      exact T112 (y_sq (y_sq (y_mo e rfl rfl) f rfl rfl) f2 rfl rfl) s4 (by omega) er (by omega) ((pr_let (by omega) h97 h98).trans k4) k5
    have T76 : ∀ {G : aH} {cI : Int32}, y_fr h G [] [] → p < t → cI.toInt = pr_k (y_N sg) t p → pr_k (y_N sg) t p ≠ 33 → ¬ (pr_k (y_N sg) t p = 40 ∧ o < 5) → aOK s_P X (d + 2) a_m87 76 [some (.ref 14), some (.ref 17), some (.int pI), some (.int oI), some (.int cI)] [] G C S K0 := by
      intro G cI e ptt hc h33 h40
      have bad : ∀ {H : aH}, y_fr h H [] [] → ¬ (97 ≤ pr_k (y_N sg) t p ∧ pr_k (y_N sg) t p < 97 + nd.toInt) → K0 (some (.int (y_01 false))) H C S := fun f w => hK false p _ (y_mo f rfl rfl) (tx_s_fr s f rfl rfl) (pr_bad (by omega) h33 h40 w)
      refine w_go z_hl [97] [88] 30 e.1 ?_
      refine ⟨fun z => ⟨by decide, fun H hH => bad (y_st e hH (by repeat (first | exact w_nil | refine w_cons (Or.inl (y_m rfl)) ?_ | refine w_cons (Or.inr (by assumption)) ?_)) (by repeat (first | exact w_nil | refine w_cons (Or.inl (y_m rfl)) ?_ | refine w_cons (Or.inr (by assumption)) ?_))) (fun w => ?_)⟩, fun z => ?_⟩
      · have y1 : cI.toInt < ((Int8.ofInt 97).toInt32).toInt := (y_ci .lt _ _).mp z
        rw [c97, hc] at y1
        have := w.1
        omega
      · have y1 : ¬ (cI.toInt < ((Int8.ofInt 97).toInt32).toInt) := y_cif z
        rw [c97, hc] at y1
        intro x hx _ _
        obtain rfl := y_fi ((y_fe e rfl).trans a6) hx
        refine ⟨fun z2 => fun H hH => ?_, fun z2 => ⟨by decide, fun H hH => bad (y_st e hH (by repeat (first | exact w_nil | refine w_cons (Or.inl (y_m rfl)) ?_ | refine w_cons (Or.inr (by assumption)) ?_)) (by repeat (first | exact w_nil | refine w_cons (Or.inl (y_m rfl)) ?_ | refine w_cons (Or.inr (by assumption)) ?_))) (fun w => ?_)⟩⟩
        · have y2 : cI.toInt < ((Int8.ofInt 97).toInt32 + nd).toInt := (y_ci .lt _ _).mp z2
          rw [cn, hc] at y2
          exact T97 (y_st e hH (by repeat (first | exact w_nil | refine w_cons (Or.inl (y_m rfl)) ?_ | refine w_cons (Or.inr (by assumption)) ?_)) (by repeat (first | exact w_nil | refine w_cons (Or.inl (y_m rfl)) ?_ | refine w_cons (Or.inr (by assumption)) ?_))) ptt (by omega) y2
        · have y2 : ¬ (cI.toInt < ((Int8.ofInt 97).toInt32 + nd).toInt) := y_cif z2
          rw [cn, hc] at y2
          exact y2 w.2
    have T48 : ∀ {G : aH} {cI : Int32} (b : Bool), y_fr h G [] [] → p < t → cI.toInt = (if b then 40 else 33) → pr_E (y_N sg) t nd.toInt false p o = pr_E (y_N sg) t nd.toInt false (p + 1) (o + (if b then 1 else 0)) → o + (if b then 1 else 0) ≤ 5 → aOK s_P X (d + 2) a_m87 48 [some (.ref 14), some (.ref 17), some (.int pI), some (.int oI), some (.int cI)] [] G C S K0 := by
      intro G cI b e ptt hc hE o5'
      have s2 := tx_s_fr s e rfl rfl
      have inc : (atI + Int32.ofInt 1).toInt = ((p + 1 : Nat) : Int) := by rw [y_inc (by omega), a5]; rfl
      cases b with
      | true =>
        have hc' : cI.toInt = 40 := hc
        have ino : (oI + Int32.ofInt 1).toInt = ((o + 1 : Nat) : Int) := by rw [y_inc (by omega), ho]; rfl
        have o6 : o + 1 ≤ 5 := o5'
        refine w_go z_hl [12] [88] 40 e.1 ?_
        refine ⟨fun z => ?_, fun _ => ?_⟩
        · have y1 : cI.toInt ≠ ((Int8.ofInt 40).toInt32).toInt := (y_ci .ne _ _).mp z
          rw [c40] at y1
          exact absurd hc' y1
        · intro x hx _ _
          obtain rfl := y_fi ((y_fe e rfl).trans a4) hx
          refine ⟨rfl, y_zini (by show 0 ≤ (atI + Int32.ofInt 1).toInt; omega) (by show (atI + Int32.ofInt 1).toInt ≤ 40; omega), fun H hH => ?_⟩
          have f : y_fr G H [1538] [] := y_st (y_mo (y_rf e.1) rfl rfl) hH (by repeat (first | exact w_nil | refine w_cons (Or.inl (y_m rfl)) ?_ | refine w_cons (Or.inr (by assumption)) ?_)) (by repeat (first | exact w_nil | refine w_cons (Or.inl (y_m rfl)) ?_ | refine w_cons (Or.inr (by assumption)) ?_))
          exact ih H (p + 1) _ (o + 1) _ (tx_s_at s2 f rfl (hH.2.1 1538 _ rfl) inc (by omega)) ino o6 (by omega) (fun b r H' f1 f2 f3 => hK b r H' (y_sq (y_mo (y_sq (y_mo e rfl rfl) f rfl rfl : y_fr h H [1538] []) rfl rfl) f1 rfl rfl) f2 (hE.trans f3))
      | false =>
        have hc' : cI.toInt = 33 := hc
        have ino : (oI + Int32.ofInt 0).toInt = (o : Nat) := by rw [show Int32.ofInt 0 = (0 : Int32) by decide, Int32.add_zero]; exact ho
        refine w_go z_hl [12] [88] 40 e.1 ?_
        refine ⟨fun _ => ?_, fun z => ?_⟩
        · intro x hx _ _
          obtain rfl := y_fi ((y_fe e rfl).trans a4) hx
          refine ⟨rfl, y_zini (by show 0 ≤ (atI + Int32.ofInt 1).toInt; omega) (by show (atI + Int32.ofInt 1).toInt ≤ 40; omega), fun H hH => ?_⟩
          have f : y_fr G H [1538] [] := y_st (y_mo (y_rf e.1) rfl rfl) hH (by repeat (first | exact w_nil | refine w_cons (Or.inl (y_m rfl)) ?_ | refine w_cons (Or.inr (by assumption)) ?_)) (by repeat (first | exact w_nil | refine w_cons (Or.inl (y_m rfl)) ?_ | refine w_cons (Or.inr (by assumption)) ?_))
          exact ih H (p + 1) _ o _ (tx_s_at s2 f rfl (hH.2.1 1538 _ rfl) inc (by omega)) ino o5 (by omega) (fun b r H' f1 f2 f3 => hK b r H' (y_sq (y_mo (y_sq (y_mo e rfl rfl) f rfl rfl : y_fr h H [1538] []) rfl rfl) f1 rfl rfl) f2 (hE.trans f3))
        · have y1 : ¬ (cI.toInt ≠ ((Int8.ofInt 40).toInt32).toInt) := y_cif z
          rw [c40] at y1
          exfalso
          omega
    have T27 : ∀ {G : aH} {cI : Int32}, y_fr h G [] [] → p < t → cI.toInt = pr_k (y_N sg) t p → aOK s_P X (d + 2) a_m87 27 [some (.ref 14), some (.ref 17), some (.int pI), some (.int oI), o4] [.int cI] G C S K0 := by
      intro G cI e ptt hc
      refine w_go z_hl [48, 76] [88] 40 e.1 ?_
      refine ⟨fun z => fun H hH => ?_, fun z => ⟨fun z2 => fun H hH => ?_, fun z2 => ⟨fun z3 => fun H hH => ?_, fun z3 => fun H hH => ?_⟩⟩⟩
      · have y1 : cI.toInt = ((Int8.ofInt 33).toInt32).toInt := (y_ci .eq _ _).mp z
        rw [c33] at y1
        exact T48 false (y_st e hH (by repeat (first | exact w_nil | refine w_cons (Or.inl (y_m rfl)) ?_ | refine w_cons (Or.inr (by assumption)) ?_)) (by repeat (first | exact w_nil | refine w_cons (Or.inl (y_m rfl)) ?_ | refine w_cons (Or.inr (by assumption)) ?_))) ptt y1 (pr_bang (by omega) (hc.symm.trans y1)) o5
      · have y1 : ¬ (cI.toInt = ((Int8.ofInt 33).toInt32).toInt) := y_cif z
        have y2 : cI.toInt ≠ ((Int8.ofInt 40).toInt32).toInt := (y_ci .ne _ _).mp z2
        rw [c33, hc] at y1
        rw [c40, hc] at y2
        exact T76 (y_st e hH (by repeat (first | exact w_nil | refine w_cons (Or.inl (y_m rfl)) ?_ | refine w_cons (Or.inr (by assumption)) ?_)) (by repeat (first | exact w_nil | refine w_cons (Or.inl (y_m rfl)) ?_ | refine w_cons (Or.inr (by assumption)) ?_))) ptt hc y1 (fun w => y2 w.1)
      · have y1 : ¬ (cI.toInt = ((Int8.ofInt 33).toInt32).toInt) := y_cif z
        have y3 : (Int32.ofInt 5).toInt ≤ oI.toInt := (y_ci .ge _ _).mp z3
        rw [c33, hc] at y1
        rw [c5] at y3
        exact T76 (y_st e hH (by repeat (first | exact w_nil | refine w_cons (Or.inl (y_m rfl)) ?_ | refine w_cons (Or.inr (by assumption)) ?_)) (by repeat (first | exact w_nil | refine w_cons (Or.inl (y_m rfl)) ?_ | refine w_cons (Or.inr (by assumption)) ?_))) ptt hc y1 (fun w => by have := w.2; omega)
      · have y2 : ¬ (cI.toInt ≠ ((Int8.ofInt 40).toInt32).toInt) := y_cif z2
        have y3 : ¬ ((Int32.ofInt 5).toInt ≤ oI.toInt) := y_cif z3
        rw [c40] at y2
        rw [c5] at y3
        have y4 : cI.toInt = 40 := Decidable.not_not.mp y2
        exact T48 true (y_st e hH (by repeat (first | exact w_nil | refine w_cons (Or.inl (y_m rfl)) ?_ | refine w_cons (Or.inr (by assumption)) ?_)) (by repeat (first | exact w_nil | refine w_cons (Or.inl (y_m rfl)) ?_ | refine w_cons (Or.inr (by assumption)) ?_))) ptt y4 (pr_open (by omega) (hc.symm.trans y4) (by omega)) (by show o + 1 ≤ 5; omega)
    refine w_go z_hl [12] [82] 30 hr ?_
    intro x hx _ _
    obtain rfl := y_fi a4 hx
    intro y hy _ _
    obtain rfl := y_fi a2 hy
    refine ⟨fun z => ⟨by decide, fun H hH => ?_⟩, fun z => fun H hH => ?_⟩
    · have y1 : toI.toInt ≤ atI.toInt := (y_ci .ge _ _).mp z
      have f : y_fr h H [] [] := y_st (y_rf hr) hH (by repeat (first | exact w_nil | refine w_cons (Or.inl (y_m rfl)) ?_ | refine w_cons (Or.inr (by assumption)) ?_)) (by repeat (first | exact w_nil | refine w_cons (Or.inl (y_m rfl)) ?_ | refine w_cons (Or.inr (by assumption)) ?_))
      have k0 : pr_k (y_N sg) t p = 0 := if_neg (by omega)
      exact hK false p H (y_mo f rfl rfl) (tx_s_fr s f rfl rfl) (pr_bad (by omega) (by omega) (fun w => by have := w.1; omega) (fun w => by have := w.1; omega))
    · have y1 : ¬ (toI.toInt ≤ atI.toInt) := y_cif z
      have f : y_fr h H [] [] := y_st (y_rf hr) hH (by repeat (first | exact w_nil | refine w_cons (Or.inl (y_m rfl)) ?_ | refine w_cons (Or.inr (by assumption)) ?_)) (by repeat (first | exact w_nil | refine w_cons (Or.inl (y_m rfl)) ?_ | refine w_cons (Or.inr (by assumption)) ?_))
      refine c_lkT (tx_s_fr s f rfl rfl) (fun r H2 f2 er => ⟨fun n e => (by cases e), ?_⟩)
      exact T27 (y_sq f f2 rfl rfl) (by omega) er
theorem c_ev0 {h : aH} {p : Nat} (n0 : 0 ≤ nd.toInt) (n10 : nd.toInt ≤ 10) {pI : Int32} {pa : Nat} (hpa : pI.toInt = pa) (pa4 : pa < 4) (s : tx_s nd h sg t p) {fr : List Int32} (gf : w_a h 17 = some (0, .inl fr)) (hK : ∀ (b : Bool) (q : Nat) (aI : Int32) (H : aH), y_fr h H [1538] [17, 18, 19] → tx_s nd H sg t q → pr_E (y_N sg) t nd.toInt false p 0 = (b, q) → w_a H 17 = some (0, .inl (fr.set pa aI)) → 0 ≤ aI.toInt → K0 (some (.int (y_01 b))) H C S) : aOK s_P X (d + 2) a_m87 0 [some (.ref 14), some (.ref 17), some (.int pI), none, none] [] h C S K0 := by
  obtain ⟨toI, atI, hr, a1, a2, a3, a4, a5, a6, pt, t40⟩ := id s
  have cp := y_cl1 hpa
  refine w_go z_hl [12] [] 30 hr ?_
  intro x hx _ _
  obtain rfl := y_fi a4 hx
  refine ⟨⟨by omega, by omega⟩, ⟨by omega, by omega⟩, fun l hl len bb => fun H hH => ?_⟩
  obtain rfl := y_ai gf hl
  have w := hH.2.2.1 17 _ rfl
  rw [cp] at w
  have f : y_fr h H [] [17] := y_st (y_mo (y_rf hr) rfl rfl) hH (by repeat (first | exact w_nil | refine w_cons (Or.inl (y_m rfl)) ?_ | refine w_cons (Or.inr (by assumption)) ?_)) (by repeat (first | exact w_nil | refine w_cons (Or.inl (y_m rfl)) ?_ | refine w_cons (Or.inr (by assumption)) ?_))
  exact c_evl0 (d := d) n0 n10 hpa pa4 40 H p _ 0 _ (tx_s_fr s f rfl rfl) (by decide) (by decide) (by omega) (fun b q H' f1 f2 f3 => hK b q atI H' (y_sq (y_mo f rfl rfl) f1 rfl rfl) f2 f3 ((y_ae f1 rfl).trans w) (by omega))
end PEV0
end PT33ibm
section PT33ibn
/-! ===== v21: parseGiven, parseRate, parseTerm of the class with saying 0 (laid by wip/tools/mk21d.py) ===== -/
section PPT0
variable {X : aX} {C S d : Nat} {K0 : Option Value → aH → Nat → Nat → Prop} {sg : List Int32} {t p : Nat} {nd : Int32} {h : aH}
theorem c_gv0 (n0 : 0 ≤ nd.toInt) (n10 : nd.toInt ≤ 10) {sI : Int32} {sd : Nat} (hs : sI.toInt = sd) (hs2 : sd < 2) (s : tx_s nd h sg t p) {fr : List Int32} (gf : w_a h 17 = some (0, .inl fr)) (hK : ∀ (b : Bool) (q k : Nat) (H : aH) (fr' : List Int32), y_fr h H [1538] [17, 18, 19] → tx_s nd H sg t q → pr_gv (y_N sg) t nd.toInt p = (b, q, k) → w_a H 17 = some (0, .inl fr') → tx_f fr fr' sd k → K0 (some (.int (y_01 b))) H C S) : aOK s_P X (d + 3) a_m86 0 [some (.ref 14), some (.ref 17), some (.int sI)] [] h C S K0 := by
  obtain ⟨toI, atI, hr, a1, a2, a3, a4, a5, a6, pt, t40⟩ := id s
  obtain ⟨fr0, f1, fl, -⟩ := c_arr hr (ob := 17) (n := 4) (lo := -1) (hi := 40) rfl
  obtain rfl := y_ai gf f1
  have c47 : ((Int8.ofInt 47).toInt32).toInt = 47 := by decide
  have m1 : (Int32.ofInt 2 * sI).toInt = ((2 * sd : Nat) : Int) := y_mulS (m := 2) _ (by decide) hs rfl (by omega)
  have m2 : (Int32.ofInt 2 * sI + Int32.ofInt 1).toInt = ((2 * sd + 1 : Nat) : Int) := y_addS _ m1 (n := 1) (by decide) rfl (by omega)
  have T44 : ∀ {G : aH} {b : Bool} {q k : Nat} {fr' : List Int32}, y_fr h G [1538] [17, 18, 19] → tx_s nd G sg t q → pr_gv (y_N sg) t nd.toInt p = (b, q, k) → w_a G 17 = some (0, .inl fr') → tx_f fr fr' sd k → aOK s_P X (d + 3) a_m86 44 [some (.ref 14), some (.ref 17), some (.int sI)] [.int (y_01 b)] G C S K0 := by
    intro G b q k fr' e s2 hg g2 hf
    refine w_go z_hl [] [] 20 e.1 ?_
    refine ⟨y_01b b, fun H hH => ?_⟩
    have f : y_fr G H [] [] := y_st (y_rf e.1) hH (by repeat (first | exact w_nil | refine w_cons (Or.inl (y_m rfl)) ?_ | refine w_cons (Or.inr (by assumption)) ?_)) (by repeat (first | exact w_nil | refine w_cons (Or.inl (y_m rfl)) ?_ | refine w_cons (Or.inr (by assumption)) ?_))
    exact hK b q k H fr' (y_sq e f rfl rfl) (tx_s_fr s2 f rfl rfl) hg ((y_ae f rfl).trans g2) hf
  have T24 : ∀ {G : aH} {q : Nat} {aI : Int32}, y_fr h G [1538] [17, 18, 19] → tx_s nd G sg t q → q < t → pr_E (y_N sg) t nd.toInt false p 0 = (true, q) → pr_k (y_N sg) t q = 47 → w_a G 17 = some (0, .inl (fr.set (2 * sd) aI)) → 0 ≤ aI.toInt → aOK s_P X (d + 3) a_m86 24 [some (.ref 14), some (.ref 17), some (.int sI)] [] G C S K0 := by
    intro G q aI e s2 qt hE h47 g2 ha
    obtain ⟨toJ, atJ, -, b1, b2, b3, b4, b5, b6, -, -⟩ := id s2
    have inc : (atJ + Int32.ofInt 1).toInt = ((q + 1 : Nat) : Int) := by rw [y_inc (by omega), b5]; rfl
    refine w_go z_hl [] [87] 30 e.1 ?_
    intro x hx _ _
    obtain rfl := y_fi b4 hx
    refine ⟨rfl, y_zini (by show 0 ≤ (atJ + Int32.ofInt 1).toInt; omega) (by show (atJ + Int32.ofInt 1).toInt ≤ 40; omega), fun H hH => ?_⟩
    have f : y_fr G H [1538] [] := y_st (y_mo (y_rf e.1) rfl rfl) hH (by repeat (first | exact w_nil | refine w_cons (Or.inl (y_m rfl)) ?_ | refine w_cons (Or.inr (by assumption)) ?_)) (by repeat (first | exact w_nil | refine w_cons (Or.inl (y_m rfl)) ?_ | refine w_cons (Or.inr (by assumption)) ?_))
    refine c_ev0 (d := d) n0 n10 m2 (by omega) (tx_s_at s2 f rfl (hH.2.1 1538 _ rfl) inc (by omega)) ((y_ae f rfl).trans g2) (fun b r aJ H2 f2 s3 hE2 g3 ha2 => ⟨fun n e => (by cases e), ?_⟩)
    exact T44 (k := 2) (y_sq (y_sq e f rfl rfl) f2 rfl rfl) s3 (pr_gv_2 hE h47 hE2) g3 (tx_f_2 fl ha ha2 hs2)
  have T17 : ∀ {G : aH} {q : Nat} {aI cI : Int32}, y_fr h G [1538] [17, 18, 19] → tx_s nd G sg t q → cI.toInt = pr_k (y_N sg) t q → pr_E (y_N sg) t nd.toInt false p 0 = (true, q) → w_a G 17 = some (0, .inl (fr.set (2 * sd) aI)) → 0 ≤ aI.toInt → aOK s_P X (d + 3) a_m86 17 [some (.ref 14), some (.ref 17), some (.int sI)] [.int cI] G C S K0 := by
    intro G q aI cI e s2 hc hE g2 ha
    refine w_go z_hl [24] [] 30 e.1 ?_
    refine ⟨fun z => fun H hH => ?_, fun z => ⟨by decide, fun H hH => ?_⟩⟩
    · have y1 : cI.toInt = ((Int8.ofInt 47).toInt32).toInt := (y_ci .eq _ _).mp z
      rw [c47, hc] at y1
      have f : y_fr G H [] [] := y_st (y_rf e.1) hH (by repeat (first | exact w_nil | refine w_cons (Or.inl (y_m rfl)) ?_ | refine w_cons (Or.inr (by assumption)) ?_)) (by repeat (first | exact w_nil | refine w_cons (Or.inl (y_m rfl)) ?_ | refine w_cons (Or.inr (by assumption)) ?_))
      exact T24 (y_sq e f rfl rfl) (tx_s_fr s2 f rfl rfl) (pr_k_t (by decide) y1) hE y1 ((y_ae f rfl).trans g2) ha
    · have y1 : ¬ (cI.toInt = ((Int8.ofInt 47).toInt32).toInt) := y_cif z
      rw [c47, hc] at y1
      have f : y_fr G H [] [] := y_st (y_rf e.1) hH (by repeat (first | exact w_nil | refine w_cons (Or.inl (y_m rfl)) ?_ | refine w_cons (Or.inr (by assumption)) ?_)) (by repeat (first | exact w_nil | refine w_cons (Or.inl (y_m rfl)) ?_ | refine w_cons (Or.inr (by assumption)) ?_))
      exact hK true q 1 H _ (y_sq e f rfl rfl) (tx_s_fr s2 f rfl rfl) (pr_gv_1 hE y1) ((y_ae f rfl).trans g2) (tx_f_1 fl ha hs2)
  have T8 : ∀ {G : aH} {q : Nat} {aI : Int32} (b : Bool), y_fr h G [1538] [17, 18, 19] → tx_s nd G sg t q → pr_E (y_N sg) t nd.toInt false p 0 = (b, q) → w_a G 17 = some (0, .inl (fr.set (2 * sd) aI)) → 0 ≤ aI.toInt → aOK s_P X (d + 3) a_m86 8 [some (.ref 14), some (.ref 17), some (.int sI)] [.int (y_01 b)] G C S K0 := by
    intro G q aI b e s2 hE g2 ha
    cases b with
    | true =>
      refine w_go z_hl [24] [82] 30 e.1 ?_
      refine ⟨fun _ => fun H hH => ?_, fun z => absurd z (by decide)⟩
      have f : y_fr G H [] [] := y_st (y_rf e.1) hH (by repeat (first | exact w_nil | refine w_cons (Or.inl (y_m rfl)) ?_ | refine w_cons (Or.inr (by assumption)) ?_)) (by repeat (first | exact w_nil | refine w_cons (Or.inl (y_m rfl)) ?_ | refine w_cons (Or.inr (by assumption)) ?_))
      refine c_lkT (tx_s_fr s2 f rfl rfl) (fun r H2 f2 er => ⟨fun n e => (by cases e), ?_⟩)
      exact T17 (y_sq (y_sq e f rfl rfl) f2 rfl rfl) (tx_s_fr (tx_s_fr s2 f rfl rfl) f2 rfl rfl) er hE ((y_ae f2 rfl).trans ((y_ae f rfl).trans g2)) ha
    | false =>
      refine w_go z_hl [24] [82] 30 e.1 ?_
      refine ⟨fun z => absurd z (by decide), fun _ => ⟨by decide, fun H hH => ?_⟩⟩
      have f : y_fr G H [] [] := y_st (y_rf e.1) hH (by repeat (first | exact w_nil | refine w_cons (Or.inl (y_m rfl)) ?_ | refine w_cons (Or.inr (by assumption)) ?_)) (by repeat (first | exact w_nil | refine w_cons (Or.inl (y_m rfl)) ?_ | refine w_cons (Or.inr (by assumption)) ?_))
      exact hK false q 1 H _ (y_sq e f rfl rfl) (tx_s_fr s2 f rfl rfl) (pr_gv_n hE) ((y_ae f rfl).trans g2) (tx_f_1 fl ha hs2)
  refine w_go z_hl [] [87] 30 hr ?_
  intro H hH
  have f : y_fr h H [] [] := y_st (y_rf hr) hH (by repeat (first | exact w_nil | refine w_cons (Or.inl (y_m rfl)) ?_ | refine w_cons (Or.inr (by assumption)) ?_)) (by repeat (first | exact w_nil | refine w_cons (Or.inl (y_m rfl)) ?_ | refine w_cons (Or.inr (by assumption)) ?_))
  refine c_ev0 (d := d) n0 n10 m1 (by omega) (tx_s_fr s f rfl rfl) ((y_ae f rfl).trans gf) (fun b q aI H2 f2 s3 hE g3 ha => ⟨fun n e => (by cases e), ?_⟩)
  exact T8 b (y_sq (y_mo f rfl rfl) f2 rfl rfl) s3 hE g3 ha
theorem c_rt0 {sI : Int32} {sd : Nat} (hs : sI.toInt = sd) (hs2 : sd < 2) (s : tx_s nd h sg t p) (hK : ∀ (b : Bool) (q : Nat) (H : aH), y_fr h H [1538] [20, 21] → tx_s nd H sg t q → pr_rt (y_N sg) t p = (b, q, 0) → K0 (some (.int (y_01 b))) H C S) : aOK s_P X (d + 2) a_m84 0 [some (.ref 14), some (.ref 17), some (.int sI)] [] h C S K0 := by
  obtain ⟨toI, atI, hr, a1, a2, a3, a4, a5, a6, pt, t40⟩ := id s
  have c58 : ((Int8.ofInt 58).toInt32).toInt = 58 := by decide
  have c48 : ((Int8.ofInt 48).toInt32).toInt = 48 := by decide
  have T61 : ∀ {G : aH} {q : Nat} {r : Int32}, y_fr h G [1538] [20] → tx_s nd G sg t q → pr_rt (y_N sg) t p = (true, q, 0) → aOK s_P X (d + 2) a_m84 61 [some (.ref 14), some (.ref 17), some (.int sI)] [.int r, .int sI, .ref 23] G C S K0 := by
    intro G q r e s2 hg
    refine w_go z_hl [] [] 20 e.1 ?_
    refine ⟨⟨by omega, by omega⟩, y_l32 _, fun l hl len bb => ⟨by decide, fun H hH => ?_⟩⟩
    have f : y_fr G H [] [21] := y_st (y_mo (y_rf e.1) rfl rfl) hH (by repeat (first | exact w_nil | refine w_cons (Or.inl (y_m rfl)) ?_ | refine w_cons (Or.inr (by assumption)) ?_)) (by repeat (first | exact w_nil | refine w_cons (Or.inl (y_m rfl)) ?_ | refine w_cons (Or.inr (by assumption)) ?_))
    exact hK true q H (y_sq (y_mo e rfl rfl) f rfl rfl) (tx_s_fr s2 f rfl rfl) hg
  have T45 : ∀ {G : aH} {cI : Int32}, y_fr h G [1538] [20] → tx_s nd G sg t (pr_dq (y_N sg) t 8 p + 1) → pr_k (y_N sg) t (pr_dq (y_N sg) t 8 p) = 58 → pr_dg (y_N sg) t (pr_dq (y_N sg) t 8 p + 1) → cI.toInt = pr_k (y_N sg) t (pr_dq (y_N sg) t 8 p + 1) → aOK s_P X (d + 2) a_m84 45 [some (.ref 14), some (.ref 17), some (.int sI)] [.int cI] G C S K0 := by
    intro G cI e s2 h58 hd hc
    have hd1 := hd.1
    have hd2 := hd.2
    refine w_go z_hl [] [85] 30 e.1 ?_
    refine ⟨fun z => fun H hH => ?_, fun z => ⟨by decide, fun H hH => ?_⟩⟩
    · have y1 : cI.toInt ≠ ((Int8.ofInt 48).toInt32).toInt := (y_ci .ne _ _).mp z
      rw [c48, hc] at y1
      have f : y_fr G H [] [] := y_st (y_rf e.1) hH (by repeat (first | exact w_nil | refine w_cons (Or.inl (y_m rfl)) ?_ | refine w_cons (Or.inr (by assumption)) ?_)) (by repeat (first | exact w_nil | refine w_cons (Or.inl (y_m rfl)) ?_ | refine w_cons (Or.inr (by assumption)) ?_))
      refine c_number (d := d) (tx_s_fr s2 f rfl rfl) (fun r H2 f2 s3 => ⟨fun n e => (by cases e), ?_⟩)
      exact T61 (y_sq (y_sq e f rfl rfl) f2 rfl rfl) s3 (pr_rt_1 h58 ⟨by omega, hd2⟩)
    · have y1 : ¬ (cI.toInt ≠ ((Int8.ofInt 48).toInt32).toInt) := y_cif z
      rw [c48, hc] at y1
      have f : y_fr G H [] [] := y_st (y_rf e.1) hH (by repeat (first | exact w_nil | refine w_cons (Or.inl (y_m rfl)) ?_ | refine w_cons (Or.inr (by assumption)) ?_)) (by repeat (first | exact w_nil | refine w_cons (Or.inl (y_m rfl)) ?_ | refine w_cons (Or.inr (by assumption)) ?_))
      exact hK false _ H (y_mo (y_sq e f rfl rfl) rfl rfl) (tx_s_fr s2 f rfl rfl) (pr_rt_0 h58 (fun w => by have := w.1; omega))
  have T38 : ∀ {G : aH} (b : Bool), y_fr h G [1538] [20] → tx_s nd G sg t (pr_dq (y_N sg) t 8 p + 1) → pr_k (y_N sg) t (pr_dq (y_N sg) t 8 p) = 58 → (b = true → pr_dg (y_N sg) t (pr_dq (y_N sg) t 8 p + 1)) → (b = false → ¬ pr_dg (y_N sg) t (pr_dq (y_N sg) t 8 p + 1)) → aOK s_P X (d + 2) a_m84 38 [some (.ref 14), some (.ref 17), some (.int sI)] [.int (y_01 b)] G C S K0 := by
    intro G b e s2 h58 hy hn
    cases b with
    | true =>
      refine w_go z_hl [] [82] 30 e.1 ?_
      refine ⟨fun z => absurd z (by decide), fun _ => fun H hH => ?_⟩
      have f : y_fr G H [] [] := y_st (y_rf e.1) hH (by repeat (first | exact w_nil | refine w_cons (Or.inl (y_m rfl)) ?_ | refine w_cons (Or.inr (by assumption)) ?_)) (by repeat (first | exact w_nil | refine w_cons (Or.inl (y_m rfl)) ?_ | refine w_cons (Or.inr (by assumption)) ?_))
      refine c_lkT (tx_s_fr s2 f rfl rfl) (fun r H2 f2 er => ⟨fun n e => (by cases e), ?_⟩)
      exact T45 (y_sq (y_sq e f rfl rfl) f2 rfl rfl) (tx_s_fr (tx_s_fr s2 f rfl rfl) f2 rfl rfl) h58 (hy rfl) er
    | false =>
      refine w_go z_hl [] [82] 30 e.1 ?_
      refine ⟨fun _ => ⟨by decide, fun H hH => ?_⟩, fun z => absurd z (by decide)⟩
      have f : y_fr G H [] [] := y_st (y_rf e.1) hH (by repeat (first | exact w_nil | refine w_cons (Or.inl (y_m rfl)) ?_ | refine w_cons (Or.inr (by assumption)) ?_)) (by repeat (first | exact w_nil | refine w_cons (Or.inl (y_m rfl)) ?_ | refine w_cons (Or.inr (by assumption)) ?_))
      exact hK false _ H (y_mo (y_sq e f rfl rfl) rfl rfl) (tx_s_fr s2 f rfl rfl) (pr_rt_0 h58 (fun w => hn rfl ⟨by have := w.1; omega, w.2⟩))
  have T35 : ∀ {G : aH} {cI : Int32}, y_fr h G [1538] [20] → tx_s nd G sg t (pr_dq (y_N sg) t 8 p + 1) → pr_k (y_N sg) t (pr_dq (y_N sg) t 8 p) = 58 → cI.toInt = pr_k (y_N sg) t (pr_dq (y_N sg) t 8 p + 1) → aOK s_P X (d + 2) a_m84 35 [some (.ref 14), some (.ref 17), some (.int sI)] [.int cI] G C S K0 := by
    intro G cI e s2 h58 hc
    refine w_go z_hl [] [83] 20 e.1 ?_
    intro H hH
    have f : y_fr G H [] [] := y_st (y_rf e.1) hH (by repeat (first | exact w_nil | refine w_cons (Or.inl (y_m rfl)) ?_ | refine w_cons (Or.inr (by assumption)) ?_)) (by repeat (first | exact w_nil | refine w_cons (Or.inl (y_m rfl)) ?_ | refine w_cons (Or.inr (by assumption)) ?_))
    refine c_isDg (c := cI) f.1 (fun H2 f2 w => ⟨fun n e => (by cases e), ?_⟩) (fun H2 f2 w => ⟨fun n e => (by cases e), ?_⟩)
    · exact T38 true (y_sq (y_sq e f rfl rfl) f2 rfl rfl) (tx_s_fr (tx_s_fr s2 f rfl rfl) f2 rfl rfl) h58 (fun _ => ⟨by omega, by omega⟩) (fun z => absurd z (by decide))
    · exact T38 false (y_sq (y_sq e f rfl rfl) f2 rfl rfl) (tx_s_fr (tx_s_fr s2 f rfl rfl) f2 rfl rfl) h58 (fun z => absurd z (by decide)) (fun _ z => w ⟨by have := z.1; omega, by have := z.2; omega⟩)
  have T14 : ∀ {G : aH} {cI : Int32}, y_fr h G [1538] [20] → tx_s nd G sg t (pr_dq (y_N sg) t 8 p) → cI.toInt = pr_k (y_N sg) t (pr_dq (y_N sg) t 8 p) → aOK s_P X (d + 2) a_m84 14 [some (.ref 14), some (.ref 17), some (.int sI)] [.int cI] G C S K0 := by
    intro G cI e s2 hc
    obtain ⟨toJ, atJ, -, b1, b2, b3, b4, b5, b6, qt, -⟩ := id s2
    refine w_go z_hl [] [82] 40 e.1 ?_
    refine ⟨fun z => ?_, fun z => ⟨by decide, fun H hH => ?_⟩⟩
    · have y1 : cI.toInt = ((Int8.ofInt 58).toInt32).toInt := (y_ci .eq _ _).mp z
      rw [c58, hc] at y1
      have qt' := pr_k_t (by decide) y1
      have inc : (atJ + Int32.ofInt 1).toInt = ((pr_dq (y_N sg) t 8 p + 1 : Nat) : Int) := by rw [y_inc (by omega), b5]; rfl
      intro x hx _ _
      obtain rfl := y_fi b4 hx
      refine ⟨rfl, y_zini (by show 0 ≤ (atJ + Int32.ofInt 1).toInt; omega) (by show (atJ + Int32.ofInt 1).toInt ≤ 40; omega), fun H hH => ?_⟩
      have f : y_fr G H [1538] [] := y_st (y_mo (y_rf e.1) rfl rfl) hH (by repeat (first | exact w_nil | refine w_cons (Or.inl (y_m rfl)) ?_ | refine w_cons (Or.inr (by assumption)) ?_)) (by repeat (first | exact w_nil | refine w_cons (Or.inl (y_m rfl)) ?_ | refine w_cons (Or.inr (by assumption)) ?_))
      have s3 := tx_s_at s2 f rfl (hH.2.1 1538 _ rfl) inc (by omega)
      refine c_lkT s3 (fun r H2 f2 er => ⟨fun n e => (by cases e), ?_⟩)
      exact T35 (y_sq (y_sq e f rfl rfl) f2 rfl rfl) (tx_s_fr s3 f2 rfl rfl) y1 er
    · have y1 : ¬ (cI.toInt = ((Int8.ofInt 58).toInt32).toInt) := y_cif z
      rw [c58, hc] at y1
      have f : y_fr G H [] [] := y_st (y_rf e.1) hH (by repeat (first | exact w_nil | refine w_cons (Or.inl (y_m rfl)) ?_ | refine w_cons (Or.inr (by assumption)) ?_)) (by repeat (first | exact w_nil | refine w_cons (Or.inl (y_m rfl)) ?_ | refine w_cons (Or.inr (by assumption)) ?_))
      exact hK false _ H (y_mo (y_sq e f rfl rfl) rfl rfl) (tx_s_fr s2 f rfl rfl) (pr_rt_n y1)
  have T9 : ∀ {G : aH} {r : Int32}, y_fr h G [1538] [] → tx_s nd G sg t (pr_dq (y_N sg) t 8 p) → aOK s_P X (d + 2) a_m84 9 [some (.ref 14), some (.ref 17), some (.int sI)] [.int r, .int sI, .ref 22] G C S K0 := by
    intro G r e s2
    refine w_go z_hl [] [82] 30 e.1 ?_
    refine ⟨⟨by omega, by omega⟩, y_l32 _, fun l hl len bb => fun H hH => ?_⟩
    have f : y_fr G H [] [20] := y_st (y_mo (y_rf e.1) rfl rfl) hH (by repeat (first | exact w_nil | refine w_cons (Or.inl (y_m rfl)) ?_ | refine w_cons (Or.inr (by assumption)) ?_)) (by repeat (first | exact w_nil | refine w_cons (Or.inl (y_m rfl)) ?_ | refine w_cons (Or.inr (by assumption)) ?_))
    refine c_lkT (tx_s_fr s2 f rfl rfl) (fun r H2 f2 er => ⟨fun n e => (by cases e), ?_⟩)
    exact T14 (y_sq (y_sq (y_mo e rfl rfl) f rfl rfl) f2 rfl rfl) (tx_s_fr (tx_s_fr s2 f rfl rfl) f2 rfl rfl) er
  refine w_go z_hl [] [85] 30 hr ?_
  intro H hH
  have f : y_fr h H [] [] := y_st (y_rf hr) hH (by repeat (first | exact w_nil | refine w_cons (Or.inl (y_m rfl)) ?_ | refine w_cons (Or.inr (by assumption)) ?_)) (by repeat (first | exact w_nil | refine w_cons (Or.inl (y_m rfl)) ?_ | refine w_cons (Or.inr (by assumption)) ?_))
  refine c_number (d := d) (tx_s_fr s f rfl rfl) (fun r H2 f2 s3 => ⟨fun n e => (by cases e), ?_⟩)
  exact T9 (y_sq (y_mo f rfl rfl) f2 rfl rfl) s3
end PPT0
end PT33ibn
section PT33ibo
/-! ===== v21: clear, parseTerm, parseFirst, parseSecond of the class with saying 0 (laid by wip/tools/mk21e.py) ===== -/
section PFS0
variable {X : aX} {C S d : Nat} {K0 : Option Value → aH → Nat → Nat → Prop} {sg : List Int32} {t p : Nat} {nd : Int32} {h : aH}
theorem c_clearl0 : ∀ (m : Nat) (h : aH) (iI : Int32) (i : Nat) (fr : List Int32), w_hr z_D h → iI.toInt = i → i + m = 4 → w_a h 17 = some (0, .inl fr) → fr.length = 4 → (∀ j, j < i → y_N fr j = -1) → (∀ (H : aH) (fr' : List Int32), y_fr h H [] [17, 18, 19] → w_a H 17 = some (0, .inl fr') → (∀ j, j < 4 → y_N fr' j = -1) → K0 none H C S) → aOK s_P X d a_m79 13 [some (.ref 17), some (.int iI)] [] h C S K0 := by
  have c4 : (Int32.ofInt 4).toInt = 4 := by decide
  intro m
  induction m with
  | zero =>
    intro h iI i fr hr hi hm g len hf hK
    have ei : i = 4 := by omega
    rw [ei] at hf
    refine w_go z_hl [13] [] 30 hr ?_
    refine ⟨fun _ => fun H hH => ?_, fun z => ?_⟩
    · have f : y_fr h H [] [] := y_st (y_rf hr) hH (by repeat (first | exact w_nil | refine w_cons (Or.inl (y_m rfl)) ?_ | refine w_cons (Or.inr (by assumption)) ?_)) (by repeat (first | exact w_nil | refine w_cons (Or.inl (y_m rfl)) ?_ | refine w_cons (Or.inr (by assumption)) ?_))
      exact hK H fr (y_mo f rfl rfl) ((y_ae f rfl).trans g) hf
    · have y1 : ¬ ((Int32.ofInt 4).toInt ≤ iI.toInt) := y_cif z
      rw [c4] at y1
      exfalso
      omega
  | succ m ih =>
    intro h iI i fr hr hi hm g len hf hK
    have ink : (iI + Int32.ofInt 1).toInt = ((i + 1 : Nat) : Int) := by rw [y_inc (by omega), hi]; rfl
    have ci := y_cl1 hi
    refine w_go z_hl [13] [] 60 hr ?_
    refine ⟨fun z => ?_, fun z => ?_⟩
    · have y1 : (Int32.ofInt 4).toInt ≤ iI.toInt := (y_ci .ge _ _).mp z
      rw [c4] at y1
      exfalso
      omega
    · refine ⟨⟨by omega, by omega⟩, by decide, fun l hl len1 bb => ?_⟩
      obtain rfl := y_ai g hl
      refine ⟨⟨by omega, by omega⟩, y_l32 _, fun l2 hl2 len2 bb2 => ⟨⟨by omega, by omega⟩, y_l32 _, fun l3 hl3 len3 bb3 => fun H hH => ?_⟩⟩
      have w := hH.2.2.1 17 _ rfl
      rw [ci] at w
      have f : y_fr h H [] [17, 18, 19] := y_st (y_mo (y_rf hr) rfl rfl) hH (by repeat (first | exact w_nil | refine w_cons (Or.inl (y_m rfl)) ?_ | refine w_cons (Or.inr (by assumption)) ?_)) (by repeat (first | exact w_nil | refine w_cons (Or.inl (y_m rfl)) ?_ | refine w_cons (Or.inr (by assumption)) ?_))
      refine ih H _ (i + 1) _ f.1 ink (by omega) w (by rw [List.length_set]; exact len) (fun j hj => ?_) (fun H' fr' f1 f2 f3 => hK H' fr' (y_sq f f1 rfl rfl) f2 f3)
      rw [y_Nset (by omega)]
      by_cases y : j = i
      · rw [if_pos y]
        decide
      · rw [if_neg y]
        exact hf j (by omega)
theorem c_clear0 (hr : w_hr z_D h) (hK : ∀ (H : aH) (fr : List Int32), y_fr h H [1921, 1922] [17, 18, 19] → w_a H 17 = some (0, .inl fr) → (∀ j, j < 4 → y_N fr j = -1) → K0 none H C S) : aOK s_P X d a_m79 0 [some (.ref 17), none] [] h C S K0 := by
  refine w_go z_hl [13] [] 30 hr ?_
  refine ⟨rfl, y_zini (by decide) (by decide), rfl, y_zini (by decide) (by decide), fun H hH => ?_⟩
  have f : y_fr h H [1921, 1922] [] := y_st (y_mo (y_rf hr) rfl rfl) hH (by repeat (first | exact w_nil | refine w_cons (Or.inl (y_m rfl)) ?_ | refine w_cons (Or.inr (by assumption)) ?_)) (by repeat (first | exact w_nil | refine w_cons (Or.inl (y_m rfl)) ?_ | refine w_cons (Or.inr (by assumption)) ?_))
  obtain ⟨fr, f1, fl, -⟩ := c_arr f.1 (ob := 17) (n := 4) (lo := -1) (hi := 40) rfl
  exact c_clearl0 4 H _ 0 fr f.1 (by decide) rfl f1 fl (fun j hj => absurd hj (Nat.not_lt_zero j)) (fun H' fr' e1 e2 e3 => hK H' fr' (y_sq (y_mo f rfl rfl) e1 rfl rfl) e2 e3)
theorem c_tm0 (n0 : 0 ≤ nd.toInt) (n10 : nd.toInt ≤ 10) {sI : Int32} {sd : Nat} (hs : sI.toInt = sd) (hs2 : sd < 2) (s : tx_s nd h sg t p) {fr : List Int32} (gf : w_a h 17 = some (0, .inl fr)) (hK : ∀ (b : Bool) (q k : Nat) (H : aH) (fr' : List Int32), y_fr h H [1538] [17, 18, 19, 20, 21] → tx_s nd H sg t q → pr_tm (y_N sg) t nd.toInt p = (b, q, k) → w_a H 17 = some (0, .inl fr') → (k = 0 ∧ fr' = fr) ∨ tx_f fr fr' sd k → K0 (some (.int (y_01 b))) H C S) : aOK s_P X (d + 4) a_m81 0 [some (.ref 14), some (.ref 17), some (.int sI)] [] h C S K0 := by
  have hr := (tx_s_hr s).1
  have T25 : ∀ {G : aH} {b : Bool} {q k : Nat} {pc : Nat} {fr' : List Int32}, (pc = 16 ∨ pc = 25) → y_fr h G [1538] [17, 18, 19, 20, 21] → tx_s nd G sg t q → pr_tm (y_N sg) t nd.toInt p = (b, q, k) → w_a G 17 = some (0, .inl fr') → (k = 0 ∧ fr' = fr) ∨ tx_f fr fr' sd k → aOK s_P X (d + 4) a_m81 pc [some (.ref 14), some (.ref 17), some (.int sI)] [.int (y_01 b)] G C S K0 := by
    intro G b q k pc fr' hpc e s2 hg g2 hf
    rcases hpc with rfl | rfl
    · refine w_go z_hl [] [] 20 e.1 ?_
      refine ⟨y_01b b, fun H hH => ?_⟩
      have f : y_fr G H [] [] := y_st (y_rf e.1) hH (by repeat (first | exact w_nil | refine w_cons (Or.inl (y_m rfl)) ?_ | refine w_cons (Or.inr (by assumption)) ?_)) (by repeat (first | exact w_nil | refine w_cons (Or.inl (y_m rfl)) ?_ | refine w_cons (Or.inr (by assumption)) ?_))
      exact hK b q k H fr' (y_sq e f rfl rfl) (tx_s_fr s2 f rfl rfl) hg ((y_ae f rfl).trans g2) hf
    · refine w_go z_hl [] [] 20 e.1 ?_
      refine ⟨y_01b b, fun H hH => ?_⟩
      have f : y_fr G H [] [] := y_st (y_rf e.1) hH (by repeat (first | exact w_nil | refine w_cons (Or.inl (y_m rfl)) ?_ | refine w_cons (Or.inr (by assumption)) ?_)) (by repeat (first | exact w_nil | refine w_cons (Or.inl (y_m rfl)) ?_ | refine w_cons (Or.inr (by assumption)) ?_))
      exact hK b q k H fr' (y_sq e f rfl rfl) (tx_s_fr s2 f rfl rfl) hg ((y_ae f rfl).trans g2) hf
  have T7 : ∀ {G : aH} (b : Bool), y_fr h G [] [] → (b = true → pr_dg (y_N sg) t p) → (b = false → ¬ pr_dg (y_N sg) t p) → aOK s_P X (d + 4) a_m81 7 [some (.ref 14), some (.ref 17), some (.int sI)] [.int (y_01 b)] G C S K0 := by
    intro G b e hy hn
    cases b with
    | true =>
      refine w_go z_hl [] [84, 86] 30 e.1 ?_
      refine ⟨fun z => absurd z (by decide), fun _ => fun H hH => ?_⟩
      have f : y_fr h H [] [] := y_st e hH (by repeat (first | exact w_nil | refine w_cons (Or.inl (y_m rfl)) ?_ | refine w_cons (Or.inr (by assumption)) ?_)) (by repeat (first | exact w_nil | refine w_cons (Or.inl (y_m rfl)) ?_ | refine w_cons (Or.inr (by assumption)) ?_))
      refine c_rt0 (d := d + 1) hs hs2 (tx_s_fr s f rfl rfl) (fun b q H2 f2 s3 hg => ⟨fun n e => (by cases e), ?_⟩)
      exact T25 (k := 0) (Or.inl rfl) (y_sq (y_mo f rfl rfl) f2 rfl rfl) s3 (by rw [pr_tm_1 (hy rfl)]; exact hg) ((y_ae f2 rfl).trans ((y_ae f rfl).trans gf)) (Or.inl ⟨rfl, rfl⟩)
    | false =>
      refine w_go z_hl [] [84, 86] 30 e.1 ?_
      refine ⟨fun _ => fun H hH => ?_, fun z => absurd z (by decide)⟩
      have f : y_fr h H [] [] := y_st e hH (by repeat (first | exact w_nil | refine w_cons (Or.inl (y_m rfl)) ?_ | refine w_cons (Or.inr (by assumption)) ?_)) (by repeat (first | exact w_nil | refine w_cons (Or.inl (y_m rfl)) ?_ | refine w_cons (Or.inr (by assumption)) ?_))
      refine c_gv0 (d := d) n0 n10 hs hs2 (tx_s_fr s f rfl rfl) ((y_ae f rfl).trans gf) (fun b q k H2 fr' f2 s3 hg g3 hf => ⟨fun n e => (by cases e), ?_⟩)
      exact T25 (Or.inr rfl) (y_sq (y_mo f rfl rfl) f2 rfl rfl) s3 (by rw [pr_tm_0 (hn rfl)]; exact hg) g3 (Or.inr hf)
  have T4 : ∀ {G : aH} {cI : Int32}, y_fr h G [] [] → cI.toInt = pr_k (y_N sg) t p → aOK s_P X (d + 4) a_m81 4 [some (.ref 14), some (.ref 17), some (.int sI)] [.int cI] G C S K0 := by
    intro G cI e hc
    refine w_go z_hl [] [83] 20 e.1 ?_
    intro H hH
    have f : y_fr h H [] [] := y_st e hH (by repeat (first | exact w_nil | refine w_cons (Or.inl (y_m rfl)) ?_ | refine w_cons (Or.inr (by assumption)) ?_)) (by repeat (first | exact w_nil | refine w_cons (Or.inl (y_m rfl)) ?_ | refine w_cons (Or.inr (by assumption)) ?_))
    refine c_isDg (c := cI) f.1 (fun H2 f2 w => ⟨fun n e => (by cases e), ?_⟩) (fun H2 f2 w => ⟨fun n e => (by cases e), ?_⟩)
    · exact T7 true (y_sq f f2 rfl rfl) (fun _ => ⟨by omega, by omega⟩) (fun z => absurd z (by decide))
    · exact T7 false (y_sq f f2 rfl rfl) (fun z => absurd z (by decide)) (fun _ z => w ⟨by have := z.1; omega, by have := z.2; omega⟩)
  refine w_go z_hl [] [82] 20 hr ?_
  intro H hH
  have f : y_fr h H [] [] := y_st (y_rf hr) hH (by repeat (first | exact w_nil | refine w_cons (Or.inl (y_m rfl)) ?_ | refine w_cons (Or.inr (by assumption)) ?_)) (by repeat (first | exact w_nil | refine w_cons (Or.inl (y_m rfl)) ?_ | refine w_cons (Or.inr (by assumption)) ?_))
  refine c_lkT (tx_s_fr s f rfl rfl) (fun r H2 f2 er => ⟨fun n e => (by cases e), ?_⟩)
  exact T4 (y_sq f f2 rfl rfl) er
theorem c_isNum0 (hr : w_hr z_D h) {fr : List Int32} (gf : w_a h 17 = some (0, .inl fr)) (hK : ∀ (H : aH), y_fr h H [] [] → K0 (some (.int (y_01 (decide (y_N fr 0 = -1))))) H C S) : aOK s_P X d a_m89 0 [some (.ref 17), some (.int (Int32.ofInt 0))] [] h C S K0 := by
  have m1 : (Int32.ofInt 2 * Int32.ofInt 0).toInt = ((0 : Nat) : Int) := by decide
  have cm := y_cl1 m1
  have cn : (Int32.ofInt (-1)).toInt = -1 := by decide
  refine w_go z_hl [] [] 30 hr ?_
  refine ⟨⟨by decide, by decide⟩, fun l hl len bb => ?_⟩
  obtain rfl := y_ai gf hl
  refine ⟨fun z => ⟨by decide, fun H hH => ?_⟩, fun z => ⟨by decide, fun H hH => ?_⟩⟩
  · have y1 : (fr.getD (Int32.ofInt 2 * Int32.ofInt 0).toNatClampNeg 0).toInt ≠ (Int32.ofInt (-1)).toInt := (y_ci .ne _ _).mp z
    rw [cm, cn] at y1
    have w := hK H (y_st (y_rf hr) hH (by repeat (first | exact w_nil | refine w_cons (Or.inl (y_m rfl)) ?_ | refine w_cons (Or.inr (by assumption)) ?_)) (by repeat (first | exact w_nil | refine w_cons (Or.inl (y_m rfl)) ?_ | refine w_cons (Or.inr (by assumption)) ?_)))
    rw [decide_eq_false (show ¬ (y_N fr 0 = -1) from y1)] at w
    exact w
  · have y1 : ¬ ((fr.getD (Int32.ofInt 2 * Int32.ofInt 0).toNatClampNeg 0).toInt ≠ (Int32.ofInt (-1)).toInt) := y_cif z
    rw [cm, cn] at y1
    have w := hK H (y_st (y_rf hr) hH (by repeat (first | exact w_nil | refine w_cons (Or.inl (y_m rfl)) ?_ | refine w_cons (Or.inr (by assumption)) ?_)) (by repeat (first | exact w_nil | refine w_cons (Or.inl (y_m rfl)) ?_ | refine w_cons (Or.inr (by assumption)) ?_)))
    rw [decide_eq_true (show y_N fr 0 = -1 from Decidable.not_not.mp y1)] at w
    exact w
theorem c_first0 (n0 : 0 ≤ nd.toInt) (n10 : nd.toInt ≤ 10) (s : tx_s nd h sg t 0) {fr : List Int32} (gf : w_a h 17 = some (0, .inl fr)) (hf0 : y_N fr 0 = -1) (hf1 : y_N fr 1 = -1) (yes : ∀ (q k : Nat) (H : aH) (rel : Int32) (fr' : List Int32), y_fr h H [1538, 1922] [17, 18, 19, 20, 21] → tx_s nd H sg t (q + 1) → pr_tm (y_N sg) t nd.toInt 0 = (true, q, k) → w_f H 1922 = some (.int rel) → w_a H 17 = some (0, .inl fr') → ((pr_k (y_N sg) t q = 126 ∧ k = 1) ∧ rel.toInt = 126) ∨ (¬ (pr_k (y_N sg) t q = 126 ∧ k = 1) ∧ (pr_k (y_N sg) t q = 61 ∨ pr_k (y_N sg) t q = 60 ∨ pr_k (y_N sg) t q = 62) ∧ rel.toInt ≠ 126) → K0 (some (.int (y_01 true))) H C S) (no : ∀ (q : Nat) (H : aH), y_fr h H [1538, 1922] [17, 18, 19, 20, 21] → tx_s nd H sg t q → pr_sy (y_N sg) t nd.toInt = (false, q) → K0 (some (.int (y_01 false))) H C S) : aOK s_P X (d + 5) a_m80 0 [some (.ref 14), some (.ref 17), none, none] [] h C S K0 := by
  have hr := (tx_s_hr s).1
  have c126 : ((Int8.ofInt 126).toInt32).toInt = 126 := by decide
  have c61 : ((Int8.ofInt 61).toInt32).toInt = 61 := by decide
  have c60 : ((Int8.ofInt 60).toInt32).toInt = 60 := by decide
  have c62 : ((Int8.ofInt 62).toInt32).toInt = 62 := by decide
  have cn : (Int32.ofInt (-1)).toInt = -1 := by decide
  have T70 : ∀ {G : aH} {q k : Nat} {cI : Int32} {p3 : Option Value} {fr' : List Int32}, y_fr h G [1538, 1922] [17, 18, 19, 20, 21] → tx_s nd G sg t q → q < t → pr_tm (y_N sg) t nd.toInt 0 = (true, q, k) → w_a G 17 = some (0, .inl fr') → cI.toInt = pr_k (y_N sg) t q → 0 ≤ cI.toInt → cI.toInt ≤ 65535 → ((pr_k (y_N sg) t q = 126 ∧ k = 1) ∨ (¬ (pr_k (y_N sg) t q = 126 ∧ k = 1) ∧ (pr_k (y_N sg) t q = 61 ∨ pr_k (y_N sg) t q = 60 ∨ pr_k (y_N sg) t q = 62))) → aOK s_P X (d + 5) a_m80 70 [some (.ref 14), some (.ref 17), some (.int cI), p3] [] G C S K0 := by
    intro G q k cI p3 fr' e s2 qt ht g2 hc c0 c65 hw
    obtain ⟨toJ, atJ, -, b1, b2, b3, b4, b5, b6, -, t40⟩ := id s2
    have inc : (atJ + Int32.ofInt 1).toInt = ((q + 1 : Nat) : Int) := by rw [y_inc (by omega), b5]; rfl
    refine w_go z_hl [] [] 40 e.1 ?_
    refine ⟨y_fitC c0 c65, y_zini c0 c65, ?_⟩
    intro x hx _ _
    obtain rfl := y_fi b4 hx
    refine ⟨rfl, y_zini (by show 0 ≤ (atJ + Int32.ofInt 1).toInt; omega) (by show (atJ + Int32.ofInt 1).toInt ≤ 40; omega), by decide, fun H hH => ?_⟩
    have f : y_fr G H [1538, 1922] [] := y_st (y_mo (y_rf e.1) rfl rfl) hH (by repeat (first | exact w_nil | refine w_cons (Or.inl (y_m rfl)) ?_ | refine w_cons (Or.inr (by assumption)) ?_)) (by repeat (first | exact w_nil | refine w_cons (Or.inl (y_m rfl)) ?_ | refine w_cons (Or.inr (by assumption)) ?_))
    have s3 : tx_s nd H sg t (q + 1) := ⟨toJ, _, f.1, (y_ae f rfl).trans b1, (y_fe f rfl).trans b2, b3, hH.2.1 1538 _ rfl, inc, (y_fe f rfl).trans b6, by omega, t40⟩
    refine yes q k H cI fr' (y_sq e f rfl rfl) s3 ht (hH.2.1 1922 _ rfl) ((y_ae f rfl).trans g2) ?_
    rcases hw with w | ⟨w, w2⟩
    · exact Or.inl ⟨w, by rw [hc]; exact w.1⟩
    · refine Or.inr ⟨w, w2, ?_⟩
      rw [hc]
      rcases w2 with w3 | w3 | w3
      · omega
      · omega
      · omega
  have T45 : ∀ {G : aH} {q k : Nat} {cI : Int32} {fr' : List Int32} (b : Bool), y_fr h G [1538, 1922] [17, 18, 19, 20, 21] → tx_s nd G sg t q → pr_tm (y_N sg) t nd.toInt 0 = (true, q, k) → w_a G 17 = some (0, .inl fr') → cI.toInt = pr_k (y_N sg) t q → 0 ≤ cI.toInt → cI.toInt ≤ 65535 → (b = true → pr_k (y_N sg) t q = 126 ∧ k = 1) → (b = false → ¬ (pr_k (y_N sg) t q = 126 ∧ k = 1)) → aOK s_P X (d + 5) a_m80 45 [some (.ref 14), some (.ref 17), some (.int cI), none] [.int (y_01 b)] G C S K0 := by
    intro G q k cI fr' b e s2 ht g2 hc c0 c65 hy hn
    have f0 : y_fr G G [] [] := y_rf e.1
    have go : ∀ {H : aH} {p3 : Option Value}, y_fr G H [] [] → q < t → ((pr_k (y_N sg) t q = 126 ∧ k = 1) ∨ (¬ (pr_k (y_N sg) t q = 126 ∧ k = 1) ∧ (pr_k (y_N sg) t q = 61 ∨ pr_k (y_N sg) t q = 60 ∨ pr_k (y_N sg) t q = 62))) → aOK s_P X (d + 5) a_m80 70 [some (.ref 14), some (.ref 17), some (.int cI), p3] [] H C S K0 := fun f qt w => T70 (y_sq e f rfl rfl) (tx_s_fr s2 f rfl rfl) qt ht ((y_ae f rfl).trans g2) hc c0 c65 w
    have q61 : cI.toInt = 61 → ¬ (pr_k (y_N sg) t q = 126 ∧ k = 1) := fun z w => by have := w.1; omega
    have q60 : cI.toInt = 60 → ¬ (pr_k (y_N sg) t q = 126 ∧ k = 1) := fun z w => by have := w.1; omega
    have q62 : cI.toInt = 62 → ¬ (pr_k (y_N sg) t q = 126 ∧ k = 1) := fun z w => by have := w.1; omega
    cases b with
    | true =>
      refine w_go z_hl [70] [] 40 e.1 ?_
      refine ⟨fun z => fun H hH => ?_, fun z => ⟨fun z2 => fun H hH => ?_, fun z2 => ⟨fun z3 => fun H hH => ?_, fun z3 => ⟨fun _ => fun H hH => ?_, fun z4 => absurd z4 (by decide)⟩⟩⟩⟩
      · have y1 : cI.toInt = ((Int8.ofInt 61).toInt32).toInt := (y_ci .eq _ _).mp z
        rw [c61] at y1
        exact go (y_st f0 hH (by repeat (first | exact w_nil | refine w_cons (Or.inl (y_m rfl)) ?_ | refine w_cons (Or.inr (by assumption)) ?_)) (by repeat (first | exact w_nil | refine w_cons (Or.inl (y_m rfl)) ?_ | refine w_cons (Or.inr (by assumption)) ?_))) (pr_k_t (c := 61) (by decide) (hc.symm.trans y1)) (Or.inr ⟨q61 y1, Or.inl (hc.symm.trans y1)⟩)
      · have y1 : cI.toInt = ((Int8.ofInt 60).toInt32).toInt := (y_ci .eq _ _).mp z2
        rw [c60] at y1
        exact go (y_st f0 hH (by repeat (first | exact w_nil | refine w_cons (Or.inl (y_m rfl)) ?_ | refine w_cons (Or.inr (by assumption)) ?_)) (by repeat (first | exact w_nil | refine w_cons (Or.inl (y_m rfl)) ?_ | refine w_cons (Or.inr (by assumption)) ?_))) (pr_k_t (c := 60) (by decide) (hc.symm.trans y1)) (Or.inr ⟨q60 y1, Or.inr (Or.inl (hc.symm.trans y1))⟩)
      · have y1 : cI.toInt = ((Int8.ofInt 62).toInt32).toInt := (y_ci .eq _ _).mp z3
        rw [c62] at y1
        exact go (y_st f0 hH (by repeat (first | exact w_nil | refine w_cons (Or.inl (y_m rfl)) ?_ | refine w_cons (Or.inr (by assumption)) ?_)) (by repeat (first | exact w_nil | refine w_cons (Or.inl (y_m rfl)) ?_ | refine w_cons (Or.inr (by assumption)) ?_))) (pr_k_t (c := 62) (by decide) (hc.symm.trans y1)) (Or.inr ⟨q62 y1, Or.inr (Or.inr (hc.symm.trans y1))⟩)
      · exact go (y_st f0 hH (by repeat (first | exact w_nil | refine w_cons (Or.inl (y_m rfl)) ?_ | refine w_cons (Or.inr (by assumption)) ?_)) (by repeat (first | exact w_nil | refine w_cons (Or.inl (y_m rfl)) ?_ | refine w_cons (Or.inr (by assumption)) ?_))) (pr_k_t (c := 126) (by decide) (hy rfl).1) (Or.inl (hy rfl))
    | false =>
      refine w_go z_hl [70] [] 40 e.1 ?_
      refine ⟨fun z => fun H hH => ?_, fun z => ⟨fun z2 => fun H hH => ?_, fun z2 => ⟨fun z3 => fun H hH => ?_, fun z3 => ⟨fun z4 => absurd z4 (by decide), fun _ => ⟨by decide, fun H hH => ?_⟩⟩⟩⟩⟩
      · have y1 : cI.toInt = ((Int8.ofInt 61).toInt32).toInt := (y_ci .eq _ _).mp z
        rw [c61] at y1
        exact go (y_st f0 hH (by repeat (first | exact w_nil | refine w_cons (Or.inl (y_m rfl)) ?_ | refine w_cons (Or.inr (by assumption)) ?_)) (by repeat (first | exact w_nil | refine w_cons (Or.inl (y_m rfl)) ?_ | refine w_cons (Or.inr (by assumption)) ?_))) (pr_k_t (c := 61) (by decide) (hc.symm.trans y1)) (Or.inr ⟨q61 y1, Or.inl (hc.symm.trans y1)⟩)
      · have y1 : cI.toInt = ((Int8.ofInt 60).toInt32).toInt := (y_ci .eq _ _).mp z2
        rw [c60] at y1
        exact go (y_st f0 hH (by repeat (first | exact w_nil | refine w_cons (Or.inl (y_m rfl)) ?_ | refine w_cons (Or.inr (by assumption)) ?_)) (by repeat (first | exact w_nil | refine w_cons (Or.inl (y_m rfl)) ?_ | refine w_cons (Or.inr (by assumption)) ?_))) (pr_k_t (c := 60) (by decide) (hc.symm.trans y1)) (Or.inr ⟨q60 y1, Or.inr (Or.inl (hc.symm.trans y1))⟩)
      · have y1 : cI.toInt = ((Int8.ofInt 62).toInt32).toInt := (y_ci .eq _ _).mp z3
        rw [c62] at y1
        exact go (y_st f0 hH (by repeat (first | exact w_nil | refine w_cons (Or.inl (y_m rfl)) ?_ | refine w_cons (Or.inr (by assumption)) ?_)) (by repeat (first | exact w_nil | refine w_cons (Or.inl (y_m rfl)) ?_ | refine w_cons (Or.inr (by assumption)) ?_))) (pr_k_t (c := 62) (by decide) (hc.symm.trans y1)) (Or.inr ⟨q62 y1, Or.inr (Or.inr (hc.symm.trans y1))⟩)
      · have y1 : ¬ (cI.toInt = ((Int8.ofInt 61).toInt32).toInt) := y_cif z
        have y2 : ¬ (cI.toInt = ((Int8.ofInt 60).toInt32).toInt) := y_cif z2
        have y3 : ¬ (cI.toInt = ((Int8.ofInt 62).toInt32).toInt) := y_cif z3
        rw [c61, hc] at y1
        rw [c60, hc] at y2
        rw [c62, hc] at y3
        have f : y_fr G H [] [] := y_st f0 hH (by repeat (first | exact w_nil | refine w_cons (Or.inl (y_m rfl)) ?_ | refine w_cons (Or.inr (by assumption)) ?_)) (by repeat (first | exact w_nil | refine w_cons (Or.inl (y_m rfl)) ?_ | refine w_cons (Or.inr (by assumption)) ?_))
        exact no q H (y_sq e f rfl rfl) (tx_s_fr s2 f rfl rfl) (pr_sy_x ht (hn rfl) (fun w => by rcases w with w | w | w; exact y1 w; exact y2 w; exact y3 w))
  have T27 : ∀ {G : aH} {q k : Nat} {cI : Int32} {fr' : List Int32} (b : Bool), y_fr h G [1538, 1922] [17, 18, 19, 20, 21] → tx_s nd G sg t q → pr_tm (y_N sg) t nd.toInt 0 = (true, q, k) → w_a G 17 = some (0, .inl fr') → cI.toInt = pr_k (y_N sg) t q → 0 ≤ cI.toInt → cI.toInt ≤ 65535 → pr_k (y_N sg) t q = 126 → (b = true → k = 0) → (b = false → k ≠ 0 ∧ (k = 1 → y_N fr' 1 = -1) ∧ (k ≠ 1 → 0 ≤ y_N fr' 1)) → aOK s_P X (d + 5) a_m80 27 [some (.ref 14), some (.ref 17), some (.int cI), none] [.int (y_01 b)] G C S K0 := by
    intro G q k cI fr' b e s2 ht g2 hc c0 c65 h126 hy hn
    have f0 : y_fr G G [] [] := y_rf e.1
    cases b with
    | true =>
      refine w_go z_hl [45] [] 30 e.1 ?_
      refine ⟨fun _ => fun H hH => ?_, fun z => absurd z (by decide)⟩
      have f : y_fr G H [] [] := y_st f0 hH (by repeat (first | exact w_nil | refine w_cons (Or.inl (y_m rfl)) ?_ | refine w_cons (Or.inr (by assumption)) ?_)) (by repeat (first | exact w_nil | refine w_cons (Or.inl (y_m rfl)) ?_ | refine w_cons (Or.inr (by assumption)) ?_))
      exact T45 false (y_sq e f rfl rfl) (tx_s_fr s2 f rfl rfl) ht ((y_ae f rfl).trans g2) hc c0 c65 (fun w => absurd w (by decide)) (fun _ w => by have := hy rfl; omega)
    | false =>
      obtain ⟨k0, k1, k2⟩ := hn rfl
      have i1 : (Int32.ofInt 1).toInt = ((1 : Nat) : Int) := by decide
      have ci1 := y_cl1 i1
      refine w_go z_hl [45] [] 30 e.1 ?_
      refine ⟨fun z => absurd z (by decide), fun _ => ⟨⟨by decide, by decide⟩, fun l hl len bb => ?_⟩⟩
      obtain rfl := y_ai g2 hl
      refine ⟨fun z => fun H hH => ?_, fun z => fun H hH => ?_⟩
      · have y1 : (fr'.getD (Int32.ofInt 1).toNatClampNeg 0).toInt ≠ (Int32.ofInt (-1)).toInt := (y_ci .ne _ _).mp z
        rw [ci1, cn] at y1
        have y2 : y_N fr' 1 ≠ -1 := y1
        have f : y_fr G H [] [] := y_st f0 hH (by repeat (first | exact w_nil | refine w_cons (Or.inl (y_m rfl)) ?_ | refine w_cons (Or.inr (by assumption)) ?_)) (by repeat (first | exact w_nil | refine w_cons (Or.inl (y_m rfl)) ?_ | refine w_cons (Or.inr (by assumption)) ?_))
        exact T45 false (y_sq e f rfl rfl) (tx_s_fr s2 f rfl rfl) ht ((y_ae f rfl).trans g2) hc c0 c65 (fun w => absurd w (by decide)) (fun _ w => y2 (k1 w.2))
      · have y1 : ¬ ((fr'.getD (Int32.ofInt 1).toNatClampNeg 0).toInt ≠ (Int32.ofInt (-1)).toInt) := y_cif z
        rw [ci1, cn] at y1
        have y2 : y_N fr' 1 = -1 := Decidable.not_not.mp y1
        have f : y_fr G H [] [] := y_st f0 hH (by repeat (first | exact w_nil | refine w_cons (Or.inl (y_m rfl)) ?_ | refine w_cons (Or.inr (by assumption)) ?_)) (by repeat (first | exact w_nil | refine w_cons (Or.inl (y_m rfl)) ?_ | refine w_cons (Or.inr (by assumption)) ?_))
        refine T45 true (y_sq e f rfl rfl) (tx_s_fr s2 f rfl rfl) ht ((y_ae f rfl).trans g2) hc c0 c65 (fun _ => ⟨h126, ?_⟩) (fun w => absurd w (by decide))
        rcases Nat.decEq k 1 with w | w
        · have := k2 w
          omega
        · exact w
  have T15 : ∀ {G : aH} {q k : Nat} {cI : Int32} {fr' : List Int32}, y_fr h G [1538, 1922] [17, 18, 19, 20, 21] → tx_s nd G sg t q → pr_tm (y_N sg) t nd.toInt 0 = (true, q, k) → w_a G 17 = some (0, .inl fr') → (k = 0 ∧ fr' = fr) ∨ tx_f fr fr' 0 k → cI.toInt = pr_k (y_N sg) t q → 0 ≤ cI.toInt → cI.toInt ≤ 65535 → aOK s_P X (d + 5) a_m80 15 [some (.ref 14), some (.ref 17), none, none] [.int cI] G C S K0 := by
    intro G q k cI fr' e s2 ht g2 hf hc c0 c65
    have f0 : y_fr G G [] [] := y_rf e.1
    refine w_go z_hl [45] [89] 30 e.1 ?_
    refine ⟨fun z => fun H hH => ?_, fun z => fun H hH => ?_⟩
    · have y1 : cI.toInt ≠ ((Int8.ofInt 126).toInt32).toInt := (y_ci .ne _ _).mp z
      rw [c126, hc] at y1
      have f : y_fr G H [] [] := y_st f0 hH (by repeat (first | exact w_nil | refine w_cons (Or.inl (y_m rfl)) ?_ | refine w_cons (Or.inr (by assumption)) ?_)) (by repeat (first | exact w_nil | refine w_cons (Or.inl (y_m rfl)) ?_ | refine w_cons (Or.inr (by assumption)) ?_))
      exact T45 false (y_sq e f rfl rfl) (tx_s_fr s2 f rfl rfl) ht ((y_ae f rfl).trans g2) hc c0 c65 (fun w => absurd w (by decide)) (fun _ w => y1 w.1)
    · have y1 : ¬ (cI.toInt ≠ ((Int8.ofInt 126).toInt32).toInt) := y_cif z
      rw [c126, hc] at y1
      have y2 : pr_k (y_N sg) t q = 126 := Decidable.not_not.mp y1
      have f : y_fr G H [] [] := y_st f0 hH (by repeat (first | exact w_nil | refine w_cons (Or.inl (y_m rfl)) ?_ | refine w_cons (Or.inr (by assumption)) ?_)) (by repeat (first | exact w_nil | refine w_cons (Or.inl (y_m rfl)) ?_ | refine w_cons (Or.inr (by assumption)) ?_))
      refine c_isNum0 f.1 ((y_ae f rfl).trans g2) (fun H2 f2 => ⟨fun n e => (by cases e), ?_⟩)
      have e3 := y_sq (y_sq e f rfl rfl) f2 rfl rfl
      have s3 := tx_s_fr (tx_s_fr s2 f rfl rfl) f2 rfl rfl
      have g3 := (y_ae f2 rfl).trans ((y_ae f rfl).trans g2)
      rcases hf with ⟨hf, hf'⟩ | ⟨hf, hg, hh, hi⟩
      · rw [decide_eq_true (show y_N fr' 0 = -1 by rw [hf']; exact hf0)]
        exact T27 true e3 s3 ht g3 hc c0 c65 y2 (fun _ => hf) (fun w => absurd w (by decide))
      · have hg' : 0 ≤ y_N fr' 0 := hg
        rw [decide_eq_false (show ¬ (y_N fr' 0 = -1) by omega)]
        refine T27 false e3 s3 ht g3 hc c0 c65 y2 (fun w => absurd w (by decide)) (fun _ => ⟨by omega, fun w => ?_, fun w => ?_⟩)
        · rw [hh w 1 (by decide)]
          exact hf1
        · exact (hi (by omega)).1
  have T6 : ∀ {G : aH} {q k : Nat} {fr' : List Int32} (b : Bool), y_fr h G [1538, 1922] [17, 18, 19, 20, 21] → tx_s nd G sg t q → pr_tm (y_N sg) t nd.toInt 0 = (b, q, k) → w_a G 17 = some (0, .inl fr') → (k = 0 ∧ fr' = fr) ∨ tx_f fr fr' 0 k → aOK s_P X (d + 5) a_m80 6 [some (.ref 14), some (.ref 17), none, none] [.int (y_01 b)] G C S K0 := by
    intro G q k fr' b e s2 ht g2 hf
    cases b with
    | true =>
      refine w_go z_hl [] [82] 30 e.1 ?_
      refine ⟨fun _ => fun H hH => ?_, fun z => absurd z (by decide)⟩
      have f : y_fr G H [] [] := y_st (y_rf e.1) hH (by repeat (first | exact w_nil | refine w_cons (Or.inl (y_m rfl)) ?_ | refine w_cons (Or.inr (by assumption)) ?_)) (by repeat (first | exact w_nil | refine w_cons (Or.inl (y_m rfl)) ?_ | refine w_cons (Or.inr (by assumption)) ?_))
      obtain ⟨sg', z1, z2, z3⟩ := w_arrI f.1 (o := 13) (t := 3) (n := 60) (lo := 0) (hi := 65535) (by decide) rfl
      have kb : 0 ≤ pr_k (y_N sg) t q ∧ pr_k (y_N sg) t q ≤ 65535 := by
        obtain ⟨-, -, -, b1, -, -, -, -, -, -, t40⟩ := tx_s_fr s2 f rfl rfl
        have e4 := w_a_at z1
        rw [b1] at e4
        obtain rfl : sg = sg' := by
          injection e4 with e5
          injection e5 with _ e6
          injection e6
        by_cases w : q < t
        · rw [pr_k_1 w]
          exact z3 _ (z_gd (0 : Int32) (show q < sg.length by omega))
        · rw [show pr_k (y_N sg) t q = 0 from if_neg w]
          decide
      refine c_lkT (tx_s_fr s2 f rfl rfl) (fun r H2 f2 er => ⟨fun n e => (by cases e), ?_⟩)
      exact T15 (y_sq (y_sq e f rfl rfl) f2 rfl rfl) (tx_s_fr (tx_s_fr s2 f rfl rfl) f2 rfl rfl) ht ((y_ae f2 rfl).trans ((y_ae f rfl).trans g2)) hf er (by omega) (by omega)
    | false =>
      refine w_go z_hl [] [82] 30 e.1 ?_
      refine ⟨fun z => absurd z (by decide), fun _ => ⟨by decide, fun H hH => ?_⟩⟩
      have f : y_fr G H [] [] := y_st (y_rf e.1) hH (by repeat (first | exact w_nil | refine w_cons (Or.inl (y_m rfl)) ?_ | refine w_cons (Or.inr (by assumption)) ?_)) (by repeat (first | exact w_nil | refine w_cons (Or.inl (y_m rfl)) ?_ | refine w_cons (Or.inr (by assumption)) ?_))
      exact no q H (y_sq e f rfl rfl) (tx_s_fr s2 f rfl rfl) (pr_sy_n ht)
  refine w_go z_hl [] [81] 20 hr ?_
  intro H hH
  have f : y_fr h H [] [] := y_st (y_rf hr) hH (by repeat (first | exact w_nil | refine w_cons (Or.inl (y_m rfl)) ?_ | refine w_cons (Or.inr (by assumption)) ?_)) (by repeat (first | exact w_nil | refine w_cons (Or.inl (y_m rfl)) ?_ | refine w_cons (Or.inr (by assumption)) ?_))
  refine c_tm0 (d := d) (sd := 0) n0 n10 (by decide) (by decide) (tx_s_fr s f rfl rfl) ((y_ae f rfl).trans gf) (fun b q k H2 fr' f2 s3 ht g3 hf => ⟨fun n e => (by cases e), ?_⟩)
  exact T6 b (y_sq (y_mo f rfl rfl) f2 rfl rfl) s3 ht g3 hf
theorem c_second0 (n0 : 0 ≤ nd.toInt) (n10 : nd.toInt ≤ 10) (s : tx_s nd h sg t p) {rel : Int32} (gr : w_f h 1922 = some (.int rel)) (hK : ∀ (b : Bool) (q k : Nat) (H : aH), y_fr h H [1538] [17, 18, 19, 20, 21] → tx_s nd H sg t q → (rel.toInt = 126 → pr_gv (y_N sg) t nd.toInt p = (b, q, k)) → (rel.toInt ≠ 126 → pr_tm (y_N sg) t nd.toInt p = (b, q, k)) → K0 (some (.int (y_01 b))) H C S) : aOK s_P X (d + 5) a_m90 0 [some (.ref 14), some (.ref 17)] [] h C S K0 := by
  have hr := (tx_s_hr s).1
  have c126 : ((Int8.ofInt 126).toInt32).toInt = 126 := by decide
  obtain ⟨fr, gf, -, -⟩ := c_arr hr (ob := 17) (n := 4) (lo := -1) (hi := 40) rfl
  have T22 : ∀ {G : aH} {b : Bool} {q k pc : Nat}, (pc = 13 ∨ pc = 22) → y_fr h G [1538] [17, 18, 19, 20, 21] → tx_s nd G sg t q → (rel.toInt = 126 → pr_gv (y_N sg) t nd.toInt p = (b, q, k)) → (rel.toInt ≠ 126 → pr_tm (y_N sg) t nd.toInt p = (b, q, k)) → aOK s_P X (d + 5) a_m90 pc [some (.ref 14), some (.ref 17)] [.int (y_01 b)] G C S K0 := by
    intro G b q k pc hpc e s2 h1 h2
    rcases hpc with rfl | rfl
    · refine w_go z_hl [] [] 20 e.1 ?_
      refine ⟨y_01b b, fun H hH => ?_⟩
      have f : y_fr G H [] [] := y_st (y_rf e.1) hH (by repeat (first | exact w_nil | refine w_cons (Or.inl (y_m rfl)) ?_ | refine w_cons (Or.inr (by assumption)) ?_)) (by repeat (first | exact w_nil | refine w_cons (Or.inl (y_m rfl)) ?_ | refine w_cons (Or.inr (by assumption)) ?_))
      exact hK b q k H (y_sq e f rfl rfl) (tx_s_fr s2 f rfl rfl) h1 h2
    · refine w_go z_hl [] [] 20 e.1 ?_
      refine ⟨y_01b b, fun H hH => ?_⟩
      have f : y_fr G H [] [] := y_st (y_rf e.1) hH (by repeat (first | exact w_nil | refine w_cons (Or.inl (y_m rfl)) ?_ | refine w_cons (Or.inr (by assumption)) ?_)) (by repeat (first | exact w_nil | refine w_cons (Or.inl (y_m rfl)) ?_ | refine w_cons (Or.inr (by assumption)) ?_))
      exact hK b q k H (y_sq e f rfl rfl) (tx_s_fr s2 f rfl rfl) h1 h2
  refine w_go z_hl [] [81, 86] 40 hr ?_
  intro x hx _ _
  obtain rfl := y_fi gr hx
  refine ⟨fun z => ⟨by decide, ⟨fun _ => fun H hH => ?_, fun z2 => absurd z2 (by decide)⟩⟩, fun z => ⟨by decide, ⟨fun z2 => absurd z2 (by decide), fun _ => fun H hH => ?_⟩⟩⟩
  · have y1 : rel.toInt ≠ ((Int8.ofInt 126).toInt32).toInt := (y_ci .ne _ _).mp z
    rw [c126] at y1
    have f : y_fr h H [] [] := y_st (y_rf hr) hH (by repeat (first | exact w_nil | refine w_cons (Or.inl (y_m rfl)) ?_ | refine w_cons (Or.inr (by assumption)) ?_)) (by repeat (first | exact w_nil | refine w_cons (Or.inl (y_m rfl)) ?_ | refine w_cons (Or.inr (by assumption)) ?_))
    refine c_tm0 (d := d) (sd := 1) n0 n10 (by decide) (by decide) (tx_s_fr s f rfl rfl) ((y_ae f rfl).trans gf) (fun b q k H2 fr' f2 s3 ht g3 hf => ⟨fun n e => (by cases e), ?_⟩)
    exact T22 (k := k) (Or.inr rfl) (y_sq (y_mo f rfl rfl) f2 rfl rfl) s3 (fun w => absurd w y1) (fun _ => ht)
  · have y1 : ¬ (rel.toInt ≠ ((Int8.ofInt 126).toInt32).toInt) := y_cif z
    rw [c126] at y1
    have f : y_fr h H [] [] := y_st (y_rf hr) hH (by repeat (first | exact w_nil | refine w_cons (Or.inl (y_m rfl)) ?_ | refine w_cons (Or.inr (by assumption)) ?_)) (by repeat (first | exact w_nil | refine w_cons (Or.inl (y_m rfl)) ?_ | refine w_cons (Or.inr (by assumption)) ?_))
    refine c_gv0 (d := d + 1) (sd := 1) n0 n10 (by decide) (by decide) (tx_s_fr s f rfl rfl) ((y_ae f rfl).trans gf) (fun b q k H2 fr' f2 s3 hg g3 hf => ⟨fun n e => (by cases e), ?_⟩)
    exact T22 (k := k) (Or.inl rfl) (y_sq (y_mo f rfl rfl) f2 rfl rfl) s3 (fun _ => hg) (fun w => absurd w y1)
end PFS0
end PT33ibo
section PT33ibp
/-! ===== v21: parse of the class with saying 0 (laid by wip/tools/mk21f.py) ===== -/
section PPS0
variable {X : aX} {C S d : Nat} {K0 : Option Value → aH → Nat → Nat → Prop} {sg : List Int32} {nd len : Int32} {h : aH}
theorem c_parse0 (hr : w_hr z_D h) (n0 : 0 ≤ nd.toInt) (n10 : nd.toInt ≤ 10) (l0 : 0 ≤ len.toInt) (l60 : len.toInt ≤ 60) (gs : w_a h 13 = some (3, .inl sg)) (hK : ∀ (r : Int32) (H : aH), y_fr h H [1538, 1539, 1540, 1921, 1922] [16, 17, 18, 19, 20, 21] → r.toInt = pr_wr (y_N sg) len.toInt.toNat nd.toInt → (pr_sy (y_N sg) (pr_t len.toInt.toNat) nd.toInt).2 ≤ pr_t len.toInt.toNat → K0 (some (.int r)) H C S) : aOK s_P X (d + 6) a_m78 0 [some (.ref 14), some (.int len), some (.int nd), some (.ref 17), none] [] h C S K0 := by
  have c40 : ((Int8.ofInt 40).toInt32).toInt = 40 := by decide
  have tl := pr_t_le (len := len.toInt.toNat)
  -- the end: whole or not
  have T56 : ∀ {G : aH} {q : Nat} (b : Bool), y_fr h G [1538, 1539, 1540, 1921, 1922] [17, 18, 19, 20, 21] → tx_s nd G sg (pr_t len.toInt.toNat) q → (pr_sy (y_N sg) (pr_t len.toInt.toNat) nd.toInt).2 = q → pr_wh (y_N sg) (pr_t len.toInt.toNat) nd.toInt = b → aOK s_P X (d + 6) a_m78 56 [some (.ref 14), some (.int len), some (.int nd), some (.ref 17), none] [.int (y_01 b)] G C S K0 := by
    intro G q b e s hq hb
    obtain ⟨toI, atI, -, a1, a2, a3, a4, a5, a6, pt, t40⟩ := id s
    have f0 : y_fr G G [] [] := y_rf e.1
    have out : ∀ {H : aH} {r : Int32}, y_fr G H [] [] → r.toInt = pr_wr (y_N sg) len.toInt.toNat nd.toInt → K0 (some (.int r)) H C S := fun f er => hK _ _ (y_mo (y_sq e f rfl rfl) rfl rfl) er (by omega)
    cases b with
    | true =>
      have ew : pr_wr (y_N sg) len.toInt.toNat nd.toInt = if 40 < len.toInt.toNat then 40 else -1 := if_pos hb
      have T97 : ∀ {H : aH}, y_fr G H [] [] → ¬ (40 < len.toInt.toNat) → aOK s_P X (d + 6) a_m78 97 [some (.ref 14), some (.int len), some (.int nd), some (.ref 17), some (.int (y_01 true))] [] H C S K0 := by
        intro H f nl
        refine w_go z_hl [111] [] 30 f.1 ?_
        intro x hx _ _
        obtain rfl := y_fi ((y_fe f rfl).trans a2) hx
        intro H2 h2
        have f2 : y_fr G H2 [] [] := y_st f h2 (by repeat (first | exact w_nil | refine w_cons (Or.inl (y_m rfl)) ?_ | refine w_cons (Or.inr (by assumption)) ?_)) (by repeat (first | exact w_nil | refine w_cons (Or.inl (y_m rfl)) ?_ | refine w_cons (Or.inr (by assumption)) ?_))
        refine y_copy3 (o := 13) (dd := 16) (m := pr_t len.toInt.toNat) (n1 := 60) (n2 := 40) f2.1 a3 rfl rfl (by omega) (by omega) rfl rfl (by decide) (fun H3 f3 => ?_)
        show aOK s_P X (d + 6) a_m78 114 [some (.ref 14), some (.int len), some (.int nd), some (.ref 17), some (.int (y_01 true))] [] H3 C S K0
        have f4 : y_fr G H3 [] [16] := y_sq (y_mo f2 rfl rfl) f3 rfl rfl
        refine w_go z_hl [] [] 30 f3.1 ?_
        intro x hx x0 x40
        obtain rfl := y_fi ((y_fe f4 rfl).trans a2) hx
        refine ⟨rfl, y_zini x0 x40, fun H5 h5 => ?_⟩
        have f5 : y_fr H3 H5 [1921] [] := y_st (y_mo (y_rf f3.1) rfl rfl) h5 (by repeat (first | exact w_nil | refine w_cons (Or.inl (y_m rfl)) ?_ | refine w_cons (Or.inr (by assumption)) ?_)) (by repeat (first | exact w_nil | refine w_cons (Or.inl (y_m rfl)) ?_ | refine w_cons (Or.inr (by assumption)) ?_))
        refine hK _ H5 (y_sq (y_sq (y_mo e rfl rfl) f4 rfl rfl) f5 rfl rfl) ?_ (by omega)
        rw [ew, if_neg nl]
        decide
      refine w_go z_hl [97] [] 40 e.1 ?_
      refine ⟨fun _ => ⟨fun z => absurd z (by decide), fun _ => ?_⟩, fun z => absurd z (by decide)⟩
      intro x hx _ _
      obtain rfl := y_fi a2 hx
      refine ⟨fun z => fun H hH => ?_, fun z => fun H hH => ?_⟩
      · have y1 : len.toInt ≤ toI.toInt := (y_ci .le _ _).mp z
        exact T97 (y_st f0 hH (by repeat (first | exact w_nil | refine w_cons (Or.inl (y_m rfl)) ?_ | refine w_cons (Or.inr (by assumption)) ?_)) (by repeat (first | exact w_nil | refine w_cons (Or.inl (y_m rfl)) ?_ | refine w_cons (Or.inr (by assumption)) ?_))) (by omega)
      · have y1 : ¬ (len.toInt ≤ toI.toInt) := y_cif z
        have lt : 40 < len.toInt.toNat := by
          rcases Nat.lt_or_ge 40 len.toInt.toNat with w | w
          · exact w
          · have et : pr_t len.toInt.toNat = len.toInt.toNat := if_neg (by omega)
            omega
        have et : pr_t len.toInt.toNat = 40 := if_pos lt
        exact out (y_st f0 hH (by repeat (first | exact w_nil | refine w_cons (Or.inl (y_m rfl)) ?_ | refine w_cons (Or.inr (by assumption)) ?_)) (by repeat (first | exact w_nil | refine w_cons (Or.inl (y_m rfl)) ?_ | refine w_cons (Or.inr (by assumption)) ?_))) (by rw [ew, if_pos lt]; omega)
    | false =>
      have ew : pr_wr (y_N sg) len.toInt.toNat nd.toInt = (q : Nat) := by
        unfold pr_wr
        rw [if_neg (by rw [hb]; decide), hq]
      refine w_go z_hl [97] [] 40 e.1 ?_
      refine ⟨fun z => absurd z (by decide), fun _ => ?_⟩
      intro x hx _ _
      obtain rfl := y_fi a4 hx
      intro y hy _ _
      obtain rfl := y_fi a2 hy
      refine ⟨fun z => ⟨fun _ => fun H hH => ?_, fun z2 => absurd z2 (by decide)⟩, fun z => fun H hH => ?_⟩
      · have y1 : toI.toInt ≤ atI.toInt := (y_ci .ge _ _).mp z
        exact out (y_st f0 hH (by repeat (first | exact w_nil | refine w_cons (Or.inl (y_m rfl)) ?_ | refine w_cons (Or.inr (by assumption)) ?_)) (by repeat (first | exact w_nil | refine w_cons (Or.inl (y_m rfl)) ?_ | refine w_cons (Or.inr (by assumption)) ?_))) (by rw [ew]; omega)
      · exact out (y_st f0 hH (by repeat (first | exact w_nil | refine w_cons (Or.inl (y_m rfl)) ?_ | refine w_cons (Or.inr (by assumption)) ?_)) (by repeat (first | exact w_nil | refine w_cons (Or.inl (y_m rfl)) ?_ | refine w_cons (Or.inr (by assumption)) ?_))) (by rw [ew]; exact a5)
  have T37 : ∀ {G : aH} {q : Nat} (b : Bool), y_fr h G [1538, 1539, 1540, 1921, 1922] [17, 18, 19, 20, 21] → tx_s nd G sg (pr_t len.toInt.toNat) q → pr_sy (y_N sg) (pr_t len.toInt.toNat) nd.toInt = (b, q) → aOK s_P X (d + 6) a_m78 37 [some (.ref 14), some (.int len), some (.int nd), some (.ref 17), none] [.int (y_01 b)] G C S K0 := by
    intro G q b e s hs
    obtain ⟨toI, atI, -, a1, a2, a3, a4, a5, a6, pt, t40⟩ := id s
    have f0 : y_fr G G [] [] := y_rf e.1
    cases b with
    | true =>
      refine w_go z_hl [56] [] 40 e.1 ?_
      refine ⟨fun z => absurd z (by decide), fun _ => ?_⟩
      intro x hx _ _
      obtain rfl := y_fi a4 hx
      intro y hy _ _
      obtain rfl := y_fi a2 hy
      refine ⟨fun z => fun H hH => ?_, fun z => fun H hH => ?_⟩
      · have y1 : atI.toInt ≠ toI.toInt := (y_ci .ne _ _).mp z
        have f : y_fr G H [] [] := y_st f0 hH (by repeat (first | exact w_nil | refine w_cons (Or.inl (y_m rfl)) ?_ | refine w_cons (Or.inr (by assumption)) ?_)) (by repeat (first | exact w_nil | refine w_cons (Or.inl (y_m rfl)) ?_ | refine w_cons (Or.inr (by assumption)) ?_))
        refine T56 false (y_sq e f rfl rfl) (tx_s_fr s f rfl rfl) (by rw [hs]) ?_
        unfold pr_wh
        rw [hs]
        show (true && decide (q = pr_t len.toInt.toNat)) = false
        rw [decide_eq_false (by omega)]
        rfl
      · have y1 : ¬ (atI.toInt ≠ toI.toInt) := y_cif z
        have f : y_fr G H [] [] := y_st f0 hH (by repeat (first | exact w_nil | refine w_cons (Or.inl (y_m rfl)) ?_ | refine w_cons (Or.inr (by assumption)) ?_)) (by repeat (first | exact w_nil | refine w_cons (Or.inl (y_m rfl)) ?_ | refine w_cons (Or.inr (by assumption)) ?_))
        refine T56 true (y_sq e f rfl rfl) (tx_s_fr s f rfl rfl) (by rw [hs]) ?_
        unfold pr_wh
        rw [hs]
        show (true && decide (q = pr_t len.toInt.toNat)) = true
        rw [decide_eq_true (by omega)]
        rfl
    | false =>
      refine w_go z_hl [56] [] 40 e.1 ?_
      refine ⟨fun _ => fun H hH => ?_, fun z => absurd z (by decide)⟩
      have f : y_fr G H [] [] := y_st f0 hH (by repeat (first | exact w_nil | refine w_cons (Or.inl (y_m rfl)) ?_ | refine w_cons (Or.inr (by assumption)) ?_)) (by repeat (first | exact w_nil | refine w_cons (Or.inl (y_m rfl)) ?_ | refine w_cons (Or.inr (by assumption)) ?_))
      refine T56 false (y_sq e f rfl rfl) (tx_s_fr s f rfl rfl) (by rw [hs]) ?_
      unfold pr_wh
      rw [hs]
      rfl
  have T29n : ∀ {G : aH} {q : Nat}, y_fr h G [1538, 1539, 1540, 1921, 1922] [17, 18, 19, 20, 21] → tx_s nd G sg (pr_t len.toInt.toNat) q → pr_sy (y_N sg) (pr_t len.toInt.toNat) nd.toInt = (false, q) → aOK s_P X (d + 6) a_m78 29 [some (.ref 14), some (.int len), some (.int nd), some (.ref 17), none] [.int (y_01 false)] G C S K0 := by
    intro G q e s hs
    refine w_go z_hl [56] [] 40 e.1 ?_
    refine ⟨fun _ => fun H hH => ?_, fun z => absurd z (by decide)⟩
    have f : y_fr G H [] [] := y_st (y_rf e.1) hH (by repeat (first | exact w_nil | refine w_cons (Or.inl (y_m rfl)) ?_ | refine w_cons (Or.inr (by assumption)) ?_)) (by repeat (first | exact w_nil | refine w_cons (Or.inl (y_m rfl)) ?_ | refine w_cons (Or.inr (by assumption)) ?_))
    refine T56 false (y_sq e f rfl rfl) (tx_s_fr s f rfl rfl) (by rw [hs]) ?_
    unfold pr_wh
    rw [hs]
    rfl
  have T29 : ∀ {G : aH} {q k : Nat} {rel : Int32}, y_fr h G [1538, 1539, 1540, 1921, 1922] [17, 18, 19, 20, 21] → tx_s nd G sg (pr_t len.toInt.toNat) (q + 1) → pr_tm (y_N sg) (pr_t len.toInt.toNat) nd.toInt 0 = (true, q, k) → w_f G 1922 = some (.int rel) → ((pr_k (y_N sg) (pr_t len.toInt.toNat) q = 126 ∧ k = 1) ∧ rel.toInt = 126) ∨ (¬ (pr_k (y_N sg) (pr_t len.toInt.toNat) q = 126 ∧ k = 1) ∧ (pr_k (y_N sg) (pr_t len.toInt.toNat) q = 61 ∨ pr_k (y_N sg) (pr_t len.toInt.toNat) q = 60 ∨ pr_k (y_N sg) (pr_t len.toInt.toNat) q = 62) ∧ rel.toInt ≠ 126) → aOK s_P X (d + 6) a_m78 29 [some (.ref 14), some (.int len), some (.int nd), some (.ref 17), none] [.int (y_01 true)] G C S K0 := by
    intro G q k rel e s ht gr hw
    refine w_go z_hl [56] [90] 40 e.1 ?_
    refine ⟨fun z => absurd z (by decide), fun _ => fun H hH => ?_⟩
    have f : y_fr G H [] [] := y_st (y_rf e.1) hH (by repeat (first | exact w_nil | refine w_cons (Or.inl (y_m rfl)) ?_ | refine w_cons (Or.inr (by assumption)) ?_)) (by repeat (first | exact w_nil | refine w_cons (Or.inl (y_m rfl)) ?_ | refine w_cons (Or.inr (by assumption)) ?_))
    refine c_second0 (d := d) n0 n10 (tx_s_fr s f rfl rfl) ((y_fe f rfl).trans gr) (fun b r k2 H2 f2 s3 h1 h2 => ⟨fun n e => (by cases e), ?_⟩)
    refine T37 b (y_sq (y_sq e f rfl rfl) f2 rfl rfl) s3 ?_
    rcases hw with ⟨⟨w1, w2⟩, w3⟩ | ⟨w1, w2, w3⟩
    · rw [w2] at ht
      exact pr_sy_b ht w1 (h1 w3)
    · exact pr_sy_c ht w1 w2 (h2 w3)
  have T24 : ∀ {G : aH} {fr : List Int32}, y_fr h G [1538, 1539, 1540, 1921, 1922] [17, 18, 19, 20, 21] → tx_s nd G sg (pr_t len.toInt.toNat) 0 → w_a G 17 = some (0, .inl fr) → (∀ j, j < 4 → y_N fr j = -1) → aOK s_P X (d + 6) a_m78 24 [some (.ref 14), some (.int len), some (.int nd), some (.ref 17), none] [] G C S K0 := by
    intro G fr e s g hf
    refine w_go z_hl [56] [80] 40 e.1 ?_
    intro H hH
    have f : y_fr G H [] [] := y_st (y_rf e.1) hH (by repeat (first | exact w_nil | refine w_cons (Or.inl (y_m rfl)) ?_ | refine w_cons (Or.inr (by assumption)) ?_)) (by repeat (first | exact w_nil | refine w_cons (Or.inl (y_m rfl)) ?_ | refine w_cons (Or.inr (by assumption)) ?_))
    refine c_first0 (d := d) n0 n10 (tx_s_fr s f rfl rfl) ((y_ae f rfl).trans g) (hf 0 (by decide)) (hf 1 (by decide)) (fun q k H2 rel fr' f2 s3 ht gr g3 hw => ⟨fun n e => (by cases e), ?_⟩) (fun q H2 f2 s3 hs => ⟨fun n e => (by cases e), ?_⟩)
    · exact T29 (y_sq (y_sq e f rfl rfl) f2 rfl rfl) s3 ht gr hw
    · exact T29n (y_sq (y_sq e f rfl rfl) f2 rfl rfl) s3 hs
  refine w_go z_hl [56] [79] 60 hr ?_
  refine ⟨rfl, y_zini (by decide) (by decide), ?_⟩
  refine ⟨fun z => ⟨rfl, y_zini (by decide) (by decide), rfl, y_zini n0 n10, fun H hH => ?_⟩, fun z => ⟨rfl, y_zini l0 ?_, rfl, y_zini n0 n10, fun H hH => ?_⟩⟩
  · have y1 : ((Int8.ofInt 40).toInt32).toInt < len.toInt := (y_ci .gt _ _).mp z
    rw [c40] at y1
    have et : pr_t len.toInt.toNat = 40 := if_pos (by omega)
    have f : y_fr h H [1538, 1539, 1540] [] := y_st (y_mo (y_rf hr) rfl rfl) hH (by repeat (first | exact w_nil | refine w_cons (Or.inl (y_m rfl)) ?_ | refine w_cons (Or.inr (by assumption)) ?_)) (by repeat (first | exact w_nil | refine w_cons (Or.inl (y_m rfl)) ?_ | refine w_cons (Or.inr (by assumption)) ?_))
    have s : tx_s nd H sg (pr_t len.toInt.toNat) 0 := ⟨_, _, f.1, (y_ae f rfl).trans gs, hH.2.1 1539 _ rfl, by rw [et]; exact c40, hH.2.1 1538 _ rfl, rfl, hH.2.1 1540 _ rfl, Nat.zero_le _, tl.1⟩
    refine c_clear0 f.1 (fun H2 fr f2 g2 hf => ⟨fun n e => (by cases e), ?_⟩)
    exact T24 (y_sq (y_mo f rfl rfl) f2 rfl rfl) (tx_s_fr s f2 rfl rfl) g2 hf
  · have y1 : ¬ (((Int8.ofInt 40).toInt32).toInt < len.toInt) := y_cif z
    rw [c40] at y1
    show len.toInt ≤ 40
    omega
  · have y1 : ¬ (((Int8.ofInt 40).toInt32).toInt < len.toInt) := y_cif z
    rw [c40] at y1
    have et : pr_t len.toInt.toNat = len.toInt.toNat := if_neg (by omega)
    have f : y_fr h H [1538, 1539, 1540] [] := y_st (y_mo (y_rf hr) rfl rfl) hH (by repeat (first | exact w_nil | refine w_cons (Or.inl (y_m rfl)) ?_ | refine w_cons (Or.inr (by assumption)) ?_)) (by repeat (first | exact w_nil | refine w_cons (Or.inl (y_m rfl)) ?_ | refine w_cons (Or.inr (by assumption)) ?_))
    have s : tx_s nd H sg (pr_t len.toInt.toNat) 0 := ⟨_, _, f.1, (y_ae f rfl).trans gs, hH.2.1 1539 _ rfl, by rw [et]; omega, hH.2.1 1538 _ rfl, rfl, hH.2.1 1540 _ rfl, Nat.zero_le _, tl.1⟩
    refine c_clear0 f.1 (fun H2 fr f2 g2 hf => ⟨fun n e => (by cases e), ?_⟩)
    exact T24 (y_sq (y_mo f rfl rfl) f2 rfl rfl) (tx_s_fr s f2 rfl rfl) g2 hf
end PPS0
end PT33ibp
section PT33ibq
/-! ===== v21: parseEvent of the class with saying 1 (laid by wip/tools/mk21c.py) ===== -/
section PEV1
variable {X : aX} {C S d : Nat} {K0 : Option Value → aH → Nat → Nat → Prop} {sg : List Int32} {t : Nat} {nd : Int32}
theorem c_evl1 (n0 : 0 ≤ nd.toInt) (n10 : nd.toInt ≤ 10) {pI : Int32} {pa : Nat} (hpa : pI.toInt = pa) (pa4 : pa < 4) : ∀ (m : Nat) (h : aH) (p : Nat) (oI : Int32) (o : Nat) (o4 : Option Value), tx_s nd h sg t p → oI.toInt = o → o ≤ 5 → t - p ≤ m → (∀ (b : Bool) (q : Nat) (H : aH), y_fr h H [1538] [25, 26] → tx_s nd H sg t q → pr_E (y_N sg) t nd.toInt false p o = (b, q) → K0 (some (.int (y_01 b))) H C S) → aOK s_P X (d + 2) a_m87 12 [some (.ref 14), some (.ref 24), some (.int pI), some (.int oI), o4] [] h C S K0 := by
  have c33 : ((Int8.ofInt 33).toInt32).toInt = 33 := by decide
  have c38 : ((Int8.ofInt 38).toInt32).toInt = 38 := by decide
  have c40 : ((Int8.ofInt 40).toInt32).toInt = 40 := by decide
  have c97 : ((Int8.ofInt 97).toInt32).toInt = 97 := by decide
  have c124 : ((Int8.ofInt 124).toInt32).toInt = 124 := by decide
  have c5 : (Int32.ofInt 5).toInt = 5 := by decide
  have z0 : (0 : Int32).toInt = 0 := by decide
  have cn : ((Int8.ofInt 97).toInt32 + nd).toInt = 97 + nd.toInt := by
    rw [Int32.toInt_add, c97]
    exact Int.bmod_eq_of_le (by omega) (by omega)
  intro m
  induction m with
  | zero =>
    intro h p oI o o4 s ho o5 hm hK
    obtain ⟨toI, atI, hr, a1, a2, a3, a4, a5, a6, pt, t40⟩ := id s
    refine w_go z_hl [12] [82] 30 hr ?_
    intro x hx _ _
    obtain rfl := y_fi a4 hx
    intro y hy _ _
    obtain rfl := y_fi a2 hy
    refine ⟨fun _ => ⟨by decide, fun H hH => ?_⟩, fun z => ?_⟩
    · have f : y_fr h H [] [] := y_st (y_rf hr) hH (by repeat (first | exact w_nil | refine w_cons (Or.inl (y_m rfl)) ?_ | refine w_cons (Or.inr (by assumption)) ?_)) (by repeat (first | exact w_nil | refine w_cons (Or.inl (y_m rfl)) ?_ | refine w_cons (Or.inr (by assumption)) ?_))
      have k0 : pr_k (y_N sg) t p = 0 := if_neg (by omega)
      exact hK false p H (y_mo f rfl rfl) (tx_s_fr s f rfl rfl) (pr_bad (by omega) (by omega) (fun w => by have := w.1; omega) (fun w => by have := w.1; omega))
    · have y1 : ¬ (toI.toInt ≤ atI.toInt) := y_cif z
      exfalso
      omega
  | succ m ih =>
    intro h p oI o o4 s ho o5 hm hK
    obtain ⟨toI, atI, hr, a1, a2, a3, a4, a5, a6, pt, t40⟩ := id s
    -- on to the next sign
    have T189 : ∀ {G : aH} {oJ : Int32} {q o' : Nat} {p4 : Option Value}, y_fr h G [1538] [25, 26] → tx_s nd G sg t q → p < q → q < t → oJ.toInt = o' → o' ≤ 5 → pr_E (y_N sg) t nd.toInt false p o = pr_E (y_N sg) t nd.toInt false (q + 1) o' → aOK s_P X (d + 2) a_m87 189 [some (.ref 14), some (.ref 24), some (.int pI), some (.int oJ), p4] [] G C S K0 := by
      intro G oJ q o' p4 e s2 pq qt hoJ o5' hE
      obtain ⟨toJ, atJ, -, b1, b2, b3, b4, b5, b6, -, -⟩ := id s2
      have inc : (atJ + Int32.ofInt 1).toInt = ((q + 1 : Nat) : Int) := by rw [y_inc (by omega), b5]; rfl
      refine w_go z_hl [12] [82] 30 e.1 ?_
      intro x hx _ _
      obtain rfl := y_fi b4 hx
      refine ⟨rfl, y_zini (by show 0 ≤ (atJ + Int32.ofInt 1).toInt; omega) (by show (atJ + Int32.ofInt 1).toInt ≤ 40; omega), fun H hH => ?_⟩
      have f : y_fr G H [1538] [] := y_st (y_mo (y_rf e.1) rfl rfl) hH (by repeat (first | exact w_nil | refine w_cons (Or.inl (y_m rfl)) ?_ | refine w_cons (Or.inr (by assumption)) ?_)) (by repeat (first | exact w_nil | refine w_cons (Or.inl (y_m rfl)) ?_ | refine w_cons (Or.inr (by assumption)) ?_))
      exact ih H (q + 1) _ o' _ (tx_s_at s2 f rfl (hH.2.1 1538 _ rfl) inc (by omega)) hoJ o5' (by omega) (fun b r H' f1 f2 f3 => hK b r H' (y_sq (y_sq e f rfl rfl) f1 rfl rfl) f2 (hE.trans f3))
    have T143 : ∀ {G : aH} {oJ cI : Int32} {q o' : Nat}, y_fr h G [1538] [25, 26] → tx_s nd G sg t q → p < q → q < t → oJ.toInt = o' → o' ≤ 5 → pr_E (y_N sg) t nd.toInt false p o = pr_E (y_N sg) t nd.toInt false (q + 1) o' → aOK s_P X (d + 2) a_m87 143 [some (.ref 14), some (.ref 24), some (.int pI), some (.int oJ), some (.int cI)] [] G C S K0 := by
      intro G oJ cI q o' e s2 pq qt hoJ o5' hE
      have f0 : y_fr G G [] [] := y_rf e.1
      have T168 : ∀ {G2 : aH}, y_fr G G2 [] [25] → aOK s_P X (d + 2) a_m87 168 [some (.ref 14), some (.ref 24), some (.int pI), some (.int oJ), some (.int cI)] [] G2 C S K0 := by
        intro G2 f
        refine w_go z_hl [189] [82] 40 f.1 ?_
        refine ⟨⟨by omega, by omega⟩, fun l hl len bb => ⟨fun _ => ⟨⟨by omega, by omega⟩, y_l32 _, fun H hH => ?_⟩, fun _ => ⟨⟨by omega, by omega⟩, y_l32 _, fun H hH => ?_⟩⟩⟩
        · have f2 : y_fr G H [] [25, 26] := y_st (y_mo f rfl rfl) hH (by repeat (first | exact w_nil | refine w_cons (Or.inl (y_m rfl)) ?_ | refine w_cons (Or.inr (by assumption)) ?_)) (by repeat (first | exact w_nil | refine w_cons (Or.inl (y_m rfl)) ?_ | refine w_cons (Or.inr (by assumption)) ?_))
          exact T189 (y_sq e (y_mo f2 rfl rfl : y_fr G H [1538] [25, 26]) rfl rfl) (tx_s_fr s2 f2 rfl rfl) pq qt hoJ o5' hE
        · have f2 : y_fr G H [] [25, 26] := y_st (y_mo f rfl rfl) hH (by repeat (first | exact w_nil | refine w_cons (Or.inl (y_m rfl)) ?_ | refine w_cons (Or.inr (by assumption)) ?_)) (by repeat (first | exact w_nil | refine w_cons (Or.inl (y_m rfl)) ?_ | refine w_cons (Or.inr (by assumption)) ?_))
          exact T189 (y_sq e (y_mo f2 rfl rfl : y_fr G H [1538] [25, 26]) rfl rfl) (tx_s_fr s2 f2 rfl rfl) pq qt hoJ o5' hE
      refine w_go z_hl [168, 189] [82] 40 e.1 ?_
      refine ⟨fun _ => fun H hH => ?_, fun _ => ⟨⟨by omega, by omega⟩, fun l hl len bb => ⟨fun _ => ⟨⟨by omega, by omega⟩, y_l32 _, fun H hH => ?_⟩, fun _ => ⟨⟨by omega, by omega⟩, y_l32 _, fun H hH => ?_⟩⟩⟩⟩
      · have f2 : y_fr G H [] [] := y_st f0 hH (by repeat (first | exact w_nil | refine w_cons (Or.inl (y_m rfl)) ?_ | refine w_cons (Or.inr (by assumption)) ?_)) (by repeat (first | exact w_nil | refine w_cons (Or.inl (y_m rfl)) ?_ | refine w_cons (Or.inr (by assumption)) ?_))
        exact T189 (y_sq e f2 rfl rfl) (tx_s_fr s2 f2 rfl rfl) pq qt hoJ o5' hE
      · exact T168 (y_st (y_mo f0 rfl rfl) hH (by repeat (first | exact w_nil | refine w_cons (Or.inl (y_m rfl)) ?_ | refine w_cons (Or.inr (by assumption)) ?_)) (by repeat (first | exact w_nil | refine w_cons (Or.inl (y_m rfl)) ?_ | refine w_cons (Or.inr (by assumption)) ?_)))
      · exact T168 (y_st (y_mo f0 rfl rfl) hH (by repeat (first | exact w_nil | refine w_cons (Or.inl (y_m rfl)) ?_ | refine w_cons (Or.inr (by assumption)) ?_)) (by repeat (first | exact w_nil | refine w_cons (Or.inl (y_m rfl)) ?_ | refine w_cons (Or.inr (by assumption)) ?_)))
    have T117 : ∀ {G : aH} {oJ cI : Int32} {q o' : Nat} {p4 : Option Value}, y_fr h G [1538] [] → tx_s nd G sg t q → p < q → oJ.toInt = o' → o' ≤ 5 → cI.toInt = pr_k (y_N sg) t q → pr_E (y_N sg) t nd.toInt false p o = pr_E (y_N sg) t nd.toInt true q o' → ¬ (pr_k (y_N sg) t q = 41 ∧ 0 < o') → aOK s_P X (d + 2) a_m87 117 [some (.ref 14), some (.ref 24), some (.int pI), some (.int oJ), p4] [.int cI] G C S K0 := by
      intro G oJ cI q o' p4 e s2 pq hoJ o5' hc hE h41
      have q40 := (tx_s_hr s2).2.1
      have f0 : y_fr G G [] [] := y_rf e.1
      refine w_go z_hl [143] [82] 40 e.1 ?_
      refine ⟨fun z => fun H hH => ?_, fun z => ⟨fun z2 => fun H hH => ?_, fun z2 => ⟨fun z3 => ⟨by decide, fun H hH => ?_⟩, fun z3 => ⟨by decide, fun H hH => ?_⟩⟩⟩⟩
      · have y1 : cI.toInt = ((Int8.ofInt 38).toInt32).toInt := (y_ci .eq _ _).mp z
        rw [c38, hc] at y1
        have f2 : y_fr G H [] [] := y_st f0 hH (by repeat (first | exact w_nil | refine w_cons (Or.inl (y_m rfl)) ?_ | refine w_cons (Or.inr (by assumption)) ?_)) (by repeat (first | exact w_nil | refine w_cons (Or.inl (y_m rfl)) ?_ | refine w_cons (Or.inr (by assumption)) ?_))
        exact T143 (y_mo (y_sq e f2 rfl rfl) rfl rfl) (tx_s_fr s2 f2 rfl rfl) pq (pr_k_t (by decide) y1) hoJ o5' (hE.trans (pr_op (by omega) (Or.inl y1)))
      · have y1 : cI.toInt = ((Int8.ofInt 124).toInt32).toInt := (y_ci .eq _ _).mp z2
        rw [c124, hc] at y1
        have f2 : y_fr G H [] [] := y_st f0 hH (by repeat (first | exact w_nil | refine w_cons (Or.inl (y_m rfl)) ?_ | refine w_cons (Or.inr (by assumption)) ?_)) (by repeat (first | exact w_nil | refine w_cons (Or.inl (y_m rfl)) ?_ | refine w_cons (Or.inr (by assumption)) ?_))
        exact T143 (y_mo (y_sq e f2 rfl rfl) rfl rfl) (tx_s_fr s2 f2 rfl rfl) pq (pr_k_t (by decide) y1) hoJ o5' (hE.trans (pr_op (by omega) (Or.inr y1)))
      · have y1 : ¬ (cI.toInt = ((Int8.ofInt 38).toInt32).toInt) := y_cif z
        have y2 : ¬ (cI.toInt = ((Int8.ofInt 124).toInt32).toInt) := y_cif z2
        have y3 : oJ.toInt ≠ (0 : Int32).toInt := (y_ci .ne _ _).mp z3
        rw [c38, hc] at y1
        rw [c124, hc] at y2
        rw [z0] at y3
        have f2 : y_fr G H [] [] := y_st f0 hH (by repeat (first | exact w_nil | refine w_cons (Or.inl (y_m rfl)) ?_ | refine w_cons (Or.inr (by assumption)) ?_)) (by repeat (first | exact w_nil | refine w_cons (Or.inl (y_m rfl)) ?_ | refine w_cons (Or.inr (by assumption)) ?_))
        refine hK false q H (y_mo (y_sq e f2 rfl rfl) rfl rfl) (tx_s_fr s2 f2 rfl rfl) (hE.trans ?_)
        rw [pr_end (by omega) h41 y1 y2, decide_eq_false (by omega)]
      · have y1 : ¬ (cI.toInt = ((Int8.ofInt 38).toInt32).toInt) := y_cif z
        have y2 : ¬ (cI.toInt = ((Int8.ofInt 124).toInt32).toInt) := y_cif z2
        have y3 : ¬ (oJ.toInt ≠ (0 : Int32).toInt) := y_cif z3
        rw [c38, hc] at y1
        rw [c124, hc] at y2
        rw [z0] at y3
        have f2 : y_fr G H [] [] := y_st f0 hH (by repeat (first | exact w_nil | refine w_cons (Or.inl (y_m rfl)) ?_ | refine w_cons (Or.inr (by assumption)) ?_)) (by repeat (first | exact w_nil | refine w_cons (Or.inl (y_m rfl)) ?_ | refine w_cons (Or.inr (by assumption)) ?_))
        refine hK true q H (y_mo (y_sq e f2 rfl rfl) rfl rfl) (tx_s_fr s2 f2 rfl rfl) (hE.trans ?_)
        rw [pr_end (by omega) h41 y1 y2, decide_eq_true (by omega)]
    have T112 : ∀ {G : aH} {oJ : Int32} {q o' : Nat} {p3 p4 : Option Value}, y_fr h G [1538] [] → tx_s nd G sg t q → p < q → oJ.toInt = o' → o' ≤ 5 → pr_E (y_N sg) t nd.toInt false p o = pr_E (y_N sg) t nd.toInt true q o' → ¬ (pr_k (y_N sg) t q = 41 ∧ 0 < o') → aOK s_P X (d + 2) a_m87 112 [some (.ref 14), some (.ref 24), some (.int pI), p3, p4] [.int oJ] G C S K0 := by
      intro G oJ q o' p3 p4 e s2 pq hoJ o5' hE h41
      refine w_go z_hl [143] [82] 20 e.1 ?_
      intro H hH
      have f2 : y_fr G H [] [] := y_st (y_rf e.1) hH (by repeat (first | exact w_nil | refine w_cons (Or.inl (y_m rfl)) ?_ | refine w_cons (Or.inr (by assumption)) ?_)) (by repeat (first | exact w_nil | refine w_cons (Or.inl (y_m rfl)) ?_ | refine w_cons (Or.inr (by assumption)) ?_))
      refine c_lkT (tx_s_fr s2 f2 rfl rfl) (fun r H2 f3 er => ⟨fun n e => (by cases e), ?_⟩)
      exact T117 (y_sq (y_sq e f2 rfl rfl) f3 rfl rfl) (tx_s_fr (tx_s_fr s2 f2 rfl rfl) f3 rfl rfl) pq hoJ o5' er hE h41
    have T97 : ∀ {G : aH} {cI : Int32}, y_fr h G [] [] → p < t → 97 ≤ pr_k (y_N sg) t p → pr_k (y_N sg) t p < 97 + nd.toInt → aOK s_P X (d + 2) a_m87 97 [some (.ref 14), some (.ref 24), some (.int pI), some (.int oI), some (.int cI)] [] G C S K0 := by
      intro G cI e ptt h97 h98
      have s2 := tx_s_fr s e rfl rfl
      have inc : (atI + Int32.ofInt 1).toInt = ((p + 1 : Nat) : Int) := by rw [y_inc (by omega), a5]; rfl
      refine w_go z_hl [12] [88] 30 e.1 ?_
      intro x hx _ _
      obtain rfl := y_fi ((y_fe e rfl).trans a4) hx
      refine ⟨rfl, y_zini (by show 0 ≤ (atI + Int32.ofInt 1).toInt; omega) (by show (atI + Int32.ofInt 1).toInt ≤ 40; omega), fun H hH => ?_⟩
      have f : y_fr G H [1538] [] := y_st (y_mo (y_rf e.1) rfl rfl) hH (by repeat (first | exact w_nil | refine w_cons (Or.inl (y_m rfl)) ?_ | refine w_cons (Or.inr (by assumption)) ?_)) (by repeat (first | exact w_nil | refine w_cons (Or.inl (y_m rfl)) ?_ | refine w_cons (Or.inr (by assumption)) ?_))
      have s3 := tx_s_at s2 f rfl (hH.2.1 1538 _ rfl) inc (by omega)
      obtain ⟨k1, k2, k3, k4, k5⟩ := pr_c_p (T := y_N sg) (n := nd.toInt) t40 o (p + 1) (by omega)
      refine c_closeBr (d := d) s3 ho o5 (fun r H2 f2 s4 er => ⟨fun n e => (by cases e), ?_⟩)
      exact T112 (y_sq (y_sq (y_mo e rfl rfl) f rfl rfl) f2 rfl rfl) s4 (by omega) er (by omega) ((pr_let (by omega) h97 h98).trans k4) k5
    have T76 : ∀ {G : aH} {cI : Int32}, y_fr h G [] [] → p < t → cI.toInt = pr_k (y_N sg) t p → pr_k (y_N sg) t p ≠ 33 → ¬ (pr_k (y_N sg) t p = 40 ∧ o < 5) → aOK s_P X (d + 2) a_m87 76 [some (.ref 14), some (.ref 24), some (.int pI), some (.int oI), some (.int cI)] [] G C S K0 := by
      intro G cI e ptt hc h33 h40
      have bad : ∀ {H : aH}, y_fr h H [] [] → ¬ (97 ≤ pr_k (y_N sg) t p ∧ pr_k (y_N sg) t p < 97 + nd.toInt) → K0 (some (.int (y_01 false))) H C S := fun f w => hK false p _ (y_mo f rfl rfl) (tx_s_fr s f rfl rfl) (pr_bad (by omega) h33 h40 w)
      refine w_go z_hl [97] [88] 30 e.1 ?_
      refine ⟨fun z => ⟨by decide, fun H hH => bad (y_st e hH (by repeat (first | exact w_nil | refine w_cons (Or.inl (y_m rfl)) ?_ | refine w_cons (Or.inr (by assumption)) ?_)) (by repeat (first | exact w_nil | refine w_cons (Or.inl (y_m rfl)) ?_ | refine w_cons (Or.inr (by assumption)) ?_))) (fun w => ?_)⟩, fun z => ?_⟩
      · have y1 : cI.toInt < ((Int8.ofInt 97).toInt32).toInt := (y_ci .lt _ _).mp z
        rw [c97, hc] at y1
        have := w.1
        omega
      · have y1 : ¬ (cI.toInt < ((Int8.ofInt 97).toInt32).toInt) := y_cif z
        rw [c97, hc] at y1
        intro x hx _ _
        obtain rfl := y_fi ((y_fe e rfl).trans a6) hx
        refine ⟨fun z2 => fun H hH => ?_, fun z2 => ⟨by decide, fun H hH => bad (y_st e hH (by repeat (first | exact w_nil | refine w_cons (Or.inl (y_m rfl)) ?_ | refine w_cons (Or.inr (by assumption)) ?_)) (by repeat (first | exact w_nil | refine w_cons (Or.inl (y_m rfl)) ?_ | refine w_cons (Or.inr (by assumption)) ?_))) (fun w => ?_)⟩⟩
        · have y2 : cI.toInt < ((Int8.ofInt 97).toInt32 + nd).toInt := (y_ci .lt _ _).mp z2
          rw [cn, hc] at y2
          exact T97 (y_st e hH (by repeat (first | exact w_nil | refine w_cons (Or.inl (y_m rfl)) ?_ | refine w_cons (Or.inr (by assumption)) ?_)) (by repeat (first | exact w_nil | refine w_cons (Or.inl (y_m rfl)) ?_ | refine w_cons (Or.inr (by assumption)) ?_))) ptt (by omega) y2
        · have y2 : ¬ (cI.toInt < ((Int8.ofInt 97).toInt32 + nd).toInt) := y_cif z2
          rw [cn, hc] at y2
          exact y2 w.2
    have T48 : ∀ {G : aH} {cI : Int32} (b : Bool), y_fr h G [] [] → p < t → cI.toInt = (if b then 40 else 33) → pr_E (y_N sg) t nd.toInt false p o = pr_E (y_N sg) t nd.toInt false (p + 1) (o + (if b then 1 else 0)) → o + (if b then 1 else 0) ≤ 5 → aOK s_P X (d + 2) a_m87 48 [some (.ref 14), some (.ref 24), some (.int pI), some (.int oI), some (.int cI)] [] G C S K0 := by
      intro G cI b e ptt hc hE o5'
      have s2 := tx_s_fr s e rfl rfl
      have inc : (atI + Int32.ofInt 1).toInt = ((p + 1 : Nat) : Int) := by rw [y_inc (by omega), a5]; rfl
      cases b with
      | true =>
        have hc' : cI.toInt = 40 := hc
        have ino : (oI + Int32.ofInt 1).toInt = ((o + 1 : Nat) : Int) := by rw [y_inc (by omega), ho]; rfl
        have o6 : o + 1 ≤ 5 := o5'
        refine w_go z_hl [12] [88] 40 e.1 ?_
        refine ⟨fun z => ?_, fun _ => ?_⟩
        · have y1 : cI.toInt ≠ ((Int8.ofInt 40).toInt32).toInt := (y_ci .ne _ _).mp z
          rw [c40] at y1
          exact absurd hc' y1
        · intro x hx _ _
          obtain rfl := y_fi ((y_fe e rfl).trans a4) hx
          refine ⟨rfl, y_zini (by show 0 ≤ (atI + Int32.ofInt 1).toInt; omega) (by show (atI + Int32.ofInt 1).toInt ≤ 40; omega), fun H hH => ?_⟩
          have f : y_fr G H [1538] [] := y_st (y_mo (y_rf e.1) rfl rfl) hH (by repeat (first | exact w_nil | refine w_cons (Or.inl (y_m rfl)) ?_ | refine w_cons (Or.inr (by assumption)) ?_)) (by repeat (first | exact w_nil | refine w_cons (Or.inl (y_m rfl)) ?_ | refine w_cons (Or.inr (by assumption)) ?_))
          exact ih H (p + 1) _ (o + 1) _ (tx_s_at s2 f rfl (hH.2.1 1538 _ rfl) inc (by omega)) ino o6 (by omega) (fun b r H' f1 f2 f3 => hK b r H' (y_sq (y_mo (y_sq (y_mo e rfl rfl) f rfl rfl : y_fr h H [1538] []) rfl rfl) f1 rfl rfl) f2 (hE.trans f3))
      | false =>
        have hc' : cI.toInt = 33 := hc
        have ino : (oI + Int32.ofInt 0).toInt = (o : Nat) := by rw [show Int32.ofInt 0 = (0 : Int32) by decide, Int32.add_zero]; exact ho
        refine w_go z_hl [12] [88] 40 e.1 ?_
        refine ⟨fun _ => ?_, fun z => ?_⟩
        · intro x hx _ _
          obtain rfl := y_fi ((y_fe e rfl).trans a4) hx
          refine ⟨rfl, y_zini (by show 0 ≤ (atI + Int32.ofInt 1).toInt; omega) (by show (atI + Int32.ofInt 1).toInt ≤ 40; omega), fun H hH => ?_⟩
          have f : y_fr G H [1538] [] := y_st (y_mo (y_rf e.1) rfl rfl) hH (by repeat (first | exact w_nil | refine w_cons (Or.inl (y_m rfl)) ?_ | refine w_cons (Or.inr (by assumption)) ?_)) (by repeat (first | exact w_nil | refine w_cons (Or.inl (y_m rfl)) ?_ | refine w_cons (Or.inr (by assumption)) ?_))
          exact ih H (p + 1) _ o _ (tx_s_at s2 f rfl (hH.2.1 1538 _ rfl) inc (by omega)) ino o5 (by omega) (fun b r H' f1 f2 f3 => hK b r H' (y_sq (y_mo (y_sq (y_mo e rfl rfl) f rfl rfl : y_fr h H [1538] []) rfl rfl) f1 rfl rfl) f2 (hE.trans f3))
        · have y1 : ¬ (cI.toInt ≠ ((Int8.ofInt 40).toInt32).toInt) := y_cif z
          rw [c40] at y1
          exfalso
          omega
    have T27 : ∀ {G : aH} {cI : Int32}, y_fr h G [] [] → p < t → cI.toInt = pr_k (y_N sg) t p → aOK s_P X (d + 2) a_m87 27 [some (.ref 14), some (.ref 24), some (.int pI), some (.int oI), o4] [.int cI] G C S K0 := by
      intro G cI e ptt hc
      refine w_go z_hl [48, 76] [88] 40 e.1 ?_
      refine ⟨fun z => fun H hH => ?_, fun z => ⟨fun z2 => fun H hH => ?_, fun z2 => ⟨fun z3 => fun H hH => ?_, fun z3 => fun H hH => ?_⟩⟩⟩
      · have y1 : cI.toInt = ((Int8.ofInt 33).toInt32).toInt := (y_ci .eq _ _).mp z
        rw [c33] at y1
        exact T48 false (y_st e hH (by repeat (first | exact w_nil | refine w_cons (Or.inl (y_m rfl)) ?_ | refine w_cons (Or.inr (by assumption)) ?_)) (by repeat (first | exact w_nil | refine w_cons (Or.inl (y_m rfl)) ?_ | refine w_cons (Or.inr (by assumption)) ?_))) ptt y1 (pr_bang (by omega) (hc.symm.trans y1)) o5
      · have y1 : ¬ (cI.toInt = ((Int8.ofInt 33).toInt32).toInt) := y_cif z
        have y2 : cI.toInt ≠ ((Int8.ofInt 40).toInt32).toInt := (y_ci .ne _ _).mp z2
        rw [c33, hc] at y1
        rw [c40, hc] at y2
        exact T76 (y_st e hH (by repeat (first | exact w_nil | refine w_cons (Or.inl (y_m rfl)) ?_ | refine w_cons (Or.inr (by assumption)) ?_)) (by repeat (first | exact w_nil | refine w_cons (Or.inl (y_m rfl)) ?_ | refine w_cons (Or.inr (by assumption)) ?_))) ptt hc y1 (fun w => y2 w.1)
      · have y1 : ¬ (cI.toInt = ((Int8.ofInt 33).toInt32).toInt) := y_cif z
        have y3 : (Int32.ofInt 5).toInt ≤ oI.toInt := (y_ci .ge _ _).mp z3
        rw [c33, hc] at y1
        rw [c5] at y3
        exact T76 (y_st e hH (by repeat (first | exact w_nil | refine w_cons (Or.inl (y_m rfl)) ?_ | refine w_cons (Or.inr (by assumption)) ?_)) (by repeat (first | exact w_nil | refine w_cons (Or.inl (y_m rfl)) ?_ | refine w_cons (Or.inr (by assumption)) ?_))) ptt hc y1 (fun w => by have := w.2; omega)
      · have y2 : ¬ (cI.toInt ≠ ((Int8.ofInt 40).toInt32).toInt) := y_cif z2
        have y3 : ¬ ((Int32.ofInt 5).toInt ≤ oI.toInt) := y_cif z3
        rw [c40] at y2
        rw [c5] at y3
        have y4 : cI.toInt = 40 := Decidable.not_not.mp y2
        exact T48 true (y_st e hH (by repeat (first | exact w_nil | refine w_cons (Or.inl (y_m rfl)) ?_ | refine w_cons (Or.inr (by assumption)) ?_)) (by repeat (first | exact w_nil | refine w_cons (Or.inl (y_m rfl)) ?_ | refine w_cons (Or.inr (by assumption)) ?_))) ptt y4 (pr_open (by omega) (hc.symm.trans y4) (by omega)) (by show o + 1 ≤ 5; omega)
    refine w_go z_hl [12] [82] 30 hr ?_
    intro x hx _ _
    obtain rfl := y_fi a4 hx
    intro y hy _ _
    obtain rfl := y_fi a2 hy
    refine ⟨fun z => ⟨by decide, fun H hH => ?_⟩, fun z => fun H hH => ?_⟩
    · have y1 : toI.toInt ≤ atI.toInt := (y_ci .ge _ _).mp z
      have f : y_fr h H [] [] := y_st (y_rf hr) hH (by repeat (first | exact w_nil | refine w_cons (Or.inl (y_m rfl)) ?_ | refine w_cons (Or.inr (by assumption)) ?_)) (by repeat (first | exact w_nil | refine w_cons (Or.inl (y_m rfl)) ?_ | refine w_cons (Or.inr (by assumption)) ?_))
      have k0 : pr_k (y_N sg) t p = 0 := if_neg (by omega)
      exact hK false p H (y_mo f rfl rfl) (tx_s_fr s f rfl rfl) (pr_bad (by omega) (by omega) (fun w => by have := w.1; omega) (fun w => by have := w.1; omega))
    · have y1 : ¬ (toI.toInt ≤ atI.toInt) := y_cif z
      have f : y_fr h H [] [] := y_st (y_rf hr) hH (by repeat (first | exact w_nil | refine w_cons (Or.inl (y_m rfl)) ?_ | refine w_cons (Or.inr (by assumption)) ?_)) (by repeat (first | exact w_nil | refine w_cons (Or.inl (y_m rfl)) ?_ | refine w_cons (Or.inr (by assumption)) ?_))
      refine c_lkT (tx_s_fr s f rfl rfl) (fun r H2 f2 er => ⟨fun n e => (by cases e), ?_⟩)
      exact T27 (y_sq f f2 rfl rfl) (by omega) er
theorem c_ev1 {h : aH} {p : Nat} (n0 : 0 ≤ nd.toInt) (n10 : nd.toInt ≤ 10) {pI : Int32} {pa : Nat} (hpa : pI.toInt = pa) (pa4 : pa < 4) (s : tx_s nd h sg t p) {fr : List Int32} (gf : w_a h 24 = some (0, .inl fr)) (hK : ∀ (b : Bool) (q : Nat) (aI : Int32) (H : aH), y_fr h H [1538] [24, 25, 26] → tx_s nd H sg t q → pr_E (y_N sg) t nd.toInt false p 0 = (b, q) → w_a H 24 = some (0, .inl (fr.set pa aI)) → 0 ≤ aI.toInt → K0 (some (.int (y_01 b))) H C S) : aOK s_P X (d + 2) a_m87 0 [some (.ref 14), some (.ref 24), some (.int pI), none, none] [] h C S K0 := by
  obtain ⟨toI, atI, hr, a1, a2, a3, a4, a5, a6, pt, t40⟩ := id s
  have cp := y_cl1 hpa
  refine w_go z_hl [12] [] 30 hr ?_
  intro x hx _ _
  obtain rfl := y_fi a4 hx
  refine ⟨⟨by omega, by omega⟩, ⟨by omega, by omega⟩, fun l hl len bb => fun H hH => ?_⟩
  obtain rfl := y_ai gf hl
  have w := hH.2.2.1 24 _ rfl
  rw [cp] at w
  have f : y_fr h H [] [24] := y_st (y_mo (y_rf hr) rfl rfl) hH (by repeat (first | exact w_nil | refine w_cons (Or.inl (y_m rfl)) ?_ | refine w_cons (Or.inr (by assumption)) ?_)) (by repeat (first | exact w_nil | refine w_cons (Or.inl (y_m rfl)) ?_ | refine w_cons (Or.inr (by assumption)) ?_))
  exact c_evl1 (d := d) n0 n10 hpa pa4 40 H p _ 0 _ (tx_s_fr s f rfl rfl) (by decide) (by decide) (by omega) (fun b q H' f1 f2 f3 => hK b q atI H' (y_sq (y_mo f rfl rfl) f1 rfl rfl) f2 f3 ((y_ae f1 rfl).trans w) (by omega))
end PEV1
end PT33ibq
section PT33ibr
/-! ===== v21: parseGiven, parseRate, parseTerm of the class with saying 1 (laid by wip/tools/mk21d.py) ===== -/
section PPT1
variable {X : aX} {C S d : Nat} {K0 : Option Value → aH → Nat → Nat → Prop} {sg : List Int32} {t p : Nat} {nd : Int32} {h : aH}
theorem c_gv1 (n0 : 0 ≤ nd.toInt) (n10 : nd.toInt ≤ 10) {sI : Int32} {sd : Nat} (hs : sI.toInt = sd) (hs2 : sd < 2) (s : tx_s nd h sg t p) {fr : List Int32} (gf : w_a h 24 = some (0, .inl fr)) (hK : ∀ (b : Bool) (q k : Nat) (H : aH) (fr' : List Int32), y_fr h H [1538] [24, 25, 26] → tx_s nd H sg t q → pr_gv (y_N sg) t nd.toInt p = (b, q, k) → w_a H 24 = some (0, .inl fr') → tx_f fr fr' sd k → K0 (some (.int (y_01 b))) H C S) : aOK s_P X (d + 3) a_m86 0 [some (.ref 14), some (.ref 24), some (.int sI)] [] h C S K0 := by
  obtain ⟨toI, atI, hr, a1, a2, a3, a4, a5, a6, pt, t40⟩ := id s
  obtain ⟨fr0, f1, fl, -⟩ := c_arr hr (ob := 24) (n := 4) (lo := -1) (hi := 40) rfl
  obtain rfl := y_ai gf f1
  have c47 : ((Int8.ofInt 47).toInt32).toInt = 47 := by decide
  have m1 : (Int32.ofInt 2 * sI).toInt = ((2 * sd : Nat) : Int) := y_mulS (m := 2) _ (by decide) hs rfl (by omega)
  have m2 : (Int32.ofInt 2 * sI + Int32.ofInt 1).toInt = ((2 * sd + 1 : Nat) : Int) := y_addS _ m1 (n := 1) (by decide) rfl (by omega)
  have T44 : ∀ {G : aH} {b : Bool} {q k : Nat} {fr' : List Int32}, y_fr h G [1538] [24, 25, 26] → tx_s nd G sg t q → pr_gv (y_N sg) t nd.toInt p = (b, q, k) → w_a G 24 = some (0, .inl fr') → tx_f fr fr' sd k → aOK s_P X (d + 3) a_m86 44 [some (.ref 14), some (.ref 24), some (.int sI)] [.int (y_01 b)] G C S K0 := by
    intro G b q k fr' e s2 hg g2 hf
    refine w_go z_hl [] [] 20 e.1 ?_
    refine ⟨y_01b b, fun H hH => ?_⟩
    have f : y_fr G H [] [] := y_st (y_rf e.1) hH (by repeat (first | exact w_nil | refine w_cons (Or.inl (y_m rfl)) ?_ | refine w_cons (Or.inr (by assumption)) ?_)) (by repeat (first | exact w_nil | refine w_cons (Or.inl (y_m rfl)) ?_ | refine w_cons (Or.inr (by assumption)) ?_))
    exact hK b q k H fr' (y_sq e f rfl rfl) (tx_s_fr s2 f rfl rfl) hg ((y_ae f rfl).trans g2) hf
  have T24 : ∀ {G : aH} {q : Nat} {aI : Int32}, y_fr h G [1538] [24, 25, 26] → tx_s nd G sg t q → q < t → pr_E (y_N sg) t nd.toInt false p 0 = (true, q) → pr_k (y_N sg) t q = 47 → w_a G 24 = some (0, .inl (fr.set (2 * sd) aI)) → 0 ≤ aI.toInt → aOK s_P X (d + 3) a_m86 24 [some (.ref 14), some (.ref 24), some (.int sI)] [] G C S K0 := by
    intro G q aI e s2 qt hE h47 g2 ha
    obtain ⟨toJ, atJ, -, b1, b2, b3, b4, b5, b6, -, -⟩ := id s2
    have inc : (atJ + Int32.ofInt 1).toInt = ((q + 1 : Nat) : Int) := by rw [y_inc (by omega), b5]; rfl
    refine w_go z_hl [] [87] 30 e.1 ?_
    intro x hx _ _
    obtain rfl := y_fi b4 hx
    refine ⟨rfl, y_zini (by show 0 ≤ (atJ + Int32.ofInt 1).toInt; omega) (by show (atJ + Int32.ofInt 1).toInt ≤ 40; omega), fun H hH => ?_⟩
    have f : y_fr G H [1538] [] := y_st (y_mo (y_rf e.1) rfl rfl) hH (by repeat (first | exact w_nil | refine w_cons (Or.inl (y_m rfl)) ?_ | refine w_cons (Or.inr (by assumption)) ?_)) (by repeat (first | exact w_nil | refine w_cons (Or.inl (y_m rfl)) ?_ | refine w_cons (Or.inr (by assumption)) ?_))
    refine c_ev1 (d := d) n0 n10 m2 (by omega) (tx_s_at s2 f rfl (hH.2.1 1538 _ rfl) inc (by omega)) ((y_ae f rfl).trans g2) (fun b r aJ H2 f2 s3 hE2 g3 ha2 => ⟨fun n e => (by cases e), ?_⟩)
    exact T44 (k := 2) (y_sq (y_sq e f rfl rfl) f2 rfl rfl) s3 (pr_gv_2 hE h47 hE2) g3 (tx_f_2 fl ha ha2 hs2)
  have T17 : ∀ {G : aH} {q : Nat} {aI cI : Int32}, y_fr h G [1538] [24, 25, 26] → tx_s nd G sg t q → cI.toInt = pr_k (y_N sg) t q → pr_E (y_N sg) t nd.toInt false p 0 = (true, q) → w_a G 24 = some (0, .inl (fr.set (2 * sd) aI)) → 0 ≤ aI.toInt → aOK s_P X (d + 3) a_m86 17 [some (.ref 14), some (.ref 24), some (.int sI)] [.int cI] G C S K0 := by
    intro G q aI cI e s2 hc hE g2 ha
    refine w_go z_hl [24] [] 30 e.1 ?_
    refine ⟨fun z => fun H hH => ?_, fun z => ⟨by decide, fun H hH => ?_⟩⟩
    · have y1 : cI.toInt = ((Int8.ofInt 47).toInt32).toInt := (y_ci .eq _ _).mp z
      rw [c47, hc] at y1
      have f : y_fr G H [] [] := y_st (y_rf e.1) hH (by repeat (first | exact w_nil | refine w_cons (Or.inl (y_m rfl)) ?_ | refine w_cons (Or.inr (by assumption)) ?_)) (by repeat (first | exact w_nil | refine w_cons (Or.inl (y_m rfl)) ?_ | refine w_cons (Or.inr (by assumption)) ?_))
      exact T24 (y_sq e f rfl rfl) (tx_s_fr s2 f rfl rfl) (pr_k_t (by decide) y1) hE y1 ((y_ae f rfl).trans g2) ha
    · have y1 : ¬ (cI.toInt = ((Int8.ofInt 47).toInt32).toInt) := y_cif z
      rw [c47, hc] at y1
      have f : y_fr G H [] [] := y_st (y_rf e.1) hH (by repeat (first | exact w_nil | refine w_cons (Or.inl (y_m rfl)) ?_ | refine w_cons (Or.inr (by assumption)) ?_)) (by repeat (first | exact w_nil | refine w_cons (Or.inl (y_m rfl)) ?_ | refine w_cons (Or.inr (by assumption)) ?_))
      exact hK true q 1 H _ (y_sq e f rfl rfl) (tx_s_fr s2 f rfl rfl) (pr_gv_1 hE y1) ((y_ae f rfl).trans g2) (tx_f_1 fl ha hs2)
  have T8 : ∀ {G : aH} {q : Nat} {aI : Int32} (b : Bool), y_fr h G [1538] [24, 25, 26] → tx_s nd G sg t q → pr_E (y_N sg) t nd.toInt false p 0 = (b, q) → w_a G 24 = some (0, .inl (fr.set (2 * sd) aI)) → 0 ≤ aI.toInt → aOK s_P X (d + 3) a_m86 8 [some (.ref 14), some (.ref 24), some (.int sI)] [.int (y_01 b)] G C S K0 := by
    intro G q aI b e s2 hE g2 ha
    cases b with
    | true =>
      refine w_go z_hl [24] [82] 30 e.1 ?_
      refine ⟨fun _ => fun H hH => ?_, fun z => absurd z (by decide)⟩
      have f : y_fr G H [] [] := y_st (y_rf e.1) hH (by repeat (first | exact w_nil | refine w_cons (Or.inl (y_m rfl)) ?_ | refine w_cons (Or.inr (by assumption)) ?_)) (by repeat (first | exact w_nil | refine w_cons (Or.inl (y_m rfl)) ?_ | refine w_cons (Or.inr (by assumption)) ?_))
      refine c_lkT (tx_s_fr s2 f rfl rfl) (fun r H2 f2 er => ⟨fun n e => (by cases e), ?_⟩)
      exact T17 (y_sq (y_sq e f rfl rfl) f2 rfl rfl) (tx_s_fr (tx_s_fr s2 f rfl rfl) f2 rfl rfl) er hE ((y_ae f2 rfl).trans ((y_ae f rfl).trans g2)) ha
    | false =>
      refine w_go z_hl [24] [82] 30 e.1 ?_
      refine ⟨fun z => absurd z (by decide), fun _ => ⟨by decide, fun H hH => ?_⟩⟩
      have f : y_fr G H [] [] := y_st (y_rf e.1) hH (by repeat (first | exact w_nil | refine w_cons (Or.inl (y_m rfl)) ?_ | refine w_cons (Or.inr (by assumption)) ?_)) (by repeat (first | exact w_nil | refine w_cons (Or.inl (y_m rfl)) ?_ | refine w_cons (Or.inr (by assumption)) ?_))
      exact hK false q 1 H _ (y_sq e f rfl rfl) (tx_s_fr s2 f rfl rfl) (pr_gv_n hE) ((y_ae f rfl).trans g2) (tx_f_1 fl ha hs2)
  refine w_go z_hl [] [87] 30 hr ?_
  intro H hH
  have f : y_fr h H [] [] := y_st (y_rf hr) hH (by repeat (first | exact w_nil | refine w_cons (Or.inl (y_m rfl)) ?_ | refine w_cons (Or.inr (by assumption)) ?_)) (by repeat (first | exact w_nil | refine w_cons (Or.inl (y_m rfl)) ?_ | refine w_cons (Or.inr (by assumption)) ?_))
  refine c_ev1 (d := d) n0 n10 m1 (by omega) (tx_s_fr s f rfl rfl) ((y_ae f rfl).trans gf) (fun b q aI H2 f2 s3 hE g3 ha => ⟨fun n e => (by cases e), ?_⟩)
  exact T8 b (y_sq (y_mo f rfl rfl) f2 rfl rfl) s3 hE g3 ha
theorem c_rt1 {sI : Int32} {sd : Nat} (hs : sI.toInt = sd) (hs2 : sd < 2) (s : tx_s nd h sg t p) (hK : ∀ (b : Bool) (q : Nat) (H : aH), y_fr h H [1538] [27, 28] → tx_s nd H sg t q → pr_rt (y_N sg) t p = (b, q, 0) → K0 (some (.int (y_01 b))) H C S) : aOK s_P X (d + 2) a_m84 0 [some (.ref 14), some (.ref 24), some (.int sI)] [] h C S K0 := by
  obtain ⟨toI, atI, hr, a1, a2, a3, a4, a5, a6, pt, t40⟩ := id s
  have c58 : ((Int8.ofInt 58).toInt32).toInt = 58 := by decide
  have c48 : ((Int8.ofInt 48).toInt32).toInt = 48 := by decide
  have T61 : ∀ {G : aH} {q : Nat} {r : Int32}, y_fr h G [1538] [27] → tx_s nd G sg t q → pr_rt (y_N sg) t p = (true, q, 0) → aOK s_P X (d + 2) a_m84 61 [some (.ref 14), some (.ref 24), some (.int sI)] [.int r, .int sI, .ref 30] G C S K0 := by
    intro G q r e s2 hg
    refine w_go z_hl [] [] 20 e.1 ?_
    refine ⟨⟨by omega, by omega⟩, y_l32 _, fun l hl len bb => ⟨by decide, fun H hH => ?_⟩⟩
    have f : y_fr G H [] [28] := y_st (y_mo (y_rf e.1) rfl rfl) hH (by repeat (first | exact w_nil | refine w_cons (Or.inl (y_m rfl)) ?_ | refine w_cons (Or.inr (by assumption)) ?_)) (by repeat (first | exact w_nil | refine w_cons (Or.inl (y_m rfl)) ?_ | refine w_cons (Or.inr (by assumption)) ?_))
    exact hK true q H (y_sq (y_mo e rfl rfl) f rfl rfl) (tx_s_fr s2 f rfl rfl) hg
  have T45 : ∀ {G : aH} {cI : Int32}, y_fr h G [1538] [27] → tx_s nd G sg t (pr_dq (y_N sg) t 8 p + 1) → pr_k (y_N sg) t (pr_dq (y_N sg) t 8 p) = 58 → pr_dg (y_N sg) t (pr_dq (y_N sg) t 8 p + 1) → cI.toInt = pr_k (y_N sg) t (pr_dq (y_N sg) t 8 p + 1) → aOK s_P X (d + 2) a_m84 45 [some (.ref 14), some (.ref 24), some (.int sI)] [.int cI] G C S K0 := by
    intro G cI e s2 h58 hd hc
    have hd1 := hd.1
    have hd2 := hd.2
    refine w_go z_hl [] [85] 30 e.1 ?_
    refine ⟨fun z => fun H hH => ?_, fun z => ⟨by decide, fun H hH => ?_⟩⟩
    · have y1 : cI.toInt ≠ ((Int8.ofInt 48).toInt32).toInt := (y_ci .ne _ _).mp z
      rw [c48, hc] at y1
      have f : y_fr G H [] [] := y_st (y_rf e.1) hH (by repeat (first | exact w_nil | refine w_cons (Or.inl (y_m rfl)) ?_ | refine w_cons (Or.inr (by assumption)) ?_)) (by repeat (first | exact w_nil | refine w_cons (Or.inl (y_m rfl)) ?_ | refine w_cons (Or.inr (by assumption)) ?_))
      refine c_number (d := d) (tx_s_fr s2 f rfl rfl) (fun r H2 f2 s3 => ⟨fun n e => (by cases e), ?_⟩)
      exact T61 (y_sq (y_sq e f rfl rfl) f2 rfl rfl) s3 (pr_rt_1 h58 ⟨by omega, hd2⟩)
    · have y1 : ¬ (cI.toInt ≠ ((Int8.ofInt 48).toInt32).toInt) := y_cif z
      rw [c48, hc] at y1
      have f : y_fr G H [] [] := y_st (y_rf e.1) hH (by repeat (first | exact w_nil | refine w_cons (Or.inl (y_m rfl)) ?_ | refine w_cons (Or.inr (by assumption)) ?_)) (by repeat (first | exact w_nil | refine w_cons (Or.inl (y_m rfl)) ?_ | refine w_cons (Or.inr (by assumption)) ?_))
      exact hK false _ H (y_mo (y_sq e f rfl rfl) rfl rfl) (tx_s_fr s2 f rfl rfl) (pr_rt_0 h58 (fun w => by have := w.1; omega))
  have T38 : ∀ {G : aH} (b : Bool), y_fr h G [1538] [27] → tx_s nd G sg t (pr_dq (y_N sg) t 8 p + 1) → pr_k (y_N sg) t (pr_dq (y_N sg) t 8 p) = 58 → (b = true → pr_dg (y_N sg) t (pr_dq (y_N sg) t 8 p + 1)) → (b = false → ¬ pr_dg (y_N sg) t (pr_dq (y_N sg) t 8 p + 1)) → aOK s_P X (d + 2) a_m84 38 [some (.ref 14), some (.ref 24), some (.int sI)] [.int (y_01 b)] G C S K0 := by
    intro G b e s2 h58 hy hn
    cases b with
    | true =>
      refine w_go z_hl [] [82] 30 e.1 ?_
      refine ⟨fun z => absurd z (by decide), fun _ => fun H hH => ?_⟩
      have f : y_fr G H [] [] := y_st (y_rf e.1) hH (by repeat (first | exact w_nil | refine w_cons (Or.inl (y_m rfl)) ?_ | refine w_cons (Or.inr (by assumption)) ?_)) (by repeat (first | exact w_nil | refine w_cons (Or.inl (y_m rfl)) ?_ | refine w_cons (Or.inr (by assumption)) ?_))
      refine c_lkT (tx_s_fr s2 f rfl rfl) (fun r H2 f2 er => ⟨fun n e => (by cases e), ?_⟩)
      exact T45 (y_sq (y_sq e f rfl rfl) f2 rfl rfl) (tx_s_fr (tx_s_fr s2 f rfl rfl) f2 rfl rfl) h58 (hy rfl) er
    | false =>
      refine w_go z_hl [] [82] 30 e.1 ?_
      refine ⟨fun _ => ⟨by decide, fun H hH => ?_⟩, fun z => absurd z (by decide)⟩
      have f : y_fr G H [] [] := y_st (y_rf e.1) hH (by repeat (first | exact w_nil | refine w_cons (Or.inl (y_m rfl)) ?_ | refine w_cons (Or.inr (by assumption)) ?_)) (by repeat (first | exact w_nil | refine w_cons (Or.inl (y_m rfl)) ?_ | refine w_cons (Or.inr (by assumption)) ?_))
      exact hK false _ H (y_mo (y_sq e f rfl rfl) rfl rfl) (tx_s_fr s2 f rfl rfl) (pr_rt_0 h58 (fun w => hn rfl ⟨by have := w.1; omega, w.2⟩))
  have T35 : ∀ {G : aH} {cI : Int32}, y_fr h G [1538] [27] → tx_s nd G sg t (pr_dq (y_N sg) t 8 p + 1) → pr_k (y_N sg) t (pr_dq (y_N sg) t 8 p) = 58 → cI.toInt = pr_k (y_N sg) t (pr_dq (y_N sg) t 8 p + 1) → aOK s_P X (d + 2) a_m84 35 [some (.ref 14), some (.ref 24), some (.int sI)] [.int cI] G C S K0 := by
    intro G cI e s2 h58 hc
    refine w_go z_hl [] [83] 20 e.1 ?_
    intro H hH
    have f : y_fr G H [] [] := y_st (y_rf e.1) hH (by repeat (first | exact w_nil | refine w_cons (Or.inl (y_m rfl)) ?_ | refine w_cons (Or.inr (by assumption)) ?_)) (by repeat (first | exact w_nil | refine w_cons (Or.inl (y_m rfl)) ?_ | refine w_cons (Or.inr (by assumption)) ?_))
    refine c_isDg (c := cI) f.1 (fun H2 f2 w => ⟨fun n e => (by cases e), ?_⟩) (fun H2 f2 w => ⟨fun n e => (by cases e), ?_⟩)
    · exact T38 true (y_sq (y_sq e f rfl rfl) f2 rfl rfl) (tx_s_fr (tx_s_fr s2 f rfl rfl) f2 rfl rfl) h58 (fun _ => ⟨by omega, by omega⟩) (fun z => absurd z (by decide))
    · exact T38 false (y_sq (y_sq e f rfl rfl) f2 rfl rfl) (tx_s_fr (tx_s_fr s2 f rfl rfl) f2 rfl rfl) h58 (fun z => absurd z (by decide)) (fun _ z => w ⟨by have := z.1; omega, by have := z.2; omega⟩)
  have T14 : ∀ {G : aH} {cI : Int32}, y_fr h G [1538] [27] → tx_s nd G sg t (pr_dq (y_N sg) t 8 p) → cI.toInt = pr_k (y_N sg) t (pr_dq (y_N sg) t 8 p) → aOK s_P X (d + 2) a_m84 14 [some (.ref 14), some (.ref 24), some (.int sI)] [.int cI] G C S K0 := by
    intro G cI e s2 hc
    obtain ⟨toJ, atJ, -, b1, b2, b3, b4, b5, b6, qt, -⟩ := id s2
    refine w_go z_hl [] [82] 40 e.1 ?_
    refine ⟨fun z => ?_, fun z => ⟨by decide, fun H hH => ?_⟩⟩
    · have y1 : cI.toInt = ((Int8.ofInt 58).toInt32).toInt := (y_ci .eq _ _).mp z
      rw [c58, hc] at y1
      have qt' := pr_k_t (by decide) y1
      have inc : (atJ + Int32.ofInt 1).toInt = ((pr_dq (y_N sg) t 8 p + 1 : Nat) : Int) := by rw [y_inc (by omega), b5]; rfl
      intro x hx _ _
      obtain rfl := y_fi b4 hx
      refine ⟨rfl, y_zini (by show 0 ≤ (atJ + Int32.ofInt 1).toInt; omega) (by show (atJ + Int32.ofInt 1).toInt ≤ 40; omega), fun H hH => ?_⟩
      have f : y_fr G H [1538] [] := y_st (y_mo (y_rf e.1) rfl rfl) hH (by repeat (first | exact w_nil | refine w_cons (Or.inl (y_m rfl)) ?_ | refine w_cons (Or.inr (by assumption)) ?_)) (by repeat (first | exact w_nil | refine w_cons (Or.inl (y_m rfl)) ?_ | refine w_cons (Or.inr (by assumption)) ?_))
      have s3 := tx_s_at s2 f rfl (hH.2.1 1538 _ rfl) inc (by omega)
      refine c_lkT s3 (fun r H2 f2 er => ⟨fun n e => (by cases e), ?_⟩)
      exact T35 (y_sq (y_sq e f rfl rfl) f2 rfl rfl) (tx_s_fr s3 f2 rfl rfl) y1 er
    · have y1 : ¬ (cI.toInt = ((Int8.ofInt 58).toInt32).toInt) := y_cif z
      rw [c58, hc] at y1
      have f : y_fr G H [] [] := y_st (y_rf e.1) hH (by repeat (first | exact w_nil | refine w_cons (Or.inl (y_m rfl)) ?_ | refine w_cons (Or.inr (by assumption)) ?_)) (by repeat (first | exact w_nil | refine w_cons (Or.inl (y_m rfl)) ?_ | refine w_cons (Or.inr (by assumption)) ?_))
      exact hK false _ H (y_mo (y_sq e f rfl rfl) rfl rfl) (tx_s_fr s2 f rfl rfl) (pr_rt_n y1)
  have T9 : ∀ {G : aH} {r : Int32}, y_fr h G [1538] [] → tx_s nd G sg t (pr_dq (y_N sg) t 8 p) → aOK s_P X (d + 2) a_m84 9 [some (.ref 14), some (.ref 24), some (.int sI)] [.int r, .int sI, .ref 29] G C S K0 := by
    intro G r e s2
    refine w_go z_hl [] [82] 30 e.1 ?_
    refine ⟨⟨by omega, by omega⟩, y_l32 _, fun l hl len bb => fun H hH => ?_⟩
    have f : y_fr G H [] [27] := y_st (y_mo (y_rf e.1) rfl rfl) hH (by repeat (first | exact w_nil | refine w_cons (Or.inl (y_m rfl)) ?_ | refine w_cons (Or.inr (by assumption)) ?_)) (by repeat (first | exact w_nil | refine w_cons (Or.inl (y_m rfl)) ?_ | refine w_cons (Or.inr (by assumption)) ?_))
    refine c_lkT (tx_s_fr s2 f rfl rfl) (fun r H2 f2 er => ⟨fun n e => (by cases e), ?_⟩)
    exact T14 (y_sq (y_sq (y_mo e rfl rfl) f rfl rfl) f2 rfl rfl) (tx_s_fr (tx_s_fr s2 f rfl rfl) f2 rfl rfl) er
  refine w_go z_hl [] [85] 30 hr ?_
  intro H hH
  have f : y_fr h H [] [] := y_st (y_rf hr) hH (by repeat (first | exact w_nil | refine w_cons (Or.inl (y_m rfl)) ?_ | refine w_cons (Or.inr (by assumption)) ?_)) (by repeat (first | exact w_nil | refine w_cons (Or.inl (y_m rfl)) ?_ | refine w_cons (Or.inr (by assumption)) ?_))
  refine c_number (d := d) (tx_s_fr s f rfl rfl) (fun r H2 f2 s3 => ⟨fun n e => (by cases e), ?_⟩)
  exact T9 (y_sq (y_mo f rfl rfl) f2 rfl rfl) s3
end PPT1
end PT33ibr
section PT33ibs
/-! ===== v21: clear, parseTerm, parseFirst, parseSecond of the class with saying 1 (laid by wip/tools/mk21e.py) ===== -/
section PFS1
variable {X : aX} {C S d : Nat} {K0 : Option Value → aH → Nat → Nat → Prop} {sg : List Int32} {t p : Nat} {nd : Int32} {h : aH}
theorem c_clearl1 : ∀ (m : Nat) (h : aH) (iI : Int32) (i : Nat) (fr : List Int32), w_hr z_D h → iI.toInt = i → i + m = 4 → w_a h 24 = some (0, .inl fr) → fr.length = 4 → (∀ j, j < i → y_N fr j = -1) → (∀ (H : aH) (fr' : List Int32), y_fr h H [] [24, 25, 26] → w_a H 24 = some (0, .inl fr') → (∀ j, j < 4 → y_N fr' j = -1) → K0 none H C S) → aOK s_P X d a_m79 13 [some (.ref 24), some (.int iI)] [] h C S K0 := by
  have c4 : (Int32.ofInt 4).toInt = 4 := by decide
  intro m
  induction m with
  | zero =>
    intro h iI i fr hr hi hm g len hf hK
    have ei : i = 4 := by omega
    rw [ei] at hf
    refine w_go z_hl [13] [] 30 hr ?_
    refine ⟨fun _ => fun H hH => ?_, fun z => ?_⟩
    · have f : y_fr h H [] [] := y_st (y_rf hr) hH (by repeat (first | exact w_nil | refine w_cons (Or.inl (y_m rfl)) ?_ | refine w_cons (Or.inr (by assumption)) ?_)) (by repeat (first | exact w_nil | refine w_cons (Or.inl (y_m rfl)) ?_ | refine w_cons (Or.inr (by assumption)) ?_))
      exact hK H fr (y_mo f rfl rfl) ((y_ae f rfl).trans g) hf
    · have y1 : ¬ ((Int32.ofInt 4).toInt ≤ iI.toInt) := y_cif z
      rw [c4] at y1
      exfalso
      omega
  | succ m ih =>
    intro h iI i fr hr hi hm g len hf hK
    have ink : (iI + Int32.ofInt 1).toInt = ((i + 1 : Nat) : Int) := by rw [y_inc (by omega), hi]; rfl
    have ci := y_cl1 hi
    refine w_go z_hl [13] [] 60 hr ?_
    refine ⟨fun z => ?_, fun z => ?_⟩
    · have y1 : (Int32.ofInt 4).toInt ≤ iI.toInt := (y_ci .ge _ _).mp z
      rw [c4] at y1
      exfalso
      omega
    · refine ⟨⟨by omega, by omega⟩, by decide, fun l hl len1 bb => ?_⟩
      obtain rfl := y_ai g hl
      refine ⟨⟨by omega, by omega⟩, y_l32 _, fun l2 hl2 len2 bb2 => ⟨⟨by omega, by omega⟩, y_l32 _, fun l3 hl3 len3 bb3 => fun H hH => ?_⟩⟩
      have w := hH.2.2.1 24 _ rfl
      rw [ci] at w
      have f : y_fr h H [] [24, 25, 26] := y_st (y_mo (y_rf hr) rfl rfl) hH (by repeat (first | exact w_nil | refine w_cons (Or.inl (y_m rfl)) ?_ | refine w_cons (Or.inr (by assumption)) ?_)) (by repeat (first | exact w_nil | refine w_cons (Or.inl (y_m rfl)) ?_ | refine w_cons (Or.inr (by assumption)) ?_))
      refine ih H _ (i + 1) _ f.1 ink (by omega) w (by rw [List.length_set]; exact len) (fun j hj => ?_) (fun H' fr' f1 f2 f3 => hK H' fr' (y_sq f f1 rfl rfl) f2 f3)
      rw [y_Nset (by omega)]
      by_cases y : j = i
      · rw [if_pos y]
        decide
      · rw [if_neg y]
        exact hf j (by omega)
theorem c_clear1 (hr : w_hr z_D h) (hK : ∀ (H : aH) (fr : List Int32), y_fr h H [2817, 2818] [24, 25, 26] → w_a H 24 = some (0, .inl fr) → (∀ j, j < 4 → y_N fr j = -1) → K0 none H C S) : aOK s_P X d a_m79 0 [some (.ref 24), none] [] h C S K0 := by
  refine w_go z_hl [13] [] 30 hr ?_
  refine ⟨rfl, y_zini (by decide) (by decide), rfl, y_zini (by decide) (by decide), fun H hH => ?_⟩
  have f : y_fr h H [2817, 2818] [] := y_st (y_mo (y_rf hr) rfl rfl) hH (by repeat (first | exact w_nil | refine w_cons (Or.inl (y_m rfl)) ?_ | refine w_cons (Or.inr (by assumption)) ?_)) (by repeat (first | exact w_nil | refine w_cons (Or.inl (y_m rfl)) ?_ | refine w_cons (Or.inr (by assumption)) ?_))
  obtain ⟨fr, f1, fl, -⟩ := c_arr f.1 (ob := 24) (n := 4) (lo := -1) (hi := 40) rfl
  exact c_clearl1 4 H _ 0 fr f.1 (by decide) rfl f1 fl (fun j hj => absurd hj (Nat.not_lt_zero j)) (fun H' fr' e1 e2 e3 => hK H' fr' (y_sq (y_mo f rfl rfl) e1 rfl rfl) e2 e3)
theorem c_tm1 (n0 : 0 ≤ nd.toInt) (n10 : nd.toInt ≤ 10) {sI : Int32} {sd : Nat} (hs : sI.toInt = sd) (hs2 : sd < 2) (s : tx_s nd h sg t p) {fr : List Int32} (gf : w_a h 24 = some (0, .inl fr)) (hK : ∀ (b : Bool) (q k : Nat) (H : aH) (fr' : List Int32), y_fr h H [1538] [24, 25, 26, 27, 28] → tx_s nd H sg t q → pr_tm (y_N sg) t nd.toInt p = (b, q, k) → w_a H 24 = some (0, .inl fr') → (k = 0 ∧ fr' = fr) ∨ tx_f fr fr' sd k → K0 (some (.int (y_01 b))) H C S) : aOK s_P X (d + 4) a_m81 0 [some (.ref 14), some (.ref 24), some (.int sI)] [] h C S K0 := by
  have hr := (tx_s_hr s).1
  have T25 : ∀ {G : aH} {b : Bool} {q k : Nat} {pc : Nat} {fr' : List Int32}, (pc = 16 ∨ pc = 25) → y_fr h G [1538] [24, 25, 26, 27, 28] → tx_s nd G sg t q → pr_tm (y_N sg) t nd.toInt p = (b, q, k) → w_a G 24 = some (0, .inl fr') → (k = 0 ∧ fr' = fr) ∨ tx_f fr fr' sd k → aOK s_P X (d + 4) a_m81 pc [some (.ref 14), some (.ref 24), some (.int sI)] [.int (y_01 b)] G C S K0 := by
    intro G b q k pc fr' hpc e s2 hg g2 hf
    rcases hpc with rfl | rfl
    · refine w_go z_hl [] [] 20 e.1 ?_
      refine ⟨y_01b b, fun H hH => ?_⟩
      have f : y_fr G H [] [] := y_st (y_rf e.1) hH (by repeat (first | exact w_nil | refine w_cons (Or.inl (y_m rfl)) ?_ | refine w_cons (Or.inr (by assumption)) ?_)) (by repeat (first | exact w_nil | refine w_cons (Or.inl (y_m rfl)) ?_ | refine w_cons (Or.inr (by assumption)) ?_))
      exact hK b q k H fr' (y_sq e f rfl rfl) (tx_s_fr s2 f rfl rfl) hg ((y_ae f rfl).trans g2) hf
    · refine w_go z_hl [] [] 20 e.1 ?_
      refine ⟨y_01b b, fun H hH => ?_⟩
      have f : y_fr G H [] [] := y_st (y_rf e.1) hH (by repeat (first | exact w_nil | refine w_cons (Or.inl (y_m rfl)) ?_ | refine w_cons (Or.inr (by assumption)) ?_)) (by repeat (first | exact w_nil | refine w_cons (Or.inl (y_m rfl)) ?_ | refine w_cons (Or.inr (by assumption)) ?_))
      exact hK b q k H fr' (y_sq e f rfl rfl) (tx_s_fr s2 f rfl rfl) hg ((y_ae f rfl).trans g2) hf
  have T7 : ∀ {G : aH} (b : Bool), y_fr h G [] [] → (b = true → pr_dg (y_N sg) t p) → (b = false → ¬ pr_dg (y_N sg) t p) → aOK s_P X (d + 4) a_m81 7 [some (.ref 14), some (.ref 24), some (.int sI)] [.int (y_01 b)] G C S K0 := by
    intro G b e hy hn
    cases b with
    | true =>
      refine w_go z_hl [] [84, 86] 30 e.1 ?_
      refine ⟨fun z => absurd z (by decide), fun _ => fun H hH => ?_⟩
      have f : y_fr h H [] [] := y_st e hH (by repeat (first | exact w_nil | refine w_cons (Or.inl (y_m rfl)) ?_ | refine w_cons (Or.inr (by assumption)) ?_)) (by repeat (first | exact w_nil | refine w_cons (Or.inl (y_m rfl)) ?_ | refine w_cons (Or.inr (by assumption)) ?_))
      refine c_rt1 (d := d + 1) hs hs2 (tx_s_fr s f rfl rfl) (fun b q H2 f2 s3 hg => ⟨fun n e => (by cases e), ?_⟩)
      exact T25 (k := 0) (Or.inl rfl) (y_sq (y_mo f rfl rfl) f2 rfl rfl) s3 (by rw [pr_tm_1 (hy rfl)]; exact hg) ((y_ae f2 rfl).trans ((y_ae f rfl).trans gf)) (Or.inl ⟨rfl, rfl⟩)
    | false =>
      refine w_go z_hl [] [84, 86] 30 e.1 ?_
      refine ⟨fun _ => fun H hH => ?_, fun z => absurd z (by decide)⟩
      have f : y_fr h H [] [] := y_st e hH (by repeat (first | exact w_nil | refine w_cons (Or.inl (y_m rfl)) ?_ | refine w_cons (Or.inr (by assumption)) ?_)) (by repeat (first | exact w_nil | refine w_cons (Or.inl (y_m rfl)) ?_ | refine w_cons (Or.inr (by assumption)) ?_))
      refine c_gv1 (d := d) n0 n10 hs hs2 (tx_s_fr s f rfl rfl) ((y_ae f rfl).trans gf) (fun b q k H2 fr' f2 s3 hg g3 hf => ⟨fun n e => (by cases e), ?_⟩)
      exact T25 (Or.inr rfl) (y_sq (y_mo f rfl rfl) f2 rfl rfl) s3 (by rw [pr_tm_0 (hn rfl)]; exact hg) g3 (Or.inr hf)
  have T4 : ∀ {G : aH} {cI : Int32}, y_fr h G [] [] → cI.toInt = pr_k (y_N sg) t p → aOK s_P X (d + 4) a_m81 4 [some (.ref 14), some (.ref 24), some (.int sI)] [.int cI] G C S K0 := by
    intro G cI e hc
    refine w_go z_hl [] [83] 20 e.1 ?_
    intro H hH
    have f : y_fr h H [] [] := y_st e hH (by repeat (first | exact w_nil | refine w_cons (Or.inl (y_m rfl)) ?_ | refine w_cons (Or.inr (by assumption)) ?_)) (by repeat (first | exact w_nil | refine w_cons (Or.inl (y_m rfl)) ?_ | refine w_cons (Or.inr (by assumption)) ?_))
    refine c_isDg (c := cI) f.1 (fun H2 f2 w => ⟨fun n e => (by cases e), ?_⟩) (fun H2 f2 w => ⟨fun n e => (by cases e), ?_⟩)
    · exact T7 true (y_sq f f2 rfl rfl) (fun _ => ⟨by omega, by omega⟩) (fun z => absurd z (by decide))
    · exact T7 false (y_sq f f2 rfl rfl) (fun z => absurd z (by decide)) (fun _ z => w ⟨by have := z.1; omega, by have := z.2; omega⟩)
  refine w_go z_hl [] [82] 20 hr ?_
  intro H hH
  have f : y_fr h H [] [] := y_st (y_rf hr) hH (by repeat (first | exact w_nil | refine w_cons (Or.inl (y_m rfl)) ?_ | refine w_cons (Or.inr (by assumption)) ?_)) (by repeat (first | exact w_nil | refine w_cons (Or.inl (y_m rfl)) ?_ | refine w_cons (Or.inr (by assumption)) ?_))
  refine c_lkT (tx_s_fr s f rfl rfl) (fun r H2 f2 er => ⟨fun n e => (by cases e), ?_⟩)
  exact T4 (y_sq f f2 rfl rfl) er
theorem c_isNum1 (hr : w_hr z_D h) {fr : List Int32} (gf : w_a h 24 = some (0, .inl fr)) (hK : ∀ (H : aH), y_fr h H [] [] → K0 (some (.int (y_01 (decide (y_N fr 0 = -1))))) H C S) : aOK s_P X d a_m89 0 [some (.ref 24), some (.int (Int32.ofInt 0))] [] h C S K0 := by
  have m1 : (Int32.ofInt 2 * Int32.ofInt 0).toInt = ((0 : Nat) : Int) := by decide
  have cm := y_cl1 m1
  have cn : (Int32.ofInt (-1)).toInt = -1 := by decide
  refine w_go z_hl [] [] 30 hr ?_
  refine ⟨⟨by decide, by decide⟩, fun l hl len bb => ?_⟩
  obtain rfl := y_ai gf hl
  refine ⟨fun z => ⟨by decide, fun H hH => ?_⟩, fun z => ⟨by decide, fun H hH => ?_⟩⟩
  · have y1 : (fr.getD (Int32.ofInt 2 * Int32.ofInt 0).toNatClampNeg 0).toInt ≠ (Int32.ofInt (-1)).toInt := (y_ci .ne _ _).mp z
    rw [cm, cn] at y1
    have w := hK H (y_st (y_rf hr) hH (by repeat (first | exact w_nil | refine w_cons (Or.inl (y_m rfl)) ?_ | refine w_cons (Or.inr (by assumption)) ?_)) (by repeat (first | exact w_nil | refine w_cons (Or.inl (y_m rfl)) ?_ | refine w_cons (Or.inr (by assumption)) ?_)))
    rw [decide_eq_false (show ¬ (y_N fr 0 = -1) from y1)] at w
    exact w
  · have y1 : ¬ ((fr.getD (Int32.ofInt 2 * Int32.ofInt 0).toNatClampNeg 0).toInt ≠ (Int32.ofInt (-1)).toInt) := y_cif z
    rw [cm, cn] at y1
    have w := hK H (y_st (y_rf hr) hH (by repeat (first | exact w_nil | refine w_cons (Or.inl (y_m rfl)) ?_ | refine w_cons (Or.inr (by assumption)) ?_)) (by repeat (first | exact w_nil | refine w_cons (Or.inl (y_m rfl)) ?_ | refine w_cons (Or.inr (by assumption)) ?_)))
    rw [decide_eq_true (show y_N fr 0 = -1 from Decidable.not_not.mp y1)] at w
    exact w
theorem c_first1 (n0 : 0 ≤ nd.toInt) (n10 : nd.toInt ≤ 10) (s : tx_s nd h sg t 0) {fr : List Int32} (gf : w_a h 24 = some (0, .inl fr)) (hf0 : y_N fr 0 = -1) (hf1 : y_N fr 1 = -1) (yes : ∀ (q k : Nat) (H : aH) (rel : Int32) (fr' : List Int32), y_fr h H [1538, 2818] [24, 25, 26, 27, 28] → tx_s nd H sg t (q + 1) → pr_tm (y_N sg) t nd.toInt 0 = (true, q, k) → w_f H 2818 = some (.int rel) → w_a H 24 = some (0, .inl fr') → ((pr_k (y_N sg) t q = 126 ∧ k = 1) ∧ rel.toInt = 126) ∨ (¬ (pr_k (y_N sg) t q = 126 ∧ k = 1) ∧ (pr_k (y_N sg) t q = 61 ∨ pr_k (y_N sg) t q = 60 ∨ pr_k (y_N sg) t q = 62) ∧ rel.toInt ≠ 126) → K0 (some (.int (y_01 true))) H C S) (no : ∀ (q : Nat) (H : aH), y_fr h H [1538, 2818] [24, 25, 26, 27, 28] → tx_s nd H sg t q → pr_sy (y_N sg) t nd.toInt = (false, q) → K0 (some (.int (y_01 false))) H C S) : aOK s_P X (d + 5) a_m80 0 [some (.ref 14), some (.ref 24), none, none] [] h C S K0 := by
  have hr := (tx_s_hr s).1
  have c126 : ((Int8.ofInt 126).toInt32).toInt = 126 := by decide
  have c61 : ((Int8.ofInt 61).toInt32).toInt = 61 := by decide
  have c60 : ((Int8.ofInt 60).toInt32).toInt = 60 := by decide
  have c62 : ((Int8.ofInt 62).toInt32).toInt = 62 := by decide
  have cn : (Int32.ofInt (-1)).toInt = -1 := by decide
  have T70 : ∀ {G : aH} {q k : Nat} {cI : Int32} {p3 : Option Value} {fr' : List Int32}, y_fr h G [1538, 2818] [24, 25, 26, 27, 28] → tx_s nd G sg t q → q < t → pr_tm (y_N sg) t nd.toInt 0 = (true, q, k) → w_a G 24 = some (0, .inl fr') → cI.toInt = pr_k (y_N sg) t q → 0 ≤ cI.toInt → cI.toInt ≤ 65535 → ((pr_k (y_N sg) t q = 126 ∧ k = 1) ∨ (¬ (pr_k (y_N sg) t q = 126 ∧ k = 1) ∧ (pr_k (y_N sg) t q = 61 ∨ pr_k (y_N sg) t q = 60 ∨ pr_k (y_N sg) t q = 62))) → aOK s_P X (d + 5) a_m80 70 [some (.ref 14), some (.ref 24), some (.int cI), p3] [] G C S K0 := by
    intro G q k cI p3 fr' e s2 qt ht g2 hc c0 c65 hw
    obtain ⟨toJ, atJ, -, b1, b2, b3, b4, b5, b6, -, t40⟩ := id s2
    have inc : (atJ + Int32.ofInt 1).toInt = ((q + 1 : Nat) : Int) := by rw [y_inc (by omega), b5]; rfl
    refine w_go z_hl [] [] 40 e.1 ?_
    refine ⟨y_fitC c0 c65, y_zini c0 c65, ?_⟩
    intro x hx _ _
    obtain rfl := y_fi b4 hx
    refine ⟨rfl, y_zini (by show 0 ≤ (atJ + Int32.ofInt 1).toInt; omega) (by show (atJ + Int32.ofInt 1).toInt ≤ 40; omega), by decide, fun H hH => ?_⟩
    have f : y_fr G H [1538, 2818] [] := y_st (y_mo (y_rf e.1) rfl rfl) hH (by repeat (first | exact w_nil | refine w_cons (Or.inl (y_m rfl)) ?_ | refine w_cons (Or.inr (by assumption)) ?_)) (by repeat (first | exact w_nil | refine w_cons (Or.inl (y_m rfl)) ?_ | refine w_cons (Or.inr (by assumption)) ?_))
    have s3 : tx_s nd H sg t (q + 1) := ⟨toJ, _, f.1, (y_ae f rfl).trans b1, (y_fe f rfl).trans b2, b3, hH.2.1 1538 _ rfl, inc, (y_fe f rfl).trans b6, by omega, t40⟩
    refine yes q k H cI fr' (y_sq e f rfl rfl) s3 ht (hH.2.1 2818 _ rfl) ((y_ae f rfl).trans g2) ?_
    rcases hw with w | ⟨w, w2⟩
    · exact Or.inl ⟨w, by rw [hc]; exact w.1⟩
    · refine Or.inr ⟨w, w2, ?_⟩
      rw [hc]
      rcases w2 with w3 | w3 | w3
      · omega
      · omega
      · omega
  have T45 : ∀ {G : aH} {q k : Nat} {cI : Int32} {fr' : List Int32} (b : Bool), y_fr h G [1538, 2818] [24, 25, 26, 27, 28] → tx_s nd G sg t q → pr_tm (y_N sg) t nd.toInt 0 = (true, q, k) → w_a G 24 = some (0, .inl fr') → cI.toInt = pr_k (y_N sg) t q → 0 ≤ cI.toInt → cI.toInt ≤ 65535 → (b = true → pr_k (y_N sg) t q = 126 ∧ k = 1) → (b = false → ¬ (pr_k (y_N sg) t q = 126 ∧ k = 1)) → aOK s_P X (d + 5) a_m80 45 [some (.ref 14), some (.ref 24), some (.int cI), none] [.int (y_01 b)] G C S K0 := by
    intro G q k cI fr' b e s2 ht g2 hc c0 c65 hy hn
    have f0 : y_fr G G [] [] := y_rf e.1
    have go : ∀ {H : aH} {p3 : Option Value}, y_fr G H [] [] → q < t → ((pr_k (y_N sg) t q = 126 ∧ k = 1) ∨ (¬ (pr_k (y_N sg) t q = 126 ∧ k = 1) ∧ (pr_k (y_N sg) t q = 61 ∨ pr_k (y_N sg) t q = 60 ∨ pr_k (y_N sg) t q = 62))) → aOK s_P X (d + 5) a_m80 70 [some (.ref 14), some (.ref 24), some (.int cI), p3] [] H C S K0 := fun f qt w => T70 (y_sq e f rfl rfl) (tx_s_fr s2 f rfl rfl) qt ht ((y_ae f rfl).trans g2) hc c0 c65 w
    have q61 : cI.toInt = 61 → ¬ (pr_k (y_N sg) t q = 126 ∧ k = 1) := fun z w => by have := w.1; omega
    have q60 : cI.toInt = 60 → ¬ (pr_k (y_N sg) t q = 126 ∧ k = 1) := fun z w => by have := w.1; omega
    have q62 : cI.toInt = 62 → ¬ (pr_k (y_N sg) t q = 126 ∧ k = 1) := fun z w => by have := w.1; omega
    cases b with
    | true =>
      refine w_go z_hl [70] [] 40 e.1 ?_
      refine ⟨fun z => fun H hH => ?_, fun z => ⟨fun z2 => fun H hH => ?_, fun z2 => ⟨fun z3 => fun H hH => ?_, fun z3 => ⟨fun _ => fun H hH => ?_, fun z4 => absurd z4 (by decide)⟩⟩⟩⟩
      · have y1 : cI.toInt = ((Int8.ofInt 61).toInt32).toInt := (y_ci .eq _ _).mp z
        rw [c61] at y1
        exact go (y_st f0 hH (by repeat (first | exact w_nil | refine w_cons (Or.inl (y_m rfl)) ?_ | refine w_cons (Or.inr (by assumption)) ?_)) (by repeat (first | exact w_nil | refine w_cons (Or.inl (y_m rfl)) ?_ | refine w_cons (Or.inr (by assumption)) ?_))) (pr_k_t (c := 61) (by decide) (hc.symm.trans y1)) (Or.inr ⟨q61 y1, Or.inl (hc.symm.trans y1)⟩)
      · have y1 : cI.toInt = ((Int8.ofInt 60).toInt32).toInt := (y_ci .eq _ _).mp z2
        rw [c60] at y1
        exact go (y_st f0 hH (by repeat (first | exact w_nil | refine w_cons (Or.inl (y_m rfl)) ?_ | refine w_cons (Or.inr (by assumption)) ?_)) (by repeat (first | exact w_nil | refine w_cons (Or.inl (y_m rfl)) ?_ | refine w_cons (Or.inr (by assumption)) ?_))) (pr_k_t (c := 60) (by decide) (hc.symm.trans y1)) (Or.inr ⟨q60 y1, Or.inr (Or.inl (hc.symm.trans y1))⟩)
      · have y1 : cI.toInt = ((Int8.ofInt 62).toInt32).toInt := (y_ci .eq _ _).mp z3
        rw [c62] at y1
        exact go (y_st f0 hH (by repeat (first | exact w_nil | refine w_cons (Or.inl (y_m rfl)) ?_ | refine w_cons (Or.inr (by assumption)) ?_)) (by repeat (first | exact w_nil | refine w_cons (Or.inl (y_m rfl)) ?_ | refine w_cons (Or.inr (by assumption)) ?_))) (pr_k_t (c := 62) (by decide) (hc.symm.trans y1)) (Or.inr ⟨q62 y1, Or.inr (Or.inr (hc.symm.trans y1))⟩)
      · exact go (y_st f0 hH (by repeat (first | exact w_nil | refine w_cons (Or.inl (y_m rfl)) ?_ | refine w_cons (Or.inr (by assumption)) ?_)) (by repeat (first | exact w_nil | refine w_cons (Or.inl (y_m rfl)) ?_ | refine w_cons (Or.inr (by assumption)) ?_))) (pr_k_t (c := 126) (by decide) (hy rfl).1) (Or.inl (hy rfl))
    | false =>
      refine w_go z_hl [70] [] 40 e.1 ?_
      refine ⟨fun z => fun H hH => ?_, fun z => ⟨fun z2 => fun H hH => ?_, fun z2 => ⟨fun z3 => fun H hH => ?_, fun z3 => ⟨fun z4 => absurd z4 (by decide), fun _ => ⟨by decide, fun H hH => ?_⟩⟩⟩⟩⟩
      · have y1 : cI.toInt = ((Int8.ofInt 61).toInt32).toInt := (y_ci .eq _ _).mp z
        rw [c61] at y1
        exact go (y_st f0 hH (by repeat (first | exact w_nil | refine w_cons (Or.inl (y_m rfl)) ?_ | refine w_cons (Or.inr (by assumption)) ?_)) (by repeat (first | exact w_nil | refine w_cons (Or.inl (y_m rfl)) ?_ | refine w_cons (Or.inr (by assumption)) ?_))) (pr_k_t (c := 61) (by decide) (hc.symm.trans y1)) (Or.inr ⟨q61 y1, Or.inl (hc.symm.trans y1)⟩)
      · have y1 : cI.toInt = ((Int8.ofInt 60).toInt32).toInt := (y_ci .eq _ _).mp z2
        rw [c60] at y1
        exact go (y_st f0 hH (by repeat (first | exact w_nil | refine w_cons (Or.inl (y_m rfl)) ?_ | refine w_cons (Or.inr (by assumption)) ?_)) (by repeat (first | exact w_nil | refine w_cons (Or.inl (y_m rfl)) ?_ | refine w_cons (Or.inr (by assumption)) ?_))) (pr_k_t (c := 60) (by decide) (hc.symm.trans y1)) (Or.inr ⟨q60 y1, Or.inr (Or.inl (hc.symm.trans y1))⟩)
      · have y1 : cI.toInt = ((Int8.ofInt 62).toInt32).toInt := (y_ci .eq _ _).mp z3
        rw [c62] at y1
        exact go (y_st f0 hH (by repeat (first | exact w_nil | refine w_cons (Or.inl (y_m rfl)) ?_ | refine w_cons (Or.inr (by assumption)) ?_)) (by repeat (first | exact w_nil | refine w_cons (Or.inl (y_m rfl)) ?_ | refine w_cons (Or.inr (by assumption)) ?_))) (pr_k_t (c := 62) (by decide) (hc.symm.trans y1)) (Or.inr ⟨q62 y1, Or.inr (Or.inr (hc.symm.trans y1))⟩)
      · have y1 : ¬ (cI.toInt = ((Int8.ofInt 61).toInt32).toInt) := y_cif z
        have y2 : ¬ (cI.toInt = ((Int8.ofInt 60).toInt32).toInt) := y_cif z2
        have y3 : ¬ (cI.toInt = ((Int8.ofInt 62).toInt32).toInt) := y_cif z3
        rw [c61, hc] at y1
        rw [c60, hc] at y2
        rw [c62, hc] at y3
        have f : y_fr G H [] [] := y_st f0 hH (by repeat (first | exact w_nil | refine w_cons (Or.inl (y_m rfl)) ?_ | refine w_cons (Or.inr (by assumption)) ?_)) (by repeat (first | exact w_nil | refine w_cons (Or.inl (y_m rfl)) ?_ | refine w_cons (Or.inr (by assumption)) ?_))
        exact no q H (y_sq e f rfl rfl) (tx_s_fr s2 f rfl rfl) (pr_sy_x ht (hn rfl) (fun w => by rcases w with w | w | w; exact y1 w; exact y2 w; exact y3 w))
  have T27 : ∀ {G : aH} {q k : Nat} {cI : Int32} {fr' : List Int32} (b : Bool), y_fr h G [1538, 2818] [24, 25, 26, 27, 28] → tx_s nd G sg t q → pr_tm (y_N sg) t nd.toInt 0 = (true, q, k) → w_a G 24 = some (0, .inl fr') → cI.toInt = pr_k (y_N sg) t q → 0 ≤ cI.toInt → cI.toInt ≤ 65535 → pr_k (y_N sg) t q = 126 → (b = true → k = 0) → (b = false → k ≠ 0 ∧ (k = 1 → y_N fr' 1 = -1) ∧ (k ≠ 1 → 0 ≤ y_N fr' 1)) → aOK s_P X (d + 5) a_m80 27 [some (.ref 14), some (.ref 24), some (.int cI), none] [.int (y_01 b)] G C S K0 := by
    intro G q k cI fr' b e s2 ht g2 hc c0 c65 h126 hy hn
    have f0 : y_fr G G [] [] := y_rf e.1
    cases b with
    | true =>
      refine w_go z_hl [45] [] 30 e.1 ?_
      refine ⟨fun _ => fun H hH => ?_, fun z => absurd z (by decide)⟩
      have f : y_fr G H [] [] := y_st f0 hH (by repeat (first | exact w_nil | refine w_cons (Or.inl (y_m rfl)) ?_ | refine w_cons (Or.inr (by assumption)) ?_)) (by repeat (first | exact w_nil | refine w_cons (Or.inl (y_m rfl)) ?_ | refine w_cons (Or.inr (by assumption)) ?_))
      exact T45 false (y_sq e f rfl rfl) (tx_s_fr s2 f rfl rfl) ht ((y_ae f rfl).trans g2) hc c0 c65 (fun w => absurd w (by decide)) (fun _ w => by have := hy rfl; omega)
    | false =>
      obtain ⟨k0, k1, k2⟩ := hn rfl
      have i1 : (Int32.ofInt 1).toInt = ((1 : Nat) : Int) := by decide
      have ci1 := y_cl1 i1
      refine w_go z_hl [45] [] 30 e.1 ?_
      refine ⟨fun z => absurd z (by decide), fun _ => ⟨⟨by decide, by decide⟩, fun l hl len bb => ?_⟩⟩
      obtain rfl := y_ai g2 hl
      refine ⟨fun z => fun H hH => ?_, fun z => fun H hH => ?_⟩
      · have y1 : (fr'.getD (Int32.ofInt 1).toNatClampNeg 0).toInt ≠ (Int32.ofInt (-1)).toInt := (y_ci .ne _ _).mp z
        rw [ci1, cn] at y1
        have y2 : y_N fr' 1 ≠ -1 := y1
        have f : y_fr G H [] [] := y_st f0 hH (by repeat (first | exact w_nil | refine w_cons (Or.inl (y_m rfl)) ?_ | refine w_cons (Or.inr (by assumption)) ?_)) (by repeat (first | exact w_nil | refine w_cons (Or.inl (y_m rfl)) ?_ | refine w_cons (Or.inr (by assumption)) ?_))
        exact T45 false (y_sq e f rfl rfl) (tx_s_fr s2 f rfl rfl) ht ((y_ae f rfl).trans g2) hc c0 c65 (fun w => absurd w (by decide)) (fun _ w => y2 (k1 w.2))
      · have y1 : ¬ ((fr'.getD (Int32.ofInt 1).toNatClampNeg 0).toInt ≠ (Int32.ofInt (-1)).toInt) := y_cif z
        rw [ci1, cn] at y1
        have y2 : y_N fr' 1 = -1 := Decidable.not_not.mp y1
        have f : y_fr G H [] [] := y_st f0 hH (by repeat (first | exact w_nil | refine w_cons (Or.inl (y_m rfl)) ?_ | refine w_cons (Or.inr (by assumption)) ?_)) (by repeat (first | exact w_nil | refine w_cons (Or.inl (y_m rfl)) ?_ | refine w_cons (Or.inr (by assumption)) ?_))
        refine T45 true (y_sq e f rfl rfl) (tx_s_fr s2 f rfl rfl) ht ((y_ae f rfl).trans g2) hc c0 c65 (fun _ => ⟨h126, ?_⟩) (fun w => absurd w (by decide))
        rcases Nat.decEq k 1 with w | w
        · have := k2 w
          omega
        · exact w
  have T15 : ∀ {G : aH} {q k : Nat} {cI : Int32} {fr' : List Int32}, y_fr h G [1538, 2818] [24, 25, 26, 27, 28] → tx_s nd G sg t q → pr_tm (y_N sg) t nd.toInt 0 = (true, q, k) → w_a G 24 = some (0, .inl fr') → (k = 0 ∧ fr' = fr) ∨ tx_f fr fr' 0 k → cI.toInt = pr_k (y_N sg) t q → 0 ≤ cI.toInt → cI.toInt ≤ 65535 → aOK s_P X (d + 5) a_m80 15 [some (.ref 14), some (.ref 24), none, none] [.int cI] G C S K0 := by
    intro G q k cI fr' e s2 ht g2 hf hc c0 c65
    have f0 : y_fr G G [] [] := y_rf e.1
    refine w_go z_hl [45] [89] 30 e.1 ?_
    refine ⟨fun z => fun H hH => ?_, fun z => fun H hH => ?_⟩
    · have y1 : cI.toInt ≠ ((Int8.ofInt 126).toInt32).toInt := (y_ci .ne _ _).mp z
      rw [c126, hc] at y1
      have f : y_fr G H [] [] := y_st f0 hH (by repeat (first | exact w_nil | refine w_cons (Or.inl (y_m rfl)) ?_ | refine w_cons (Or.inr (by assumption)) ?_)) (by repeat (first | exact w_nil | refine w_cons (Or.inl (y_m rfl)) ?_ | refine w_cons (Or.inr (by assumption)) ?_))
      exact T45 false (y_sq e f rfl rfl) (tx_s_fr s2 f rfl rfl) ht ((y_ae f rfl).trans g2) hc c0 c65 (fun w => absurd w (by decide)) (fun _ w => y1 w.1)
    · have y1 : ¬ (cI.toInt ≠ ((Int8.ofInt 126).toInt32).toInt) := y_cif z
      rw [c126, hc] at y1
      have y2 : pr_k (y_N sg) t q = 126 := Decidable.not_not.mp y1
      have f : y_fr G H [] [] := y_st f0 hH (by repeat (first | exact w_nil | refine w_cons (Or.inl (y_m rfl)) ?_ | refine w_cons (Or.inr (by assumption)) ?_)) (by repeat (first | exact w_nil | refine w_cons (Or.inl (y_m rfl)) ?_ | refine w_cons (Or.inr (by assumption)) ?_))
      refine c_isNum1 f.1 ((y_ae f rfl).trans g2) (fun H2 f2 => ⟨fun n e => (by cases e), ?_⟩)
      have e3 := y_sq (y_sq e f rfl rfl) f2 rfl rfl
      have s3 := tx_s_fr (tx_s_fr s2 f rfl rfl) f2 rfl rfl
      have g3 := (y_ae f2 rfl).trans ((y_ae f rfl).trans g2)
      rcases hf with ⟨hf, hf'⟩ | ⟨hf, hg, hh, hi⟩
      · rw [decide_eq_true (show y_N fr' 0 = -1 by rw [hf']; exact hf0)]
        exact T27 true e3 s3 ht g3 hc c0 c65 y2 (fun _ => hf) (fun w => absurd w (by decide))
      · have hg' : 0 ≤ y_N fr' 0 := hg
        rw [decide_eq_false (show ¬ (y_N fr' 0 = -1) by omega)]
        refine T27 false e3 s3 ht g3 hc c0 c65 y2 (fun w => absurd w (by decide)) (fun _ => ⟨by omega, fun w => ?_, fun w => ?_⟩)
        · rw [hh w 1 (by decide)]
          exact hf1
        · exact (hi (by omega)).1
  have T6 : ∀ {G : aH} {q k : Nat} {fr' : List Int32} (b : Bool), y_fr h G [1538, 2818] [24, 25, 26, 27, 28] → tx_s nd G sg t q → pr_tm (y_N sg) t nd.toInt 0 = (b, q, k) → w_a G 24 = some (0, .inl fr') → (k = 0 ∧ fr' = fr) ∨ tx_f fr fr' 0 k → aOK s_P X (d + 5) a_m80 6 [some (.ref 14), some (.ref 24), none, none] [.int (y_01 b)] G C S K0 := by
    intro G q k fr' b e s2 ht g2 hf
    cases b with
    | true =>
      refine w_go z_hl [] [82] 30 e.1 ?_
      refine ⟨fun _ => fun H hH => ?_, fun z => absurd z (by decide)⟩
      have f : y_fr G H [] [] := y_st (y_rf e.1) hH (by repeat (first | exact w_nil | refine w_cons (Or.inl (y_m rfl)) ?_ | refine w_cons (Or.inr (by assumption)) ?_)) (by repeat (first | exact w_nil | refine w_cons (Or.inl (y_m rfl)) ?_ | refine w_cons (Or.inr (by assumption)) ?_))
      obtain ⟨sg', z1, z2, z3⟩ := w_arrI f.1 (o := 13) (t := 3) (n := 60) (lo := 0) (hi := 65535) (by decide) rfl
      have kb : 0 ≤ pr_k (y_N sg) t q ∧ pr_k (y_N sg) t q ≤ 65535 := by
        obtain ⟨-, -, -, b1, -, -, -, -, -, -, t40⟩ := tx_s_fr s2 f rfl rfl
        have e4 := w_a_at z1
        rw [b1] at e4
        obtain rfl : sg = sg' := by
          injection e4 with e5
          injection e5 with _ e6
          injection e6
        by_cases w : q < t
        · rw [pr_k_1 w]
          exact z3 _ (z_gd (0 : Int32) (show q < sg.length by omega))
        · rw [show pr_k (y_N sg) t q = 0 from if_neg w]
          decide
      refine c_lkT (tx_s_fr s2 f rfl rfl) (fun r H2 f2 er => ⟨fun n e => (by cases e), ?_⟩)
      exact T15 (y_sq (y_sq e f rfl rfl) f2 rfl rfl) (tx_s_fr (tx_s_fr s2 f rfl rfl) f2 rfl rfl) ht ((y_ae f2 rfl).trans ((y_ae f rfl).trans g2)) hf er (by omega) (by omega)
    | false =>
      refine w_go z_hl [] [82] 30 e.1 ?_
      refine ⟨fun z => absurd z (by decide), fun _ => ⟨by decide, fun H hH => ?_⟩⟩
      have f : y_fr G H [] [] := y_st (y_rf e.1) hH (by repeat (first | exact w_nil | refine w_cons (Or.inl (y_m rfl)) ?_ | refine w_cons (Or.inr (by assumption)) ?_)) (by repeat (first | exact w_nil | refine w_cons (Or.inl (y_m rfl)) ?_ | refine w_cons (Or.inr (by assumption)) ?_))
      exact no q H (y_sq e f rfl rfl) (tx_s_fr s2 f rfl rfl) (pr_sy_n ht)
  refine w_go z_hl [] [81] 20 hr ?_
  intro H hH
  have f : y_fr h H [] [] := y_st (y_rf hr) hH (by repeat (first | exact w_nil | refine w_cons (Or.inl (y_m rfl)) ?_ | refine w_cons (Or.inr (by assumption)) ?_)) (by repeat (first | exact w_nil | refine w_cons (Or.inl (y_m rfl)) ?_ | refine w_cons (Or.inr (by assumption)) ?_))
  refine c_tm1 (d := d) (sd := 0) n0 n10 (by decide) (by decide) (tx_s_fr s f rfl rfl) ((y_ae f rfl).trans gf) (fun b q k H2 fr' f2 s3 ht g3 hf => ⟨fun n e => (by cases e), ?_⟩)
  exact T6 b (y_sq (y_mo f rfl rfl) f2 rfl rfl) s3 ht g3 hf
theorem c_second1 (n0 : 0 ≤ nd.toInt) (n10 : nd.toInt ≤ 10) (s : tx_s nd h sg t p) {rel : Int32} (gr : w_f h 2818 = some (.int rel)) (hK : ∀ (b : Bool) (q k : Nat) (H : aH), y_fr h H [1538] [24, 25, 26, 27, 28] → tx_s nd H sg t q → (rel.toInt = 126 → pr_gv (y_N sg) t nd.toInt p = (b, q, k)) → (rel.toInt ≠ 126 → pr_tm (y_N sg) t nd.toInt p = (b, q, k)) → K0 (some (.int (y_01 b))) H C S) : aOK s_P X (d + 5) a_m90 0 [some (.ref 14), some (.ref 24)] [] h C S K0 := by
  have hr := (tx_s_hr s).1
  have c126 : ((Int8.ofInt 126).toInt32).toInt = 126 := by decide
  obtain ⟨fr, gf, -, -⟩ := c_arr hr (ob := 24) (n := 4) (lo := -1) (hi := 40) rfl
  have T22 : ∀ {G : aH} {b : Bool} {q k pc : Nat}, (pc = 13 ∨ pc = 22) → y_fr h G [1538] [24, 25, 26, 27, 28] → tx_s nd G sg t q → (rel.toInt = 126 → pr_gv (y_N sg) t nd.toInt p = (b, q, k)) → (rel.toInt ≠ 126 → pr_tm (y_N sg) t nd.toInt p = (b, q, k)) → aOK s_P X (d + 5) a_m90 pc [some (.ref 14), some (.ref 24)] [.int (y_01 b)] G C S K0 := by
    intro G b q k pc hpc e s2 h1 h2
    rcases hpc with rfl | rfl
    · refine w_go z_hl [] [] 20 e.1 ?_
      refine ⟨y_01b b, fun H hH => ?_⟩
      have f : y_fr G H [] [] := y_st (y_rf e.1) hH (by repeat (first | exact w_nil | refine w_cons (Or.inl (y_m rfl)) ?_ | refine w_cons (Or.inr (by assumption)) ?_)) (by repeat (first | exact w_nil | refine w_cons (Or.inl (y_m rfl)) ?_ | refine w_cons (Or.inr (by assumption)) ?_))
      exact hK b q k H (y_sq e f rfl rfl) (tx_s_fr s2 f rfl rfl) h1 h2
    · refine w_go z_hl [] [] 20 e.1 ?_
      refine ⟨y_01b b, fun H hH => ?_⟩
      have f : y_fr G H [] [] := y_st (y_rf e.1) hH (by repeat (first | exact w_nil | refine w_cons (Or.inl (y_m rfl)) ?_ | refine w_cons (Or.inr (by assumption)) ?_)) (by repeat (first | exact w_nil | refine w_cons (Or.inl (y_m rfl)) ?_ | refine w_cons (Or.inr (by assumption)) ?_))
      exact hK b q k H (y_sq e f rfl rfl) (tx_s_fr s2 f rfl rfl) h1 h2
  refine w_go z_hl [] [81, 86] 40 hr ?_
  intro x hx _ _
  obtain rfl := y_fi gr hx
  refine ⟨fun z => ⟨by decide, ⟨fun _ => fun H hH => ?_, fun z2 => absurd z2 (by decide)⟩⟩, fun z => ⟨by decide, ⟨fun z2 => absurd z2 (by decide), fun _ => fun H hH => ?_⟩⟩⟩
  · have y1 : rel.toInt ≠ ((Int8.ofInt 126).toInt32).toInt := (y_ci .ne _ _).mp z
    rw [c126] at y1
    have f : y_fr h H [] [] := y_st (y_rf hr) hH (by repeat (first | exact w_nil | refine w_cons (Or.inl (y_m rfl)) ?_ | refine w_cons (Or.inr (by assumption)) ?_)) (by repeat (first | exact w_nil | refine w_cons (Or.inl (y_m rfl)) ?_ | refine w_cons (Or.inr (by assumption)) ?_))
    refine c_tm1 (d := d) (sd := 1) n0 n10 (by decide) (by decide) (tx_s_fr s f rfl rfl) ((y_ae f rfl).trans gf) (fun b q k H2 fr' f2 s3 ht g3 hf => ⟨fun n e => (by cases e), ?_⟩)
    exact T22 (k := k) (Or.inr rfl) (y_sq (y_mo f rfl rfl) f2 rfl rfl) s3 (fun w => absurd w y1) (fun _ => ht)
  · have y1 : ¬ (rel.toInt ≠ ((Int8.ofInt 126).toInt32).toInt) := y_cif z
    rw [c126] at y1
    have f : y_fr h H [] [] := y_st (y_rf hr) hH (by repeat (first | exact w_nil | refine w_cons (Or.inl (y_m rfl)) ?_ | refine w_cons (Or.inr (by assumption)) ?_)) (by repeat (first | exact w_nil | refine w_cons (Or.inl (y_m rfl)) ?_ | refine w_cons (Or.inr (by assumption)) ?_))
    refine c_gv1 (d := d + 1) (sd := 1) n0 n10 (by decide) (by decide) (tx_s_fr s f rfl rfl) ((y_ae f rfl).trans gf) (fun b q k H2 fr' f2 s3 hg g3 hf => ⟨fun n e => (by cases e), ?_⟩)
    exact T22 (k := k) (Or.inl rfl) (y_sq (y_mo f rfl rfl) f2 rfl rfl) s3 (fun _ => hg) (fun w => absurd w y1)
end PFS1
end PT33ibs
section PT33ibt
/-! ===== v21: parse of the class with saying 1 (laid by wip/tools/mk21f.py) ===== -/
section PPS1
variable {X : aX} {C S d : Nat} {K0 : Option Value → aH → Nat → Nat → Prop} {sg : List Int32} {nd len : Int32} {h : aH}
theorem c_parse1 (hr : w_hr z_D h) (n0 : 0 ≤ nd.toInt) (n10 : nd.toInt ≤ 10) (l0 : 0 ≤ len.toInt) (l60 : len.toInt ≤ 60) (gs : w_a h 13 = some (3, .inl sg)) (hK : ∀ (r : Int32) (H : aH), y_fr h H [1538, 1539, 1540, 2817, 2818] [23, 24, 25, 26, 27, 28] → r.toInt = pr_wr (y_N sg) len.toInt.toNat nd.toInt → (pr_sy (y_N sg) (pr_t len.toInt.toNat) nd.toInt).2 ≤ pr_t len.toInt.toNat → K0 (some (.int r)) H C S) : aOK s_P X (d + 6) a_m78 0 [some (.ref 14), some (.int len), some (.int nd), some (.ref 24), none] [] h C S K0 := by
  have c40 : ((Int8.ofInt 40).toInt32).toInt = 40 := by decide
  have tl := pr_t_le (len := len.toInt.toNat)
  -- the end: whole or not
  have T56 : ∀ {G : aH} {q : Nat} (b : Bool), y_fr h G [1538, 1539, 1540, 2817, 2818] [24, 25, 26, 27, 28] → tx_s nd G sg (pr_t len.toInt.toNat) q → (pr_sy (y_N sg) (pr_t len.toInt.toNat) nd.toInt).2 = q → pr_wh (y_N sg) (pr_t len.toInt.toNat) nd.toInt = b → aOK s_P X (d + 6) a_m78 56 [some (.ref 14), some (.int len), some (.int nd), some (.ref 24), none] [.int (y_01 b)] G C S K0 := by
    intro G q b e s hq hb
    obtain ⟨toI, atI, -, a1, a2, a3, a4, a5, a6, pt, t40⟩ := id s
    have f0 : y_fr G G [] [] := y_rf e.1
    have out : ∀ {H : aH} {r : Int32}, y_fr G H [] [] → r.toInt = pr_wr (y_N sg) len.toInt.toNat nd.toInt → K0 (some (.int r)) H C S := fun f er => hK _ _ (y_mo (y_sq e f rfl rfl) rfl rfl) er (by omega)
    cases b with
    | true =>
      have ew : pr_wr (y_N sg) len.toInt.toNat nd.toInt = if 40 < len.toInt.toNat then 40 else -1 := if_pos hb
      have T97 : ∀ {H : aH}, y_fr G H [] [] → ¬ (40 < len.toInt.toNat) → aOK s_P X (d + 6) a_m78 97 [some (.ref 14), some (.int len), some (.int nd), some (.ref 24), some (.int (y_01 true))] [] H C S K0 := by
        intro H f nl
        refine w_go z_hl [111] [] 30 f.1 ?_
        intro x hx _ _
        obtain rfl := y_fi ((y_fe f rfl).trans a2) hx
        intro H2 h2
        have f2 : y_fr G H2 [] [] := y_st f h2 (by repeat (first | exact w_nil | refine w_cons (Or.inl (y_m rfl)) ?_ | refine w_cons (Or.inr (by assumption)) ?_)) (by repeat (first | exact w_nil | refine w_cons (Or.inl (y_m rfl)) ?_ | refine w_cons (Or.inr (by assumption)) ?_))
        refine y_copy3 (o := 13) (dd := 23) (m := pr_t len.toInt.toNat) (n1 := 60) (n2 := 40) f2.1 a3 rfl rfl (by omega) (by omega) rfl rfl (by decide) (fun H3 f3 => ?_)
        show aOK s_P X (d + 6) a_m78 114 [some (.ref 14), some (.int len), some (.int nd), some (.ref 24), some (.int (y_01 true))] [] H3 C S K0
        have f4 : y_fr G H3 [] [23] := y_sq (y_mo f2 rfl rfl) f3 rfl rfl
        refine w_go z_hl [] [] 30 f3.1 ?_
        intro x hx x0 x40
        obtain rfl := y_fi ((y_fe f4 rfl).trans a2) hx
        refine ⟨rfl, y_zini x0 x40, fun H5 h5 => ?_⟩
        have f5 : y_fr H3 H5 [2817] [] := y_st (y_mo (y_rf f3.1) rfl rfl) h5 (by repeat (first | exact w_nil | refine w_cons (Or.inl (y_m rfl)) ?_ | refine w_cons (Or.inr (by assumption)) ?_)) (by repeat (first | exact w_nil | refine w_cons (Or.inl (y_m rfl)) ?_ | refine w_cons (Or.inr (by assumption)) ?_))
        refine hK _ H5 (y_sq (y_sq (y_mo e rfl rfl) f4 rfl rfl) f5 rfl rfl) ?_ (by omega)
        rw [ew, if_neg nl]
        decide
      refine w_go z_hl [97] [] 40 e.1 ?_
      refine ⟨fun _ => ⟨fun z => absurd z (by decide), fun _ => ?_⟩, fun z => absurd z (by decide)⟩
      intro x hx _ _
      obtain rfl := y_fi a2 hx
      refine ⟨fun z => fun H hH => ?_, fun z => fun H hH => ?_⟩
      · have y1 : len.toInt ≤ toI.toInt := (y_ci .le _ _).mp z
        exact T97 (y_st f0 hH (by repeat (first | exact w_nil | refine w_cons (Or.inl (y_m rfl)) ?_ | refine w_cons (Or.inr (by assumption)) ?_)) (by repeat (first | exact w_nil | refine w_cons (Or.inl (y_m rfl)) ?_ | refine w_cons (Or.inr (by assumption)) ?_))) (by omega)
      · have y1 : ¬ (len.toInt ≤ toI.toInt) := y_cif z
        have lt : 40 < len.toInt.toNat := by
          rcases Nat.lt_or_ge 40 len.toInt.toNat with w | w
          · exact w
          · have et : pr_t len.toInt.toNat = len.toInt.toNat := if_neg (by omega)
            omega
        have et : pr_t len.toInt.toNat = 40 := if_pos lt
        exact out (y_st f0 hH (by repeat (first | exact w_nil | refine w_cons (Or.inl (y_m rfl)) ?_ | refine w_cons (Or.inr (by assumption)) ?_)) (by repeat (first | exact w_nil | refine w_cons (Or.inl (y_m rfl)) ?_ | refine w_cons (Or.inr (by assumption)) ?_))) (by rw [ew, if_pos lt]; omega)
    | false =>
      have ew : pr_wr (y_N sg) len.toInt.toNat nd.toInt = (q : Nat) := by
        unfold pr_wr
        rw [if_neg (by rw [hb]; decide), hq]
      refine w_go z_hl [97] [] 40 e.1 ?_
      refine ⟨fun z => absurd z (by decide), fun _ => ?_⟩
      intro x hx _ _
      obtain rfl := y_fi a4 hx
      intro y hy _ _
      obtain rfl := y_fi a2 hy
      refine ⟨fun z => ⟨fun _ => fun H hH => ?_, fun z2 => absurd z2 (by decide)⟩, fun z => fun H hH => ?_⟩
      · have y1 : toI.toInt ≤ atI.toInt := (y_ci .ge _ _).mp z
        exact out (y_st f0 hH (by repeat (first | exact w_nil | refine w_cons (Or.inl (y_m rfl)) ?_ | refine w_cons (Or.inr (by assumption)) ?_)) (by repeat (first | exact w_nil | refine w_cons (Or.inl (y_m rfl)) ?_ | refine w_cons (Or.inr (by assumption)) ?_))) (by rw [ew]; omega)
      · exact out (y_st f0 hH (by repeat (first | exact w_nil | refine w_cons (Or.inl (y_m rfl)) ?_ | refine w_cons (Or.inr (by assumption)) ?_)) (by repeat (first | exact w_nil | refine w_cons (Or.inl (y_m rfl)) ?_ | refine w_cons (Or.inr (by assumption)) ?_))) (by rw [ew]; exact a5)
  have T37 : ∀ {G : aH} {q : Nat} (b : Bool), y_fr h G [1538, 1539, 1540, 2817, 2818] [24, 25, 26, 27, 28] → tx_s nd G sg (pr_t len.toInt.toNat) q → pr_sy (y_N sg) (pr_t len.toInt.toNat) nd.toInt = (b, q) → aOK s_P X (d + 6) a_m78 37 [some (.ref 14), some (.int len), some (.int nd), some (.ref 24), none] [.int (y_01 b)] G C S K0 := by
    intro G q b e s hs
    obtain ⟨toI, atI, -, a1, a2, a3, a4, a5, a6, pt, t40⟩ := id s
    have f0 : y_fr G G [] [] := y_rf e.1
    cases b with
    | true =>
      refine w_go z_hl [56] [] 40 e.1 ?_
      refine ⟨fun z => absurd z (by decide), fun _ => ?_⟩
      intro x hx _ _
      obtain rfl := y_fi a4 hx
      intro y hy _ _
      obtain rfl := y_fi a2 hy
      refine ⟨fun z => fun H hH => ?_, fun z => fun H hH => ?_⟩
      · have y1 : atI.toInt ≠ toI.toInt := (y_ci .ne _ _).mp z
        have f : y_fr G H [] [] := y_st f0 hH (by repeat (first | exact w_nil | refine w_cons (Or.inl (y_m rfl)) ?_ | refine w_cons (Or.inr (by assumption)) ?_)) (by repeat (first | exact w_nil | refine w_cons (Or.inl (y_m rfl)) ?_ | refine w_cons (Or.inr (by assumption)) ?_))
        refine T56 false (y_sq e f rfl rfl) (tx_s_fr s f rfl rfl) (by rw [hs]) ?_
        unfold pr_wh
        rw [hs]
        show (true && decide (q = pr_t len.toInt.toNat)) = false
        rw [decide_eq_false (by omega)]
        rfl
      · have y1 : ¬ (atI.toInt ≠ toI.toInt) := y_cif z
        have f : y_fr G H [] [] := y_st f0 hH (by repeat (first | exact w_nil | refine w_cons (Or.inl (y_m rfl)) ?_ | refine w_cons (Or.inr (by assumption)) ?_)) (by repeat (first | exact w_nil | refine w_cons (Or.inl (y_m rfl)) ?_ | refine w_cons (Or.inr (by assumption)) ?_))
        refine T56 true (y_sq e f rfl rfl) (tx_s_fr s f rfl rfl) (by rw [hs]) ?_
        unfold pr_wh
        rw [hs]
        show (true && decide (q = pr_t len.toInt.toNat)) = true
        rw [decide_eq_true (by omega)]
        rfl
    | false =>
      refine w_go z_hl [56] [] 40 e.1 ?_
      refine ⟨fun _ => fun H hH => ?_, fun z => absurd z (by decide)⟩
      have f : y_fr G H [] [] := y_st f0 hH (by repeat (first | exact w_nil | refine w_cons (Or.inl (y_m rfl)) ?_ | refine w_cons (Or.inr (by assumption)) ?_)) (by repeat (first | exact w_nil | refine w_cons (Or.inl (y_m rfl)) ?_ | refine w_cons (Or.inr (by assumption)) ?_))
      refine T56 false (y_sq e f rfl rfl) (tx_s_fr s f rfl rfl) (by rw [hs]) ?_
      unfold pr_wh
      rw [hs]
      rfl
  have T29n : ∀ {G : aH} {q : Nat}, y_fr h G [1538, 1539, 1540, 2817, 2818] [24, 25, 26, 27, 28] → tx_s nd G sg (pr_t len.toInt.toNat) q → pr_sy (y_N sg) (pr_t len.toInt.toNat) nd.toInt = (false, q) → aOK s_P X (d + 6) a_m78 29 [some (.ref 14), some (.int len), some (.int nd), some (.ref 24), none] [.int (y_01 false)] G C S K0 := by
    intro G q e s hs
    refine w_go z_hl [56] [] 40 e.1 ?_
    refine ⟨fun _ => fun H hH => ?_, fun z => absurd z (by decide)⟩
    have f : y_fr G H [] [] := y_st (y_rf e.1) hH (by repeat (first | exact w_nil | refine w_cons (Or.inl (y_m rfl)) ?_ | refine w_cons (Or.inr (by assumption)) ?_)) (by repeat (first | exact w_nil | refine w_cons (Or.inl (y_m rfl)) ?_ | refine w_cons (Or.inr (by assumption)) ?_))
    refine T56 false (y_sq e f rfl rfl) (tx_s_fr s f rfl rfl) (by rw [hs]) ?_
    unfold pr_wh
    rw [hs]
    rfl
  have T29 : ∀ {G : aH} {q k : Nat} {rel : Int32}, y_fr h G [1538, 1539, 1540, 2817, 2818] [24, 25, 26, 27, 28] → tx_s nd G sg (pr_t len.toInt.toNat) (q + 1) → pr_tm (y_N sg) (pr_t len.toInt.toNat) nd.toInt 0 = (true, q, k) → w_f G 2818 = some (.int rel) → ((pr_k (y_N sg) (pr_t len.toInt.toNat) q = 126 ∧ k = 1) ∧ rel.toInt = 126) ∨ (¬ (pr_k (y_N sg) (pr_t len.toInt.toNat) q = 126 ∧ k = 1) ∧ (pr_k (y_N sg) (pr_t len.toInt.toNat) q = 61 ∨ pr_k (y_N sg) (pr_t len.toInt.toNat) q = 60 ∨ pr_k (y_N sg) (pr_t len.toInt.toNat) q = 62) ∧ rel.toInt ≠ 126) → aOK s_P X (d + 6) a_m78 29 [some (.ref 14), some (.int len), some (.int nd), some (.ref 24), none] [.int (y_01 true)] G C S K0 := by
    intro G q k rel e s ht gr hw
    refine w_go z_hl [56] [90] 40 e.1 ?_
    refine ⟨fun z => absurd z (by decide), fun _ => fun H hH => ?_⟩
    have f : y_fr G H [] [] := y_st (y_rf e.1) hH (by repeat (first | exact w_nil | refine w_cons (Or.inl (y_m rfl)) ?_ | refine w_cons (Or.inr (by assumption)) ?_)) (by repeat (first | exact w_nil | refine w_cons (Or.inl (y_m rfl)) ?_ | refine w_cons (Or.inr (by assumption)) ?_))
    refine c_second1 (d := d) n0 n10 (tx_s_fr s f rfl rfl) ((y_fe f rfl).trans gr) (fun b r k2 H2 f2 s3 h1 h2 => ⟨fun n e => (by cases e), ?_⟩)
    refine T37 b (y_sq (y_sq e f rfl rfl) f2 rfl rfl) s3 ?_
    rcases hw with ⟨⟨w1, w2⟩, w3⟩ | ⟨w1, w2, w3⟩
    · rw [w2] at ht
      exact pr_sy_b ht w1 (h1 w3)
    · exact pr_sy_c ht w1 w2 (h2 w3)
  have T24 : ∀ {G : aH} {fr : List Int32}, y_fr h G [1538, 1539, 1540, 2817, 2818] [24, 25, 26, 27, 28] → tx_s nd G sg (pr_t len.toInt.toNat) 0 → w_a G 24 = some (0, .inl fr) → (∀ j, j < 4 → y_N fr j = -1) → aOK s_P X (d + 6) a_m78 24 [some (.ref 14), some (.int len), some (.int nd), some (.ref 24), none] [] G C S K0 := by
    intro G fr e s g hf
    refine w_go z_hl [56] [80] 40 e.1 ?_
    intro H hH
    have f : y_fr G H [] [] := y_st (y_rf e.1) hH (by repeat (first | exact w_nil | refine w_cons (Or.inl (y_m rfl)) ?_ | refine w_cons (Or.inr (by assumption)) ?_)) (by repeat (first | exact w_nil | refine w_cons (Or.inl (y_m rfl)) ?_ | refine w_cons (Or.inr (by assumption)) ?_))
    refine c_first1 (d := d) n0 n10 (tx_s_fr s f rfl rfl) ((y_ae f rfl).trans g) (hf 0 (by decide)) (hf 1 (by decide)) (fun q k H2 rel fr' f2 s3 ht gr g3 hw => ⟨fun n e => (by cases e), ?_⟩) (fun q H2 f2 s3 hs => ⟨fun n e => (by cases e), ?_⟩)
    · exact T29 (y_sq (y_sq e f rfl rfl) f2 rfl rfl) s3 ht gr hw
    · exact T29n (y_sq (y_sq e f rfl rfl) f2 rfl rfl) s3 hs
  refine w_go z_hl [56] [79] 60 hr ?_
  refine ⟨rfl, y_zini (by decide) (by decide), ?_⟩
  refine ⟨fun z => ⟨rfl, y_zini (by decide) (by decide), rfl, y_zini n0 n10, fun H hH => ?_⟩, fun z => ⟨rfl, y_zini l0 ?_, rfl, y_zini n0 n10, fun H hH => ?_⟩⟩
  · have y1 : ((Int8.ofInt 40).toInt32).toInt < len.toInt := (y_ci .gt _ _).mp z
    rw [c40] at y1
    have et : pr_t len.toInt.toNat = 40 := if_pos (by omega)
    have f : y_fr h H [1538, 1539, 1540] [] := y_st (y_mo (y_rf hr) rfl rfl) hH (by repeat (first | exact w_nil | refine w_cons (Or.inl (y_m rfl)) ?_ | refine w_cons (Or.inr (by assumption)) ?_)) (by repeat (first | exact w_nil | refine w_cons (Or.inl (y_m rfl)) ?_ | refine w_cons (Or.inr (by assumption)) ?_))
    have s : tx_s nd H sg (pr_t len.toInt.toNat) 0 := ⟨_, _, f.1, (y_ae f rfl).trans gs, hH.2.1 1539 _ rfl, by rw [et]; exact c40, hH.2.1 1538 _ rfl, rfl, hH.2.1 1540 _ rfl, Nat.zero_le _, tl.1⟩
    refine c_clear1 f.1 (fun H2 fr f2 g2 hf => ⟨fun n e => (by cases e), ?_⟩)
    exact T24 (y_sq (y_mo f rfl rfl) f2 rfl rfl) (tx_s_fr s f2 rfl rfl) g2 hf
  · have y1 : ¬ (((Int8.ofInt 40).toInt32).toInt < len.toInt) := y_cif z
    rw [c40] at y1
    show len.toInt ≤ 40
    omega
  · have y1 : ¬ (((Int8.ofInt 40).toInt32).toInt < len.toInt) := y_cif z
    rw [c40] at y1
    have et : pr_t len.toInt.toNat = len.toInt.toNat := if_neg (by omega)
    have f : y_fr h H [1538, 1539, 1540] [] := y_st (y_mo (y_rf hr) rfl rfl) hH (by repeat (first | exact w_nil | refine w_cons (Or.inl (y_m rfl)) ?_ | refine w_cons (Or.inr (by assumption)) ?_)) (by repeat (first | exact w_nil | refine w_cons (Or.inl (y_m rfl)) ?_ | refine w_cons (Or.inr (by assumption)) ?_))
    have s : tx_s nd H sg (pr_t len.toInt.toNat) 0 := ⟨_, _, f.1, (y_ae f rfl).trans gs, hH.2.1 1539 _ rfl, by rw [et]; omega, hH.2.1 1538 _ rfl, rfl, hH.2.1 1540 _ rfl, Nat.zero_le _, tl.1⟩
    refine c_clear1 f.1 (fun H2 fr f2 g2 hf => ⟨fun n e => (by cases e), ?_⟩)
    exact T24 (y_sq (y_mo f rfl rfl) f2 rfl rfl) (tx_s_fr s f2 rfl rfl) g2 hf
end PPS1
end PT33ibt
section PT33ibu
/-! ===== v21: parseEvent of the class with saying 2 (laid by wip/tools/mk21c.py) ===== -/
section PEV2
variable {X : aX} {C S d : Nat} {K0 : Option Value → aH → Nat → Nat → Prop} {sg : List Int32} {t : Nat} {nd : Int32}
theorem c_evl2 (n0 : 0 ≤ nd.toInt) (n10 : nd.toInt ≤ 10) {pI : Int32} {pa : Nat} (hpa : pI.toInt = pa) (pa4 : pa < 4) : ∀ (m : Nat) (h : aH) (p : Nat) (oI : Int32) (o : Nat) (o4 : Option Value), tx_s nd h sg t p → oI.toInt = o → o ≤ 5 → t - p ≤ m → (∀ (b : Bool) (q : Nat) (H : aH), y_fr h H [1538] [32, 33] → tx_s nd H sg t q → pr_E (y_N sg) t nd.toInt false p o = (b, q) → K0 (some (.int (y_01 b))) H C S) → aOK s_P X (d + 2) a_m87 12 [some (.ref 14), some (.ref 31), some (.int pI), some (.int oI), o4] [] h C S K0 := by
  have c33 : ((Int8.ofInt 33).toInt32).toInt = 33 := by decide
  have c38 : ((Int8.ofInt 38).toInt32).toInt = 38 := by decide
  have c40 : ((Int8.ofInt 40).toInt32).toInt = 40 := by decide
  have c97 : ((Int8.ofInt 97).toInt32).toInt = 97 := by decide
  have c124 : ((Int8.ofInt 124).toInt32).toInt = 124 := by decide
  have c5 : (Int32.ofInt 5).toInt = 5 := by decide
  have z0 : (0 : Int32).toInt = 0 := by decide
  have cn : ((Int8.ofInt 97).toInt32 + nd).toInt = 97 + nd.toInt := by
    rw [Int32.toInt_add, c97]
    exact Int.bmod_eq_of_le (by omega) (by omega)
  intro m
  induction m with
  | zero =>
    intro h p oI o o4 s ho o5 hm hK
    obtain ⟨toI, atI, hr, a1, a2, a3, a4, a5, a6, pt, t40⟩ := id s
    refine w_go z_hl [12] [82] 30 hr ?_
    intro x hx _ _
    obtain rfl := y_fi a4 hx
    intro y hy _ _
    obtain rfl := y_fi a2 hy
    refine ⟨fun _ => ⟨by decide, fun H hH => ?_⟩, fun z => ?_⟩
    · have f : y_fr h H [] [] := y_st (y_rf hr) hH (by repeat (first | exact w_nil | refine w_cons (Or.inl (y_m rfl)) ?_ | refine w_cons (Or.inr (by assumption)) ?_)) (by repeat (first | exact w_nil | refine w_cons (Or.inl (y_m rfl)) ?_ | refine w_cons (Or.inr (by assumption)) ?_))
      have k0 : pr_k (y_N sg) t p = 0 := if_neg (by omega)
      exact hK false p H (y_mo f rfl rfl) (tx_s_fr s f rfl rfl) (pr_bad (by omega) (by omega) (fun w => by have := w.1; omega) (fun w => by have := w.1; omega))
    · have y1 : ¬ (toI.toInt ≤ atI.toInt) := y_cif z
      exfalso
      omega
  | succ m ih =>
    intro h p oI o o4 s ho o5 hm hK
    obtain ⟨toI, atI, hr, a1, a2, a3, a4, a5, a6, pt, t40⟩ := id s
    -- on to the next sign
    have T189 : ∀ {G : aH} {oJ : Int32} {q o' : Nat} {p4 : Option Value}, y_fr h G [1538] [32, 33] → tx_s nd G sg t q → p < q → q < t → oJ.toInt = o' → o' ≤ 5 → pr_E (y_N sg) t nd.toInt false p o = pr_E (y_N sg) t nd.toInt false (q + 1) o' → aOK s_P X (d + 2) a_m87 189 [some (.ref 14), some (.ref 31), some (.int pI), some (.int oJ), p4] [] G C S K0 := by
      intro G oJ q o' p4 e s2 pq qt hoJ o5' hE
      obtain ⟨toJ, atJ, -, b1, b2, b3, b4, b5, b6, -, -⟩ := id s2
      have inc : (atJ + Int32.ofInt 1).toInt = ((q + 1 : Nat) : Int) := by rw [y_inc (by omega), b5]; rfl
      refine w_go z_hl [12] [82] 30 e.1 ?_
      intro x hx _ _
      obtain rfl := y_fi b4 hx
      refine ⟨rfl, y_zini (by show 0 ≤ (atJ + Int32.ofInt 1).toInt; omega) (by show (atJ + Int32.ofInt 1).toInt ≤ 40; omega), fun H hH => ?_⟩
      have f : y_fr G H [1538] [] := y_st (y_mo (y_rf e.1) rfl rfl) hH (by repeat (first | exact w_nil | refine w_cons (Or.inl (y_m rfl)) ?_ | refine w_cons (Or.inr (by assumption)) ?_)) (by repeat (first | exact w_nil | refine w_cons (Or.inl (y_m rfl)) ?_ | refine w_cons (Or.inr (by assumption)) ?_))
      exact ih H (q + 1) _ o' _ (tx_s_at s2 f rfl (hH.2.1 1538 _ rfl) inc (by omega)) hoJ o5' (by omega) (fun b r H' f1 f2 f3 => hK b r H' (y_sq (y_sq e f rfl rfl) f1 rfl rfl) f2 (hE.trans f3))
    have T143 : ∀ {G : aH} {oJ cI : Int32} {q o' : Nat}, y_fr h G [1538] [32, 33] → tx_s nd G sg t q → p < q → q < t → oJ.toInt = o' → o' ≤ 5 → pr_E (y_N sg) t nd.toInt false p o = pr_E (y_N sg) t nd.toInt false (q + 1) o' → aOK s_P X (d + 2) a_m87 143 [some (.ref 14), some (.ref 31), some (.int pI), some (.int oJ), some (.int cI)] [] G C S K0 := by
      intro G oJ cI q o' e s2 pq qt hoJ o5' hE
      have f0 : y_fr G G [] [] := y_rf e.1
      have T168 : ∀ {G2 : aH}, y_fr G G2 [] [32] → aOK s_P X (d + 2) a_m87 168 [some (.ref 14), some (.ref 31), some (.int pI), some (.int oJ), some (.int cI)] [] G2 C S K0 := by
        intro G2 f
        refine w_go z_hl [189] [82] 40 f.1 ?_
        refine ⟨⟨by omega, by omega⟩, fun l hl len bb => ⟨fun _ => ⟨⟨by omega, by omega⟩, y_l32 _, fun H hH => ?_⟩, fun _ => ⟨⟨by omega, by omega⟩, y_l32 _, fun H hH => ?_⟩⟩⟩
        · have f2 : y_fr G H [] [32, 33] := y_st (y_mo f rfl rfl) hH (by repeat (first | exact w_nil | refine w_cons (Or.inl (y_m rfl)) ?_ | refine w_cons (Or.inr (by assumption)) ?_)) (by repeat (first | exact w_nil | refine w_cons (Or.inl (y_m rfl)) ?_ | refine w_cons (Or.inr (by assumption)) ?_))
          exact T189 (y_sq e (y_mo f2 rfl rfl : y_fr G H [1538] [32, 33]) rfl rfl) (tx_s_fr s2 f2 rfl rfl) pq qt hoJ o5' hE
        · have f2 : y_fr G H [] [32, 33] := y_st (y_mo f rfl rfl) hH (by repeat (first | exact w_nil | refine w_cons (Or.inl (y_m rfl)) ?_ | refine w_cons (Or.inr (by assumption)) ?_)) (by repeat (first | exact w_nil | refine w_cons (Or.inl (y_m rfl)) ?_ | refine w_cons (Or.inr (by assumption)) ?_))
          exact T189 (y_sq e (y_mo f2 rfl rfl : y_fr G H [1538] [32, 33]) rfl rfl) (tx_s_fr s2 f2 rfl rfl) pq qt hoJ o5' hE
      refine w_go z_hl [168, 189] [82] 40 e.1 ?_
      refine ⟨fun _ => fun H hH => ?_, fun _ => ⟨⟨by omega, by omega⟩, fun l hl len bb => ⟨fun _ => ⟨⟨by omega, by omega⟩, y_l32 _, fun H hH => ?_⟩, fun _ => ⟨⟨by omega, by omega⟩, y_l32 _, fun H hH => ?_⟩⟩⟩⟩
      · have f2 : y_fr G H [] [] := y_st f0 hH (by repeat (first | exact w_nil | refine w_cons (Or.inl (y_m rfl)) ?_ | refine w_cons (Or.inr (by assumption)) ?_)) (by repeat (first | exact w_nil | refine w_cons (Or.inl (y_m rfl)) ?_ | refine w_cons (Or.inr (by assumption)) ?_))
        exact T189 (y_sq e f2 rfl rfl) (tx_s_fr s2 f2 rfl rfl) pq qt hoJ o5' hE
      · exact T168 (y_st (y_mo f0 rfl rfl) hH (by repeat (first | exact w_nil | refine w_cons (Or.inl (y_m rfl)) ?_ | refine w_cons (Or.inr (by assumption)) ?_)) (by repeat (first | exact w_nil | refine w_cons (Or.inl (y_m rfl)) ?_ | refine w_cons (Or.inr (by assumption)) ?_)))
      · exact T168 (y_st (y_mo f0 rfl rfl) hH (by repeat (first | exact w_nil | refine w_cons (Or.inl (y_m rfl)) ?_ | refine w_cons (Or.inr (by assumption)) ?_)) (by repeat (first | exact w_nil | refine w_cons (Or.inl (y_m rfl)) ?_ | refine w_cons (Or.inr (by assumption)) ?_)))
    have T117 : ∀ {G : aH} {oJ cI : Int32} {q o' : Nat} {p4 : Option Value}, y_fr h G [1538] [] → tx_s nd G sg t q → p < q → oJ.toInt = o' → o' ≤ 5 → cI.toInt = pr_k (y_N sg) t q → pr_E (y_N sg) t nd.toInt false p o = pr_E (y_N sg) t nd.toInt true q o' → ¬ (pr_k (y_N sg) t q = 41 ∧ 0 < o') → aOK s_P X (d + 2) a_m87 117 [some (.ref 14), some (.ref 31), some (.int pI), some (.int oJ), p4] [.int cI] G C S K0 := by
      intro G oJ cI q o' p4 e s2 pq hoJ o5' hc hE h41
      have q40 := (tx_s_hr s2).2.1
      have f0 : y_fr G G [] [] := y_rf e.1
      refine w_go z_hl [143] [82] 40 e.1 ?_
      refine ⟨fun z => fun H hH => ?_, fun z => ⟨fun z2 => fun H hH => ?_, fun z2 => ⟨fun z3 => ⟨by decide, fun H hH => ?_⟩, fun z3 => ⟨by decide, fun H hH => ?_⟩⟩⟩⟩
      · have y1 : cI.toInt = ((Int8.ofInt 38).toInt32).toInt := (y_ci .eq _ _).mp z
        rw [c38, hc] at y1
        have f2 : y_fr G H [] [] := y_st f0 hH (by repeat (first | exact w_nil | refine w_cons (Or.inl (y_m rfl)) ?_ | refine w_cons (Or.inr (by assumption)) ?_)) (by repeat (first | exact w_nil | refine w_cons (Or.inl (y_m rfl)) ?_ | refine w_cons (Or.inr (by assumption)) ?_))
        exact T143 (y_mo (y_sq e f2 rfl rfl) rfl rfl) (tx_s_fr s2 f2 rfl rfl) pq (pr_k_t (by decide) y1) hoJ o5' (hE.trans (pr_op (by omega) (Or.inl y1)))
      · have y1 : cI.toInt = ((Int8.ofInt 124).toInt32).toInt := (y_ci .eq _ _).mp z2
        rw [c124, hc] at y1
        have f2 : y_fr G H [] [] := y_st f0 hH (by repeat (first | exact w_nil | refine w_cons (Or.inl (y_m rfl)) ?_ | refine w_cons (Or.inr (by assumption)) ?_)) (by repeat (first | exact w_nil | refine w_cons (Or.inl (y_m rfl)) ?_ | refine w_cons (Or.inr (by assumption)) ?_))
        exact T143 (y_mo (y_sq e f2 rfl rfl) rfl rfl) (tx_s_fr s2 f2 rfl rfl) pq (pr_k_t (by decide) y1) hoJ o5' (hE.trans (pr_op (by omega) (Or.inr y1)))
      · have y1 : ¬ (cI.toInt = ((Int8.ofInt 38).toInt32).toInt) := y_cif z
        have y2 : ¬ (cI.toInt = ((Int8.ofInt 124).toInt32).toInt) := y_cif z2
        have y3 : oJ.toInt ≠ (0 : Int32).toInt := (y_ci .ne _ _).mp z3
        rw [c38, hc] at y1
        rw [c124, hc] at y2
        rw [z0] at y3
        have f2 : y_fr G H [] [] := y_st f0 hH (by repeat (first | exact w_nil | refine w_cons (Or.inl (y_m rfl)) ?_ | refine w_cons (Or.inr (by assumption)) ?_)) (by repeat (first | exact w_nil | refine w_cons (Or.inl (y_m rfl)) ?_ | refine w_cons (Or.inr (by assumption)) ?_))
        refine hK false q H (y_mo (y_sq e f2 rfl rfl) rfl rfl) (tx_s_fr s2 f2 rfl rfl) (hE.trans ?_)
        rw [pr_end (by omega) h41 y1 y2, decide_eq_false (by omega)]
      · have y1 : ¬ (cI.toInt = ((Int8.ofInt 38).toInt32).toInt) := y_cif z
        have y2 : ¬ (cI.toInt = ((Int8.ofInt 124).toInt32).toInt) := y_cif z2
        have y3 : ¬ (oJ.toInt ≠ (0 : Int32).toInt) := y_cif z3
        rw [c38, hc] at y1
        rw [c124, hc] at y2
        rw [z0] at y3
        have f2 : y_fr G H [] [] := y_st f0 hH (by repeat (first | exact w_nil | refine w_cons (Or.inl (y_m rfl)) ?_ | refine w_cons (Or.inr (by assumption)) ?_)) (by repeat (first | exact w_nil | refine w_cons (Or.inl (y_m rfl)) ?_ | refine w_cons (Or.inr (by assumption)) ?_))
        refine hK true q H (y_mo (y_sq e f2 rfl rfl) rfl rfl) (tx_s_fr s2 f2 rfl rfl) (hE.trans ?_)
        rw [pr_end (by omega) h41 y1 y2, decide_eq_true (by omega)]
    have T112 : ∀ {G : aH} {oJ : Int32} {q o' : Nat} {p3 p4 : Option Value}, y_fr h G [1538] [] → tx_s nd G sg t q → p < q → oJ.toInt = o' → o' ≤ 5 → pr_E (y_N sg) t nd.toInt false p o = pr_E (y_N sg) t nd.toInt true q o' → ¬ (pr_k (y_N sg) t q = 41 ∧ 0 < o') → aOK s_P X (d + 2) a_m87 112 [some (.ref 14), some (.ref 31), some (.int pI), p3, p4] [.int oJ] G C S K0 := by
      intro G oJ q o' p3 p4 e s2 pq hoJ o5' hE h41
      refine w_go z_hl [143] [82] 20 e.1 ?_
      intro H hH
      have f2 : y_fr G H [] [] := y_st (y_rf e.1) hH (by repeat (first | exact w_nil | refine w_cons (Or.inl (y_m rfl)) ?_ | refine w_cons (Or.inr (by assumption)) ?_)) (by repeat (first | exact w_nil | refine w_cons (Or.inl (y_m rfl)) ?_ | refine w_cons (Or.inr (by assumption)) ?_))
      refine c_lkT (tx_s_fr s2 f2 rfl rfl) (fun r H2 f3 er => ⟨fun n e => (by cases e), ?_⟩)
      exact T117 (y_sq (y_sq e f2 rfl rfl) f3 rfl rfl) (tx_s_fr (tx_s_fr s2 f2 rfl rfl) f3 rfl rfl) pq hoJ o5' er hE h41
    have T97 : ∀ {G : aH} {cI : Int32}, y_fr h G [] [] → p < t → 97 ≤ pr_k (y_N sg) t p → pr_k (y_N sg) t p < 97 + nd.toInt → aOK s_P X (d + 2) a_m87 97 [some (.ref 14), some (.ref 31), some (.int pI), some (.int oI), some (.int cI)] [] G C S K0 := by
      intro G cI e ptt h97 h98
      have s2 := tx_s_fr s e rfl rfl
      have inc : (atI + Int32.ofInt 1).toInt = ((p + 1 : Nat) : Int) := by rw [y_inc (by omega), a5]; rfl
      refine w_go z_hl [12] [88] 30 e.1 ?_
      intro x hx _ _
      obtain rfl := y_fi ((y_fe e rfl).trans a4) hx
      refine ⟨rfl, y_zini (by show 0 ≤ (atI + Int32.ofInt 1).toInt; omega) (by show (atI + Int32.ofInt 1).toInt ≤ 40; omega), fun H hH => ?_⟩
      have f : y_fr G H [1538] [] := y_st (y_mo (y_rf e.1) rfl rfl) hH (by repeat (first | exact w_nil | refine w_cons (Or.inl (y_m rfl)) ?_ | refine w_cons (Or.inr (by assumption)) ?_)) (by repeat (first | exact w_nil | refine w_cons (Or.inl (y_m rfl)) ?_ | refine w_cons (Or.inr (by assumption)) ?_))
      have s3 := tx_s_at s2 f rfl (hH.2.1 1538 _ rfl) inc (by omega)
      obtain ⟨k1, k2, k3, k4, k5⟩ := pr_c_p (T := y_N sg) (n := nd.toInt) t40 o (p + 1) (by omega)
      refine c_closeBr (d := d) s3 ho o5 (fun r H2 f2 s4 er => ⟨fun n e => (by cases e), ?_⟩)
      exact T112 (y_sq (y_sq (y_mo e rfl rfl) f rfl rfl) f2 rfl rfl) s4 (by omega) er (by omega) ((pr_let (by omega) h97 h98).trans k4) k5
    have T76 : ∀ {G : aH} {cI : Int32}, y_fr h G [] [] → p < t → cI.toInt = pr_k (y_N sg) t p → pr_k (y_N sg) t p ≠ 33 → ¬ (pr_k (y_N sg) t p = 40 ∧ o < 5) → aOK s_P X (d + 2) a_m87 76 [some (.ref 14), some (.ref 31), some (.int pI), some (.int oI), some (.int cI)] [] G C S K0 := by
      intro G cI e ptt hc h33 h40
      have bad : ∀ {H : aH}, y_fr h H [] [] → ¬ (97 ≤ pr_k (y_N sg) t p ∧ pr_k (y_N sg) t p < 97 + nd.toInt) → K0 (some (.int (y_01 false))) H C S := fun f w => hK false p _ (y_mo f rfl rfl) (tx_s_fr s f rfl rfl) (pr_bad (by omega) h33 h40 w)
      refine w_go z_hl [97] [88] 30 e.1 ?_
      refine ⟨fun z => ⟨by decide, fun H hH => bad (y_st e hH (by repeat (first | exact w_nil | refine w_cons (Or.inl (y_m rfl)) ?_ | refine w_cons (Or.inr (by assumption)) ?_)) (by repeat (first | exact w_nil | refine w_cons (Or.inl (y_m rfl)) ?_ | refine w_cons (Or.inr (by assumption)) ?_))) (fun w => ?_)⟩, fun z => ?_⟩
      · have y1 : cI.toInt < ((Int8.ofInt 97).toInt32).toInt := (y_ci .lt _ _).mp z
        rw [c97, hc] at y1
        have := w.1
        omega
      · have y1 : ¬ (cI.toInt < ((Int8.ofInt 97).toInt32).toInt) := y_cif z
        rw [c97, hc] at y1
        intro x hx _ _
        obtain rfl := y_fi ((y_fe e rfl).trans a6) hx
        refine ⟨fun z2 => fun H hH => ?_, fun z2 => ⟨by decide, fun H hH => bad (y_st e hH (by repeat (first | exact w_nil | refine w_cons (Or.inl (y_m rfl)) ?_ | refine w_cons (Or.inr (by assumption)) ?_)) (by repeat (first | exact w_nil | refine w_cons (Or.inl (y_m rfl)) ?_ | refine w_cons (Or.inr (by assumption)) ?_))) (fun w => ?_)⟩⟩
        · have y2 : cI.toInt < ((Int8.ofInt 97).toInt32 + nd).toInt := (y_ci .lt _ _).mp z2
          rw [cn, hc] at y2
          exact T97 (y_st e hH (by repeat (first | exact w_nil | refine w_cons (Or.inl (y_m rfl)) ?_ | refine w_cons (Or.inr (by assumption)) ?_)) (by repeat (first | exact w_nil | refine w_cons (Or.inl (y_m rfl)) ?_ | refine w_cons (Or.inr (by assumption)) ?_))) ptt (by omega) y2
        · have y2 : ¬ (cI.toInt < ((Int8.ofInt 97).toInt32 + nd).toInt) := y_cif z2
          rw [cn, hc] at y2
          exact y2 w.2
    have T48 : ∀ {G : aH} {cI : Int32} (b : Bool), y_fr h G [] [] → p < t → cI.toInt = (if b then 40 else 33) → pr_E (y_N sg) t nd.toInt false p o = pr_E (y_N sg) t nd.toInt false (p + 1) (o + (if b then 1 else 0)) → o + (if b then 1 else 0) ≤ 5 → aOK s_P X (d + 2) a_m87 48 [some (.ref 14), some (.ref 31), some (.int pI), some (.int oI), some (.int cI)] [] G C S K0 := by
      intro G cI b e ptt hc hE o5'
      have s2 := tx_s_fr s e rfl rfl
      have inc : (atI + Int32.ofInt 1).toInt = ((p + 1 : Nat) : Int) := by rw [y_inc (by omega), a5]; rfl
      cases b with
      | true =>
        have hc' : cI.toInt = 40 := hc
        have ino : (oI + Int32.ofInt 1).toInt = ((o + 1 : Nat) : Int) := by rw [y_inc (by omega), ho]; rfl
        have o6 : o + 1 ≤ 5 := o5'
        refine w_go z_hl [12] [88] 40 e.1 ?_
        refine ⟨fun z => ?_, fun _ => ?_⟩
        · have y1 : cI.toInt ≠ ((Int8.ofInt 40).toInt32).toInt := (y_ci .ne _ _).mp z
          rw [c40] at y1
          exact absurd hc' y1
        · intro x hx _ _
          obtain rfl := y_fi ((y_fe e rfl).trans a4) hx
          refine ⟨rfl, y_zini (by show 0 ≤ (atI + Int32.ofInt 1).toInt; omega) (by show (atI + Int32.ofInt 1).toInt ≤ 40; omega), fun H hH => ?_⟩
          have f : y_fr G H [1538] [] := y_st (y_mo (y_rf e.1) rfl rfl) hH (by repeat (first | exact w_nil | refine w_cons (Or.inl (y_m rfl)) ?_ | refine w_cons (Or.inr (by assumption)) ?_)) (by repeat (first | exact w_nil | refine w_cons (Or.inl (y_m rfl)) ?_ | refine w_cons (Or.inr (by assumption)) ?_))
          exact ih H (p + 1) _ (o + 1) _ (tx_s_at s2 f rfl (hH.2.1 1538 _ rfl) inc (by omega)) ino o6 (by omega) (fun b r H' f1 f2 f3 => hK b r H' (y_sq (y_mo (y_sq (y_mo e rfl rfl) f rfl rfl : y_fr h H [1538] []) rfl rfl) f1 rfl rfl) f2 (hE.trans f3))
      | false =>
        have hc' : cI.toInt = 33 := hc
        have ino : (oI + Int32.ofInt 0).toInt = (o : Nat) := by rw [show Int32.ofInt 0 = (0 : Int32) by decide, Int32.add_zero]; exact ho
        refine w_go z_hl [12] [88] 40 e.1 ?_
        refine ⟨fun _ => ?_, fun z => ?_⟩
        · intro x hx _ _
          obtain rfl := y_fi ((y_fe e rfl).trans a4) hx
          refine ⟨rfl, y_zini (by show 0 ≤ (atI + Int32.ofInt 1).toInt; omega) (by show (atI + Int32.ofInt 1).toInt ≤ 40; omega), fun H hH => ?_⟩
          have f : y_fr G H [1538] [] := y_st (y_mo (y_rf e.1) rfl rfl) hH (by repeat (first | exact w_nil | refine w_cons (Or.inl (y_m rfl)) ?_ | refine w_cons (Or.inr (by assumption)) ?_)) (by repeat (first | exact w_nil | refine w_cons (Or.inl (y_m rfl)) ?_ | refine w_cons (Or.inr (by assumption)) ?_))
          exact ih H (p + 1) _ o _ (tx_s_at s2 f rfl (hH.2.1 1538 _ rfl) inc (by omega)) ino o5 (by omega) (fun b r H' f1 f2 f3 => hK b r H' (y_sq (y_mo (y_sq (y_mo e rfl rfl) f rfl rfl : y_fr h H [1538] []) rfl rfl) f1 rfl rfl) f2 (hE.trans f3))
        · have y1 : ¬ (cI.toInt ≠ ((Int8.ofInt 40).toInt32).toInt) := y_cif z
          rw [c40] at y1
          exfalso
          omega
    have T27 : ∀ {G : aH} {cI : Int32}, y_fr h G [] [] → p < t → cI.toInt = pr_k (y_N sg) t p → aOK s_P X (d + 2) a_m87 27 [some (.ref 14), some (.ref 31), some (.int pI), some (.int oI), o4] [.int cI] G C S K0 := by
      intro G cI e ptt hc
      refine w_go z_hl [48, 76] [88] 40 e.1 ?_
      refine ⟨fun z => fun H hH => ?_, fun z => ⟨fun z2 => fun H hH => ?_, fun z2 => ⟨fun z3 => fun H hH => ?_, fun z3 => fun H hH => ?_⟩⟩⟩
      · have y1 : cI.toInt = ((Int8.ofInt 33).toInt32).toInt := (y_ci .eq _ _).mp z
        rw [c33] at y1
        exact T48 false (y_st e hH (by repeat (first | exact w_nil | refine w_cons (Or.inl (y_m rfl)) ?_ | refine w_cons (Or.inr (by assumption)) ?_)) (by repeat (first | exact w_nil | refine w_cons (Or.inl (y_m rfl)) ?_ | refine w_cons (Or.inr (by assumption)) ?_))) ptt y1 (pr_bang (by omega) (hc.symm.trans y1)) o5
      · have y1 : ¬ (cI.toInt = ((Int8.ofInt 33).toInt32).toInt) := y_cif z
        have y2 : cI.toInt ≠ ((Int8.ofInt 40).toInt32).toInt := (y_ci .ne _ _).mp z2
        rw [c33, hc] at y1
        rw [c40, hc] at y2
        exact T76 (y_st e hH (by repeat (first | exact w_nil | refine w_cons (Or.inl (y_m rfl)) ?_ | refine w_cons (Or.inr (by assumption)) ?_)) (by repeat (first | exact w_nil | refine w_cons (Or.inl (y_m rfl)) ?_ | refine w_cons (Or.inr (by assumption)) ?_))) ptt hc y1 (fun w => y2 w.1)
      · have y1 : ¬ (cI.toInt = ((Int8.ofInt 33).toInt32).toInt) := y_cif z
        have y3 : (Int32.ofInt 5).toInt ≤ oI.toInt := (y_ci .ge _ _).mp z3
        rw [c33, hc] at y1
        rw [c5] at y3
        exact T76 (y_st e hH (by repeat (first | exact w_nil | refine w_cons (Or.inl (y_m rfl)) ?_ | refine w_cons (Or.inr (by assumption)) ?_)) (by repeat (first | exact w_nil | refine w_cons (Or.inl (y_m rfl)) ?_ | refine w_cons (Or.inr (by assumption)) ?_))) ptt hc y1 (fun w => by have := w.2; omega)
      · have y2 : ¬ (cI.toInt ≠ ((Int8.ofInt 40).toInt32).toInt) := y_cif z2
        have y3 : ¬ ((Int32.ofInt 5).toInt ≤ oI.toInt) := y_cif z3
        rw [c40] at y2
        rw [c5] at y3
        have y4 : cI.toInt = 40 := Decidable.not_not.mp y2
        exact T48 true (y_st e hH (by repeat (first | exact w_nil | refine w_cons (Or.inl (y_m rfl)) ?_ | refine w_cons (Or.inr (by assumption)) ?_)) (by repeat (first | exact w_nil | refine w_cons (Or.inl (y_m rfl)) ?_ | refine w_cons (Or.inr (by assumption)) ?_))) ptt y4 (pr_open (by omega) (hc.symm.trans y4) (by omega)) (by show o + 1 ≤ 5; omega)
    refine w_go z_hl [12] [82] 30 hr ?_
    intro x hx _ _
    obtain rfl := y_fi a4 hx
    intro y hy _ _
    obtain rfl := y_fi a2 hy
    refine ⟨fun z => ⟨by decide, fun H hH => ?_⟩, fun z => fun H hH => ?_⟩
    · have y1 : toI.toInt ≤ atI.toInt := (y_ci .ge _ _).mp z
      have f : y_fr h H [] [] := y_st (y_rf hr) hH (by repeat (first | exact w_nil | refine w_cons (Or.inl (y_m rfl)) ?_ | refine w_cons (Or.inr (by assumption)) ?_)) (by repeat (first | exact w_nil | refine w_cons (Or.inl (y_m rfl)) ?_ | refine w_cons (Or.inr (by assumption)) ?_))
      have k0 : pr_k (y_N sg) t p = 0 := if_neg (by omega)
      exact hK false p H (y_mo f rfl rfl) (tx_s_fr s f rfl rfl) (pr_bad (by omega) (by omega) (fun w => by have := w.1; omega) (fun w => by have := w.1; omega))
    · have y1 : ¬ (toI.toInt ≤ atI.toInt) := y_cif z
      have f : y_fr h H [] [] := y_st (y_rf hr) hH (by repeat (first | exact w_nil | refine w_cons (Or.inl (y_m rfl)) ?_ | refine w_cons (Or.inr (by assumption)) ?_)) (by repeat (first | exact w_nil | refine w_cons (Or.inl (y_m rfl)) ?_ | refine w_cons (Or.inr (by assumption)) ?_))
      refine c_lkT (tx_s_fr s f rfl rfl) (fun r H2 f2 er => ⟨fun n e => (by cases e), ?_⟩)
      exact T27 (y_sq f f2 rfl rfl) (by omega) er
theorem c_ev2 {h : aH} {p : Nat} (n0 : 0 ≤ nd.toInt) (n10 : nd.toInt ≤ 10) {pI : Int32} {pa : Nat} (hpa : pI.toInt = pa) (pa4 : pa < 4) (s : tx_s nd h sg t p) {fr : List Int32} (gf : w_a h 31 = some (0, .inl fr)) (hK : ∀ (b : Bool) (q : Nat) (aI : Int32) (H : aH), y_fr h H [1538] [31, 32, 33] → tx_s nd H sg t q → pr_E (y_N sg) t nd.toInt false p 0 = (b, q) → w_a H 31 = some (0, .inl (fr.set pa aI)) → 0 ≤ aI.toInt → K0 (some (.int (y_01 b))) H C S) : aOK s_P X (d + 2) a_m87 0 [some (.ref 14), some (.ref 31), some (.int pI), none, none] [] h C S K0 := by
  obtain ⟨toI, atI, hr, a1, a2, a3, a4, a5, a6, pt, t40⟩ := id s
  have cp := y_cl1 hpa
  refine w_go z_hl [12] [] 30 hr ?_
  intro x hx _ _
  obtain rfl := y_fi a4 hx
  refine ⟨⟨by omega, by omega⟩, ⟨by omega, by omega⟩, fun l hl len bb => fun H hH => ?_⟩
  obtain rfl := y_ai gf hl
  have w := hH.2.2.1 31 _ rfl
  rw [cp] at w
  have f : y_fr h H [] [31] := y_st (y_mo (y_rf hr) rfl rfl) hH (by repeat (first | exact w_nil | refine w_cons (Or.inl (y_m rfl)) ?_ | refine w_cons (Or.inr (by assumption)) ?_)) (by repeat (first | exact w_nil | refine w_cons (Or.inl (y_m rfl)) ?_ | refine w_cons (Or.inr (by assumption)) ?_))
  exact c_evl2 (d := d) n0 n10 hpa pa4 40 H p _ 0 _ (tx_s_fr s f rfl rfl) (by decide) (by decide) (by omega) (fun b q H' f1 f2 f3 => hK b q atI H' (y_sq (y_mo f rfl rfl) f1 rfl rfl) f2 f3 ((y_ae f1 rfl).trans w) (by omega))
end PEV2
end PT33ibu
section PT33ibv
/-! ===== v21: parseGiven, parseRate, parseTerm of the class with saying 2 (laid by wip/tools/mk21d.py) ===== -/
section PPT2
variable {X : aX} {C S d : Nat} {K0 : Option Value → aH → Nat → Nat → Prop} {sg : List Int32} {t p : Nat} {nd : Int32} {h : aH}
theorem c_gv2 (n0 : 0 ≤ nd.toInt) (n10 : nd.toInt ≤ 10) {sI : Int32} {sd : Nat} (hs : sI.toInt = sd) (hs2 : sd < 2) (s : tx_s nd h sg t p) {fr : List Int32} (gf : w_a h 31 = some (0, .inl fr)) (hK : ∀ (b : Bool) (q k : Nat) (H : aH) (fr' : List Int32), y_fr h H [1538] [31, 32, 33] → tx_s nd H sg t q → pr_gv (y_N sg) t nd.toInt p = (b, q, k) → w_a H 31 = some (0, .inl fr') → tx_f fr fr' sd k → K0 (some (.int (y_01 b))) H C S) : aOK s_P X (d + 3) a_m86 0 [some (.ref 14), some (.ref 31), some (.int sI)] [] h C S K0 := by
  obtain ⟨toI, atI, hr, a1, a2, a3, a4, a5, a6, pt, t40⟩ := id s
  obtain ⟨fr0, f1, fl, -⟩ := c_arr hr (ob := 31) (n := 4) (lo := -1) (hi := 40) rfl
  obtain rfl := y_ai gf f1
  have c47 : ((Int8.ofInt 47).toInt32).toInt = 47 := by decide
  have m1 : (Int32.ofInt 2 * sI).toInt = ((2 * sd : Nat) : Int) := y_mulS (m := 2) _ (by decide) hs rfl (by omega)
  have m2 : (Int32.ofInt 2 * sI + Int32.ofInt 1).toInt = ((2 * sd + 1 : Nat) : Int) := y_addS _ m1 (n := 1) (by decide) rfl (by omega)
  have T44 : ∀ {G : aH} {b : Bool} {q k : Nat} {fr' : List Int32}, y_fr h G [1538] [31, 32, 33] → tx_s nd G sg t q → pr_gv (y_N sg) t nd.toInt p = (b, q, k) → w_a G 31 = some (0, .inl fr') → tx_f fr fr' sd k → aOK s_P X (d + 3) a_m86 44 [some (.ref 14), some (.ref 31), some (.int sI)] [.int (y_01 b)] G C S K0 := by
    intro G b q k fr' e s2 hg g2 hf
    refine w_go z_hl [] [] 20 e.1 ?_
    refine ⟨y_01b b, fun H hH => ?_⟩
    have f : y_fr G H [] [] := y_st (y_rf e.1) hH (by repeat (first | exact w_nil | refine w_cons (Or.inl (y_m rfl)) ?_ | refine w_cons (Or.inr (by assumption)) ?_)) (by repeat (first | exact w_nil | refine w_cons (Or.inl (y_m rfl)) ?_ | refine w_cons (Or.inr (by assumption)) ?_))
    exact hK b q k H fr' (y_sq e f rfl rfl) (tx_s_fr s2 f rfl rfl) hg ((y_ae f rfl).trans g2) hf
  have T24 : ∀ {G : aH} {q : Nat} {aI : Int32}, y_fr h G [1538] [31, 32, 33] → tx_s nd G sg t q → q < t → pr_E (y_N sg) t nd.toInt false p 0 = (true, q) → pr_k (y_N sg) t q = 47 → w_a G 31 = some (0, .inl (fr.set (2 * sd) aI)) → 0 ≤ aI.toInt → aOK s_P X (d + 3) a_m86 24 [some (.ref 14), some (.ref 31), some (.int sI)] [] G C S K0 := by
    intro G q aI e s2 qt hE h47 g2 ha
    obtain ⟨toJ, atJ, -, b1, b2, b3, b4, b5, b6, -, -⟩ := id s2
    have inc : (atJ + Int32.ofInt 1).toInt = ((q + 1 : Nat) : Int) := by rw [y_inc (by omega), b5]; rfl
    refine w_go z_hl [] [87] 30 e.1 ?_
    intro x hx _ _
    obtain rfl := y_fi b4 hx
    refine ⟨rfl, y_zini (by show 0 ≤ (atJ + Int32.ofInt 1).toInt; omega) (by show (atJ + Int32.ofInt 1).toInt ≤ 40; omega), fun H hH => ?_⟩
    have f : y_fr G H [1538] [] := y_st (y_mo (y_rf e.1) rfl rfl) hH (by repeat (first | exact w_nil | refine w_cons (Or.inl (y_m rfl)) ?_ | refine w_cons (Or.inr (by assumption)) ?_)) (by repeat (first | exact w_nil | refine w_cons (Or.inl (y_m rfl)) ?_ | refine w_cons (Or.inr (by assumption)) ?_))
    refine c_ev2 (d := d) n0 n10 m2 (by omega) (tx_s_at s2 f rfl (hH.2.1 1538 _ rfl) inc (by omega)) ((y_ae f rfl).trans g2) (fun b r aJ H2 f2 s3 hE2 g3 ha2 => ⟨fun n e => (by cases e), ?_⟩)
    exact T44 (k := 2) (y_sq (y_sq e f rfl rfl) f2 rfl rfl) s3 (pr_gv_2 hE h47 hE2) g3 (tx_f_2 fl ha ha2 hs2)
  have T17 : ∀ {G : aH} {q : Nat} {aI cI : Int32}, y_fr h G [1538] [31, 32, 33] → tx_s nd G sg t q → cI.toInt = pr_k (y_N sg) t q → pr_E (y_N sg) t nd.toInt false p 0 = (true, q) → w_a G 31 = some (0, .inl (fr.set (2 * sd) aI)) → 0 ≤ aI.toInt → aOK s_P X (d + 3) a_m86 17 [some (.ref 14), some (.ref 31), some (.int sI)] [.int cI] G C S K0 := by
    intro G q aI cI e s2 hc hE g2 ha
    refine w_go z_hl [24] [] 30 e.1 ?_
    refine ⟨fun z => fun H hH => ?_, fun z => ⟨by decide, fun H hH => ?_⟩⟩
    · have y1 : cI.toInt = ((Int8.ofInt 47).toInt32).toInt := (y_ci .eq _ _).mp z
      rw [c47, hc] at y1
      have f : y_fr G H [] [] := y_st (y_rf e.1) hH (by repeat (first | exact w_nil | refine w_cons (Or.inl (y_m rfl)) ?_ | refine w_cons (Or.inr (by assumption)) ?_)) (by repeat (first | exact w_nil | refine w_cons (Or.inl (y_m rfl)) ?_ | refine w_cons (Or.inr (by assumption)) ?_))
      exact T24 (y_sq e f rfl rfl) (tx_s_fr s2 f rfl rfl) (pr_k_t (by decide) y1) hE y1 ((y_ae f rfl).trans g2) ha
    · have y1 : ¬ (cI.toInt = ((Int8.ofInt 47).toInt32).toInt) := y_cif z
      rw [c47, hc] at y1
      have f : y_fr G H [] [] := y_st (y_rf e.1) hH (by repeat (first | exact w_nil | refine w_cons (Or.inl (y_m rfl)) ?_ | refine w_cons (Or.inr (by assumption)) ?_)) (by repeat (first | exact w_nil | refine w_cons (Or.inl (y_m rfl)) ?_ | refine w_cons (Or.inr (by assumption)) ?_))
      exact hK true q 1 H _ (y_sq e f rfl rfl) (tx_s_fr s2 f rfl rfl) (pr_gv_1 hE y1) ((y_ae f rfl).trans g2) (tx_f_1 fl ha hs2)
  have T8 : ∀ {G : aH} {q : Nat} {aI : Int32} (b : Bool), y_fr h G [1538] [31, 32, 33] → tx_s nd G sg t q → pr_E (y_N sg) t nd.toInt false p 0 = (b, q) → w_a G 31 = some (0, .inl (fr.set (2 * sd) aI)) → 0 ≤ aI.toInt → aOK s_P X (d + 3) a_m86 8 [some (.ref 14), some (.ref 31), some (.int sI)] [.int (y_01 b)] G C S K0 := by
    intro G q aI b e s2 hE g2 ha
    cases b with
    | true =>
      refine w_go z_hl [24] [82] 30 e.1 ?_
      refine ⟨fun _ => fun H hH => ?_, fun z => absurd z (by decide)⟩
      have f : y_fr G H [] [] := y_st (y_rf e.1) hH (by repeat (first | exact w_nil | refine w_cons (Or.inl (y_m rfl)) ?_ | refine w_cons (Or.inr (by assumption)) ?_)) (by repeat (first | exact w_nil | refine w_cons (Or.inl (y_m rfl)) ?_ | refine w_cons (Or.inr (by assumption)) ?_))
      refine c_lkT (tx_s_fr s2 f rfl rfl) (fun r H2 f2 er => ⟨fun n e => (by cases e), ?_⟩)
      exact T17 (y_sq (y_sq e f rfl rfl) f2 rfl rfl) (tx_s_fr (tx_s_fr s2 f rfl rfl) f2 rfl rfl) er hE ((y_ae f2 rfl).trans ((y_ae f rfl).trans g2)) ha
    | false =>
      refine w_go z_hl [24] [82] 30 e.1 ?_
      refine ⟨fun z => absurd z (by decide), fun _ => ⟨by decide, fun H hH => ?_⟩⟩
      have f : y_fr G H [] [] := y_st (y_rf e.1) hH (by repeat (first | exact w_nil | refine w_cons (Or.inl (y_m rfl)) ?_ | refine w_cons (Or.inr (by assumption)) ?_)) (by repeat (first | exact w_nil | refine w_cons (Or.inl (y_m rfl)) ?_ | refine w_cons (Or.inr (by assumption)) ?_))
      exact hK false q 1 H _ (y_sq e f rfl rfl) (tx_s_fr s2 f rfl rfl) (pr_gv_n hE) ((y_ae f rfl).trans g2) (tx_f_1 fl ha hs2)
  refine w_go z_hl [] [87] 30 hr ?_
  intro H hH
  have f : y_fr h H [] [] := y_st (y_rf hr) hH (by repeat (first | exact w_nil | refine w_cons (Or.inl (y_m rfl)) ?_ | refine w_cons (Or.inr (by assumption)) ?_)) (by repeat (first | exact w_nil | refine w_cons (Or.inl (y_m rfl)) ?_ | refine w_cons (Or.inr (by assumption)) ?_))
  refine c_ev2 (d := d) n0 n10 m1 (by omega) (tx_s_fr s f rfl rfl) ((y_ae f rfl).trans gf) (fun b q aI H2 f2 s3 hE g3 ha => ⟨fun n e => (by cases e), ?_⟩)
  exact T8 b (y_sq (y_mo f rfl rfl) f2 rfl rfl) s3 hE g3 ha
theorem c_rt2 {sI : Int32} {sd : Nat} (hs : sI.toInt = sd) (hs2 : sd < 2) (s : tx_s nd h sg t p) (hK : ∀ (b : Bool) (q : Nat) (H : aH), y_fr h H [1538] [34, 35] → tx_s nd H sg t q → pr_rt (y_N sg) t p = (b, q, 0) → K0 (some (.int (y_01 b))) H C S) : aOK s_P X (d + 2) a_m84 0 [some (.ref 14), some (.ref 31), some (.int sI)] [] h C S K0 := by
  obtain ⟨toI, atI, hr, a1, a2, a3, a4, a5, a6, pt, t40⟩ := id s
  have c58 : ((Int8.ofInt 58).toInt32).toInt = 58 := by decide
  have c48 : ((Int8.ofInt 48).toInt32).toInt = 48 := by decide
  have T61 : ∀ {G : aH} {q : Nat} {r : Int32}, y_fr h G [1538] [34] → tx_s nd G sg t q → pr_rt (y_N sg) t p = (true, q, 0) → aOK s_P X (d + 2) a_m84 61 [some (.ref 14), some (.ref 31), some (.int sI)] [.int r, .int sI, .ref 37] G C S K0 := by
    intro G q r e s2 hg
    refine w_go z_hl [] [] 20 e.1 ?_
    refine ⟨⟨by omega, by omega⟩, y_l32 _, fun l hl len bb => ⟨by decide, fun H hH => ?_⟩⟩
    have f : y_fr G H [] [35] := y_st (y_mo (y_rf e.1) rfl rfl) hH (by repeat (first | exact w_nil | refine w_cons (Or.inl (y_m rfl)) ?_ | refine w_cons (Or.inr (by assumption)) ?_)) (by repeat (first | exact w_nil | refine w_cons (Or.inl (y_m rfl)) ?_ | refine w_cons (Or.inr (by assumption)) ?_))
    exact hK true q H (y_sq (y_mo e rfl rfl) f rfl rfl) (tx_s_fr s2 f rfl rfl) hg
  have T45 : ∀ {G : aH} {cI : Int32}, y_fr h G [1538] [34] → tx_s nd G sg t (pr_dq (y_N sg) t 8 p + 1) → pr_k (y_N sg) t (pr_dq (y_N sg) t 8 p) = 58 → pr_dg (y_N sg) t (pr_dq (y_N sg) t 8 p + 1) → cI.toInt = pr_k (y_N sg) t (pr_dq (y_N sg) t 8 p + 1) → aOK s_P X (d + 2) a_m84 45 [some (.ref 14), some (.ref 31), some (.int sI)] [.int cI] G C S K0 := by
    intro G cI e s2 h58 hd hc
    have hd1 := hd.1
    have hd2 := hd.2
    refine w_go z_hl [] [85] 30 e.1 ?_
    refine ⟨fun z => fun H hH => ?_, fun z => ⟨by decide, fun H hH => ?_⟩⟩
    · have y1 : cI.toInt ≠ ((Int8.ofInt 48).toInt32).toInt := (y_ci .ne _ _).mp z
      rw [c48, hc] at y1
      have f : y_fr G H [] [] := y_st (y_rf e.1) hH (by repeat (first | exact w_nil | refine w_cons (Or.inl (y_m rfl)) ?_ | refine w_cons (Or.inr (by assumption)) ?_)) (by repeat (first | exact w_nil | refine w_cons (Or.inl (y_m rfl)) ?_ | refine w_cons (Or.inr (by assumption)) ?_))
      refine c_number (d := d) (tx_s_fr s2 f rfl rfl) (fun r H2 f2 s3 => ⟨fun n e => (by cases e), ?_⟩)
      exact T61 (y_sq (y_sq e f rfl rfl) f2 rfl rfl) s3 (pr_rt_1 h58 ⟨by omega, hd2⟩)
    · have y1 : ¬ (cI.toInt ≠ ((Int8.ofInt 48).toInt32).toInt) := y_cif z
      rw [c48, hc] at y1
      have f : y_fr G H [] [] := y_st (y_rf e.1) hH (by repeat (first | exact w_nil | refine w_cons (Or.inl (y_m rfl)) ?_ | refine w_cons (Or.inr (by assumption)) ?_)) (by repeat (first | exact w_nil | refine w_cons (Or.inl (y_m rfl)) ?_ | refine w_cons (Or.inr (by assumption)) ?_))
      exact hK false _ H (y_mo (y_sq e f rfl rfl) rfl rfl) (tx_s_fr s2 f rfl rfl) (pr_rt_0 h58 (fun w => by have := w.1; omega))
  have T38 : ∀ {G : aH} (b : Bool), y_fr h G [1538] [34] → tx_s nd G sg t (pr_dq (y_N sg) t 8 p + 1) → pr_k (y_N sg) t (pr_dq (y_N sg) t 8 p) = 58 → (b = true → pr_dg (y_N sg) t (pr_dq (y_N sg) t 8 p + 1)) → (b = false → ¬ pr_dg (y_N sg) t (pr_dq (y_N sg) t 8 p + 1)) → aOK s_P X (d + 2) a_m84 38 [some (.ref 14), some (.ref 31), some (.int sI)] [.int (y_01 b)] G C S K0 := by
    intro G b e s2 h58 hy hn
    cases b with
    | true =>
      refine w_go z_hl [] [82] 30 e.1 ?_
      refine ⟨fun z => absurd z (by decide), fun _ => fun H hH => ?_⟩
      have f : y_fr G H [] [] := y_st (y_rf e.1) hH (by repeat (first | exact w_nil | refine w_cons (Or.inl (y_m rfl)) ?_ | refine w_cons (Or.inr (by assumption)) ?_)) (by repeat (first | exact w_nil | refine w_cons (Or.inl (y_m rfl)) ?_ | refine w_cons (Or.inr (by assumption)) ?_))
      refine c_lkT (tx_s_fr s2 f rfl rfl) (fun r H2 f2 er => ⟨fun n e => (by cases e), ?_⟩)
      exact T45 (y_sq (y_sq e f rfl rfl) f2 rfl rfl) (tx_s_fr (tx_s_fr s2 f rfl rfl) f2 rfl rfl) h58 (hy rfl) er
    | false =>
      refine w_go z_hl [] [82] 30 e.1 ?_
      refine ⟨fun _ => ⟨by decide, fun H hH => ?_⟩, fun z => absurd z (by decide)⟩
      have f : y_fr G H [] [] := y_st (y_rf e.1) hH (by repeat (first | exact w_nil | refine w_cons (Or.inl (y_m rfl)) ?_ | refine w_cons (Or.inr (by assumption)) ?_)) (by repeat (first | exact w_nil | refine w_cons (Or.inl (y_m rfl)) ?_ | refine w_cons (Or.inr (by assumption)) ?_))
      exact hK false _ H (y_mo (y_sq e f rfl rfl) rfl rfl) (tx_s_fr s2 f rfl rfl) (pr_rt_0 h58 (fun w => hn rfl ⟨by have := w.1; omega, w.2⟩))
  have T35 : ∀ {G : aH} {cI : Int32}, y_fr h G [1538] [34] → tx_s nd G sg t (pr_dq (y_N sg) t 8 p + 1) → pr_k (y_N sg) t (pr_dq (y_N sg) t 8 p) = 58 → cI.toInt = pr_k (y_N sg) t (pr_dq (y_N sg) t 8 p + 1) → aOK s_P X (d + 2) a_m84 35 [some (.ref 14), some (.ref 31), some (.int sI)] [.int cI] G C S K0 := by
    intro G cI e s2 h58 hc
    refine w_go z_hl [] [83] 20 e.1 ?_
    intro H hH
    have f : y_fr G H [] [] := y_st (y_rf e.1) hH (by repeat (first | exact w_nil | refine w_cons (Or.inl (y_m rfl)) ?_ | refine w_cons (Or.inr (by assumption)) ?_)) (by repeat (first | exact w_nil | refine w_cons (Or.inl (y_m rfl)) ?_ | refine w_cons (Or.inr (by assumption)) ?_))
    refine c_isDg (c := cI) f.1 (fun H2 f2 w => ⟨fun n e => (by cases e), ?_⟩) (fun H2 f2 w => ⟨fun n e => (by cases e), ?_⟩)
    · exact T38 true (y_sq (y_sq e f rfl rfl) f2 rfl rfl) (tx_s_fr (tx_s_fr s2 f rfl rfl) f2 rfl rfl) h58 (fun _ => ⟨by omega, by omega⟩) (fun z => absurd z (by decide))
    · exact T38 false (y_sq (y_sq e f rfl rfl) f2 rfl rfl) (tx_s_fr (tx_s_fr s2 f rfl rfl) f2 rfl rfl) h58 (fun z => absurd z (by decide)) (fun _ z => w ⟨by have := z.1; omega, by have := z.2; omega⟩)
  have T14 : ∀ {G : aH} {cI : Int32}, y_fr h G [1538] [34] → tx_s nd G sg t (pr_dq (y_N sg) t 8 p) → cI.toInt = pr_k (y_N sg) t (pr_dq (y_N sg) t 8 p) → aOK s_P X (d + 2) a_m84 14 [some (.ref 14), some (.ref 31), some (.int sI)] [.int cI] G C S K0 := by
    intro G cI e s2 hc
    obtain ⟨toJ, atJ, -, b1, b2, b3, b4, b5, b6, qt, -⟩ := id s2
    refine w_go z_hl [] [82] 40 e.1 ?_
    refine ⟨fun z => ?_, fun z => ⟨by decide, fun H hH => ?_⟩⟩
    · have y1 : cI.toInt = ((Int8.ofInt 58).toInt32).toInt := (y_ci .eq _ _).mp z
      rw [c58, hc] at y1
      have qt' := pr_k_t (by decide) y1
      have inc : (atJ + Int32.ofInt 1).toInt = ((pr_dq (y_N sg) t 8 p + 1 : Nat) : Int) := by rw [y_inc (by omega), b5]; rfl
      intro x hx _ _
      obtain rfl := y_fi b4 hx
      refine ⟨rfl, y_zini (by show 0 ≤ (atJ + Int32.ofInt 1).toInt; omega) (by show (atJ + Int32.ofInt 1).toInt ≤ 40; omega), fun H hH => ?_⟩
      have f : y_fr G H [1538] [] := y_st (y_mo (y_rf e.1) rfl rfl) hH (by repeat (first | exact w_nil | refine w_cons (Or.inl (y_m rfl)) ?_ | refine w_cons (Or.inr (by assumption)) ?_)) (by repeat (first | exact w_nil | refine w_cons (Or.inl (y_m rfl)) ?_ | refine w_cons (Or.inr (by assumption)) ?_))
      have s3 := tx_s_at s2 f rfl (hH.2.1 1538 _ rfl) inc (by omega)
      refine c_lkT s3 (fun r H2 f2 er => ⟨fun n e => (by cases e), ?_⟩)
      exact T35 (y_sq (y_sq e f rfl rfl) f2 rfl rfl) (tx_s_fr s3 f2 rfl rfl) y1 er
    · have y1 : ¬ (cI.toInt = ((Int8.ofInt 58).toInt32).toInt) := y_cif z
      rw [c58, hc] at y1
      have f : y_fr G H [] [] := y_st (y_rf e.1) hH (by repeat (first | exact w_nil | refine w_cons (Or.inl (y_m rfl)) ?_ | refine w_cons (Or.inr (by assumption)) ?_)) (by repeat (first | exact w_nil | refine w_cons (Or.inl (y_m rfl)) ?_ | refine w_cons (Or.inr (by assumption)) ?_))
      exact hK false _ H (y_mo (y_sq e f rfl rfl) rfl rfl) (tx_s_fr s2 f rfl rfl) (pr_rt_n y1)
  have T9 : ∀ {G : aH} {r : Int32}, y_fr h G [1538] [] → tx_s nd G sg t (pr_dq (y_N sg) t 8 p) → aOK s_P X (d + 2) a_m84 9 [some (.ref 14), some (.ref 31), some (.int sI)] [.int r, .int sI, .ref 36] G C S K0 := by
    intro G r e s2
    refine w_go z_hl [] [82] 30 e.1 ?_
    refine ⟨⟨by omega, by omega⟩, y_l32 _, fun l hl len bb => fun H hH => ?_⟩
    have f : y_fr G H [] [34] := y_st (y_mo (y_rf e.1) rfl rfl) hH (by repeat (first | exact w_nil | refine w_cons (Or.inl (y_m rfl)) ?_ | refine w_cons (Or.inr (by assumption)) ?_)) (by repeat (first | exact w_nil | refine w_cons (Or.inl (y_m rfl)) ?_ | refine w_cons (Or.inr (by assumption)) ?_))
    refine c_lkT (tx_s_fr s2 f rfl rfl) (fun r H2 f2 er => ⟨fun n e => (by cases e), ?_⟩)
    exact T14 (y_sq (y_sq (y_mo e rfl rfl) f rfl rfl) f2 rfl rfl) (tx_s_fr (tx_s_fr s2 f rfl rfl) f2 rfl rfl) er
  refine w_go z_hl [] [85] 30 hr ?_
  intro H hH
  have f : y_fr h H [] [] := y_st (y_rf hr) hH (by repeat (first | exact w_nil | refine w_cons (Or.inl (y_m rfl)) ?_ | refine w_cons (Or.inr (by assumption)) ?_)) (by repeat (first | exact w_nil | refine w_cons (Or.inl (y_m rfl)) ?_ | refine w_cons (Or.inr (by assumption)) ?_))
  refine c_number (d := d) (tx_s_fr s f rfl rfl) (fun r H2 f2 s3 => ⟨fun n e => (by cases e), ?_⟩)
  exact T9 (y_sq (y_mo f rfl rfl) f2 rfl rfl) s3
end PPT2
end PT33ibv
section PT33ibw
/-! ===== v21: clear, parseTerm, parseFirst, parseSecond of the class with saying 2 (laid by wip/tools/mk21e.py) ===== -/
section PFS2
variable {X : aX} {C S d : Nat} {K0 : Option Value → aH → Nat → Nat → Prop} {sg : List Int32} {t p : Nat} {nd : Int32} {h : aH}
theorem c_clearl2 : ∀ (m : Nat) (h : aH) (iI : Int32) (i : Nat) (fr : List Int32), w_hr z_D h → iI.toInt = i → i + m = 4 → w_a h 31 = some (0, .inl fr) → fr.length = 4 → (∀ j, j < i → y_N fr j = -1) → (∀ (H : aH) (fr' : List Int32), y_fr h H [] [31, 32, 33] → w_a H 31 = some (0, .inl fr') → (∀ j, j < 4 → y_N fr' j = -1) → K0 none H C S) → aOK s_P X d a_m79 13 [some (.ref 31), some (.int iI)] [] h C S K0 := by
  have c4 : (Int32.ofInt 4).toInt = 4 := by decide
  intro m
  induction m with
  | zero =>
    intro h iI i fr hr hi hm g len hf hK
    have ei : i = 4 := by omega
    rw [ei] at hf
    refine w_go z_hl [13] [] 30 hr ?_
    refine ⟨fun _ => fun H hH => ?_, fun z => ?_⟩
    · have f : y_fr h H [] [] := y_st (y_rf hr) hH (by repeat (first | exact w_nil | refine w_cons (Or.inl (y_m rfl)) ?_ | refine w_cons (Or.inr (by assumption)) ?_)) (by repeat (first | exact w_nil | refine w_cons (Or.inl (y_m rfl)) ?_ | refine w_cons (Or.inr (by assumption)) ?_))
      exact hK H fr (y_mo f rfl rfl) ((y_ae f rfl).trans g) hf
    · have y1 : ¬ ((Int32.ofInt 4).toInt ≤ iI.toInt) := y_cif z
      rw [c4] at y1
      exfalso
      omega
  | succ m ih =>
    intro h iI i fr hr hi hm g len hf hK
    have ink : (iI + Int32.ofInt 1).toInt = ((i + 1 : Nat) : Int) := by rw [y_inc (by omega), hi]; rfl
    have ci := y_cl1 hi
    refine w_go z_hl [13] [] 60 hr ?_
    refine ⟨fun z => ?_, fun z => ?_⟩
    · have y1 : (Int32.ofInt 4).toInt ≤ iI.toInt := (y_ci .ge _ _).mp z
      rw [c4] at y1
      exfalso
      omega
    · refine ⟨⟨by omega, by omega⟩, by decide, fun l hl len1 bb => ?_⟩
      obtain rfl := y_ai g hl
      refine ⟨⟨by omega, by omega⟩, y_l32 _, fun l2 hl2 len2 bb2 => ⟨⟨by omega, by omega⟩, y_l32 _, fun l3 hl3 len3 bb3 => fun H hH => ?_⟩⟩
      have w := hH.2.2.1 31 _ rfl
      rw [ci] at w
      have f : y_fr h H [] [31, 32, 33] := y_st (y_mo (y_rf hr) rfl rfl) hH (by repeat (first | exact w_nil | refine w_cons (Or.inl (y_m rfl)) ?_ | refine w_cons (Or.inr (by assumption)) ?_)) (by repeat (first | exact w_nil | refine w_cons (Or.inl (y_m rfl)) ?_ | refine w_cons (Or.inr (by assumption)) ?_))
      refine ih H _ (i + 1) _ f.1 ink (by omega) w (by rw [List.length_set]; exact len) (fun j hj => ?_) (fun H' fr' f1 f2 f3 => hK H' fr' (y_sq f f1 rfl rfl) f2 f3)
      rw [y_Nset (by omega)]
      by_cases y : j = i
      · rw [if_pos y]
        decide
      · rw [if_neg y]
        exact hf j (by omega)
theorem c_clear2 (hr : w_hr z_D h) (hK : ∀ (H : aH) (fr : List Int32), y_fr h H [3713, 3714] [31, 32, 33] → w_a H 31 = some (0, .inl fr) → (∀ j, j < 4 → y_N fr j = -1) → K0 none H C S) : aOK s_P X d a_m79 0 [some (.ref 31), none] [] h C S K0 := by
  refine w_go z_hl [13] [] 30 hr ?_
  refine ⟨rfl, y_zini (by decide) (by decide), rfl, y_zini (by decide) (by decide), fun H hH => ?_⟩
  have f : y_fr h H [3713, 3714] [] := y_st (y_mo (y_rf hr) rfl rfl) hH (by repeat (first | exact w_nil | refine w_cons (Or.inl (y_m rfl)) ?_ | refine w_cons (Or.inr (by assumption)) ?_)) (by repeat (first | exact w_nil | refine w_cons (Or.inl (y_m rfl)) ?_ | refine w_cons (Or.inr (by assumption)) ?_))
  obtain ⟨fr, f1, fl, -⟩ := c_arr f.1 (ob := 31) (n := 4) (lo := -1) (hi := 40) rfl
  exact c_clearl2 4 H _ 0 fr f.1 (by decide) rfl f1 fl (fun j hj => absurd hj (Nat.not_lt_zero j)) (fun H' fr' e1 e2 e3 => hK H' fr' (y_sq (y_mo f rfl rfl) e1 rfl rfl) e2 e3)
theorem c_tm2 (n0 : 0 ≤ nd.toInt) (n10 : nd.toInt ≤ 10) {sI : Int32} {sd : Nat} (hs : sI.toInt = sd) (hs2 : sd < 2) (s : tx_s nd h sg t p) {fr : List Int32} (gf : w_a h 31 = some (0, .inl fr)) (hK : ∀ (b : Bool) (q k : Nat) (H : aH) (fr' : List Int32), y_fr h H [1538] [31, 32, 33, 34, 35] → tx_s nd H sg t q → pr_tm (y_N sg) t nd.toInt p = (b, q, k) → w_a H 31 = some (0, .inl fr') → (k = 0 ∧ fr' = fr) ∨ tx_f fr fr' sd k → K0 (some (.int (y_01 b))) H C S) : aOK s_P X (d + 4) a_m81 0 [some (.ref 14), some (.ref 31), some (.int sI)] [] h C S K0 := by
  have hr := (tx_s_hr s).1
  have T25 : ∀ {G : aH} {b : Bool} {q k : Nat} {pc : Nat} {fr' : List Int32}, (pc = 16 ∨ pc = 25) → y_fr h G [1538] [31, 32, 33, 34, 35] → tx_s nd G sg t q → pr_tm (y_N sg) t nd.toInt p = (b, q, k) → w_a G 31 = some (0, .inl fr') → (k = 0 ∧ fr' = fr) ∨ tx_f fr fr' sd k → aOK s_P X (d + 4) a_m81 pc [some (.ref 14), some (.ref 31), some (.int sI)] [.int (y_01 b)] G C S K0 := by
    intro G b q k pc fr' hpc e s2 hg g2 hf
    rcases hpc with rfl | rfl
    · refine w_go z_hl [] [] 20 e.1 ?_
      refine ⟨y_01b b, fun H hH => ?_⟩
      have f : y_fr G H [] [] := y_st (y_rf e.1) hH (by repeat (first | exact w_nil | refine w_cons (Or.inl (y_m rfl)) ?_ | refine w_cons (Or.inr (by assumption)) ?_)) (by repeat (first | exact w_nil | refine w_cons (Or.inl (y_m rfl)) ?_ | refine w_cons (Or.inr (by assumption)) ?_))
      exact hK b q k H fr' (y_sq e f rfl rfl) (tx_s_fr s2 f rfl rfl) hg ((y_ae f rfl).trans g2) hf
    · refine w_go z_hl [] [] 20 e.1 ?_
      refine ⟨y_01b b, fun H hH => ?_⟩
      have f : y_fr G H [] [] := y_st (y_rf e.1) hH (by repeat (first | exact w_nil | refine w_cons (Or.inl (y_m rfl)) ?_ | refine w_cons (Or.inr (by assumption)) ?_)) (by repeat (first | exact w_nil | refine w_cons (Or.inl (y_m rfl)) ?_ | refine w_cons (Or.inr (by assumption)) ?_))
      exact hK b q k H fr' (y_sq e f rfl rfl) (tx_s_fr s2 f rfl rfl) hg ((y_ae f rfl).trans g2) hf
  have T7 : ∀ {G : aH} (b : Bool), y_fr h G [] [] → (b = true → pr_dg (y_N sg) t p) → (b = false → ¬ pr_dg (y_N sg) t p) → aOK s_P X (d + 4) a_m81 7 [some (.ref 14), some (.ref 31), some (.int sI)] [.int (y_01 b)] G C S K0 := by
    intro G b e hy hn
    cases b with
    | true =>
      refine w_go z_hl [] [84, 86] 30 e.1 ?_
      refine ⟨fun z => absurd z (by decide), fun _ => fun H hH => ?_⟩
      have f : y_fr h H [] [] := y_st e hH (by repeat (first | exact w_nil | refine w_cons (Or.inl (y_m rfl)) ?_ | refine w_cons (Or.inr (by assumption)) ?_)) (by repeat (first | exact w_nil | refine w_cons (Or.inl (y_m rfl)) ?_ | refine w_cons (Or.inr (by assumption)) ?_))
      refine c_rt2 (d := d + 1) hs hs2 (tx_s_fr s f rfl rfl) (fun b q H2 f2 s3 hg => ⟨fun n e => (by cases e), ?_⟩)
      exact T25 (k := 0) (Or.inl rfl) (y_sq (y_mo f rfl rfl) f2 rfl rfl) s3 (by rw [pr_tm_1 (hy rfl)]; exact hg) ((y_ae f2 rfl).trans ((y_ae f rfl).trans gf)) (Or.inl ⟨rfl, rfl⟩)
    | false =>
      refine w_go z_hl [] [84, 86] 30 e.1 ?_
      refine ⟨fun _ => fun H hH => ?_, fun z => absurd z (by decide)⟩
      have f : y_fr h H [] [] := y_st e hH (by repeat (first | exact w_nil | refine w_cons (Or.inl (y_m rfl)) ?_ | refine w_cons (Or.inr (by assumption)) ?_)) (by repeat (first | exact w_nil | refine w_cons (Or.inl (y_m rfl)) ?_ | refine w_cons (Or.inr (by assumption)) ?_))
      refine c_gv2 (d := d) n0 n10 hs hs2 (tx_s_fr s f rfl rfl) ((y_ae f rfl).trans gf) (fun b q k H2 fr' f2 s3 hg g3 hf => ⟨fun n e => (by cases e), ?_⟩)
      exact T25 (Or.inr rfl) (y_sq (y_mo f rfl rfl) f2 rfl rfl) s3 (by rw [pr_tm_0 (hn rfl)]; exact hg) g3 (Or.inr hf)
  have T4 : ∀ {G : aH} {cI : Int32}, y_fr h G [] [] → cI.toInt = pr_k (y_N sg) t p → aOK s_P X (d + 4) a_m81 4 [some (.ref 14), some (.ref 31), some (.int sI)] [.int cI] G C S K0 := by
    intro G cI e hc
    refine w_go z_hl [] [83] 20 e.1 ?_
    intro H hH
    have f : y_fr h H [] [] := y_st e hH (by repeat (first | exact w_nil | refine w_cons (Or.inl (y_m rfl)) ?_ | refine w_cons (Or.inr (by assumption)) ?_)) (by repeat (first | exact w_nil | refine w_cons (Or.inl (y_m rfl)) ?_ | refine w_cons (Or.inr (by assumption)) ?_))
    refine c_isDg (c := cI) f.1 (fun H2 f2 w => ⟨fun n e => (by cases e), ?_⟩) (fun H2 f2 w => ⟨fun n e => (by cases e), ?_⟩)
    · exact T7 true (y_sq f f2 rfl rfl) (fun _ => ⟨by omega, by omega⟩) (fun z => absurd z (by decide))
    · exact T7 false (y_sq f f2 rfl rfl) (fun z => absurd z (by decide)) (fun _ z => w ⟨by have := z.1; omega, by have := z.2; omega⟩)
  refine w_go z_hl [] [82] 20 hr ?_
  intro H hH
  have f : y_fr h H [] [] := y_st (y_rf hr) hH (by repeat (first | exact w_nil | refine w_cons (Or.inl (y_m rfl)) ?_ | refine w_cons (Or.inr (by assumption)) ?_)) (by repeat (first | exact w_nil | refine w_cons (Or.inl (y_m rfl)) ?_ | refine w_cons (Or.inr (by assumption)) ?_))
  refine c_lkT (tx_s_fr s f rfl rfl) (fun r H2 f2 er => ⟨fun n e => (by cases e), ?_⟩)
  exact T4 (y_sq f f2 rfl rfl) er
theorem c_isNum2 (hr : w_hr z_D h) {fr : List Int32} (gf : w_a h 31 = some (0, .inl fr)) (hK : ∀ (H : aH), y_fr h H [] [] → K0 (some (.int (y_01 (decide (y_N fr 0 = -1))))) H C S) : aOK s_P X d a_m89 0 [some (.ref 31), some (.int (Int32.ofInt 0))] [] h C S K0 := by
  have m1 : (Int32.ofInt 2 * Int32.ofInt 0).toInt = ((0 : Nat) : Int) := by decide
  have cm := y_cl1 m1
  have cn : (Int32.ofInt (-1)).toInt = -1 := by decide
  refine w_go z_hl [] [] 30 hr ?_
  refine ⟨⟨by decide, by decide⟩, fun l hl len bb => ?_⟩
  obtain rfl := y_ai gf hl
  refine ⟨fun z => ⟨by decide, fun H hH => ?_⟩, fun z => ⟨by decide, fun H hH => ?_⟩⟩
  · have y1 : (fr.getD (Int32.ofInt 2 * Int32.ofInt 0).toNatClampNeg 0).toInt ≠ (Int32.ofInt (-1)).toInt := (y_ci .ne _ _).mp z
    rw [cm, cn] at y1
    have w := hK H (y_st (y_rf hr) hH (by repeat (first | exact w_nil | refine w_cons (Or.inl (y_m rfl)) ?_ | refine w_cons (Or.inr (by assumption)) ?_)) (by repeat (first | exact w_nil | refine w_cons (Or.inl (y_m rfl)) ?_ | refine w_cons (Or.inr (by assumption)) ?_)))
    rw [decide_eq_false (show ¬ (y_N fr 0 = -1) from y1)] at w
    exact w
  · have y1 : ¬ ((fr.getD (Int32.ofInt 2 * Int32.ofInt 0).toNatClampNeg 0).toInt ≠ (Int32.ofInt (-1)).toInt) := y_cif z
    rw [cm, cn] at y1
    have w := hK H (y_st (y_rf hr) hH (by repeat (first | exact w_nil | refine w_cons (Or.inl (y_m rfl)) ?_ | refine w_cons (Or.inr (by assumption)) ?_)) (by repeat (first | exact w_nil | refine w_cons (Or.inl (y_m rfl)) ?_ | refine w_cons (Or.inr (by assumption)) ?_)))
    rw [decide_eq_true (show y_N fr 0 = -1 from Decidable.not_not.mp y1)] at w
    exact w
theorem c_first2 (n0 : 0 ≤ nd.toInt) (n10 : nd.toInt ≤ 10) (s : tx_s nd h sg t 0) {fr : List Int32} (gf : w_a h 31 = some (0, .inl fr)) (hf0 : y_N fr 0 = -1) (hf1 : y_N fr 1 = -1) (yes : ∀ (q k : Nat) (H : aH) (rel : Int32) (fr' : List Int32), y_fr h H [1538, 3714] [31, 32, 33, 34, 35] → tx_s nd H sg t (q + 1) → pr_tm (y_N sg) t nd.toInt 0 = (true, q, k) → w_f H 3714 = some (.int rel) → w_a H 31 = some (0, .inl fr') → ((pr_k (y_N sg) t q = 126 ∧ k = 1) ∧ rel.toInt = 126) ∨ (¬ (pr_k (y_N sg) t q = 126 ∧ k = 1) ∧ (pr_k (y_N sg) t q = 61 ∨ pr_k (y_N sg) t q = 60 ∨ pr_k (y_N sg) t q = 62) ∧ rel.toInt ≠ 126) → K0 (some (.int (y_01 true))) H C S) (no : ∀ (q : Nat) (H : aH), y_fr h H [1538, 3714] [31, 32, 33, 34, 35] → tx_s nd H sg t q → pr_sy (y_N sg) t nd.toInt = (false, q) → K0 (some (.int (y_01 false))) H C S) : aOK s_P X (d + 5) a_m80 0 [some (.ref 14), some (.ref 31), none, none] [] h C S K0 := by
  have hr := (tx_s_hr s).1
  have c126 : ((Int8.ofInt 126).toInt32).toInt = 126 := by decide
  have c61 : ((Int8.ofInt 61).toInt32).toInt = 61 := by decide
  have c60 : ((Int8.ofInt 60).toInt32).toInt = 60 := by decide
  have c62 : ((Int8.ofInt 62).toInt32).toInt = 62 := by decide
  have cn : (Int32.ofInt (-1)).toInt = -1 := by decide
  have T70 : ∀ {G : aH} {q k : Nat} {cI : Int32} {p3 : Option Value} {fr' : List Int32}, y_fr h G [1538, 3714] [31, 32, 33, 34, 35] → tx_s nd G sg t q → q < t → pr_tm (y_N sg) t nd.toInt 0 = (true, q, k) → w_a G 31 = some (0, .inl fr') → cI.toInt = pr_k (y_N sg) t q → 0 ≤ cI.toInt → cI.toInt ≤ 65535 → ((pr_k (y_N sg) t q = 126 ∧ k = 1) ∨ (¬ (pr_k (y_N sg) t q = 126 ∧ k = 1) ∧ (pr_k (y_N sg) t q = 61 ∨ pr_k (y_N sg) t q = 60 ∨ pr_k (y_N sg) t q = 62))) → aOK s_P X (d + 5) a_m80 70 [some (.ref 14), some (.ref 31), some (.int cI), p3] [] G C S K0 := by
    intro G q k cI p3 fr' e s2 qt ht g2 hc c0 c65 hw
    obtain ⟨toJ, atJ, -, b1, b2, b3, b4, b5, b6, -, t40⟩ := id s2
    have inc : (atJ + Int32.ofInt 1).toInt = ((q + 1 : Nat) : Int) := by rw [y_inc (by omega), b5]; rfl
    refine w_go z_hl [] [] 40 e.1 ?_
    refine ⟨y_fitC c0 c65, y_zini c0 c65, ?_⟩
    intro x hx _ _
    obtain rfl := y_fi b4 hx
    refine ⟨rfl, y_zini (by show 0 ≤ (atJ + Int32.ofInt 1).toInt; omega) (by show (atJ + Int32.ofInt 1).toInt ≤ 40; omega), by decide, fun H hH => ?_⟩
    have f : y_fr G H [1538, 3714] [] := y_st (y_mo (y_rf e.1) rfl rfl) hH (by repeat (first | exact w_nil | refine w_cons (Or.inl (y_m rfl)) ?_ | refine w_cons (Or.inr (by assumption)) ?_)) (by repeat (first | exact w_nil | refine w_cons (Or.inl (y_m rfl)) ?_ | refine w_cons (Or.inr (by assumption)) ?_))
    have s3 : tx_s nd H sg t (q + 1) := ⟨toJ, _, f.1, (y_ae f rfl).trans b1, (y_fe f rfl).trans b2, b3, hH.2.1 1538 _ rfl, inc, (y_fe f rfl).trans b6, by omega, t40⟩
    refine yes q k H cI fr' (y_sq e f rfl rfl) s3 ht (hH.2.1 3714 _ rfl) ((y_ae f rfl).trans g2) ?_
    rcases hw with w | ⟨w, w2⟩
    · exact Or.inl ⟨w, by rw [hc]; exact w.1⟩
    · refine Or.inr ⟨w, w2, ?_⟩
      rw [hc]
      rcases w2 with w3 | w3 | w3
      · omega
      · omega
      · omega
  have T45 : ∀ {G : aH} {q k : Nat} {cI : Int32} {fr' : List Int32} (b : Bool), y_fr h G [1538, 3714] [31, 32, 33, 34, 35] → tx_s nd G sg t q → pr_tm (y_N sg) t nd.toInt 0 = (true, q, k) → w_a G 31 = some (0, .inl fr') → cI.toInt = pr_k (y_N sg) t q → 0 ≤ cI.toInt → cI.toInt ≤ 65535 → (b = true → pr_k (y_N sg) t q = 126 ∧ k = 1) → (b = false → ¬ (pr_k (y_N sg) t q = 126 ∧ k = 1)) → aOK s_P X (d + 5) a_m80 45 [some (.ref 14), some (.ref 31), some (.int cI), none] [.int (y_01 b)] G C S K0 := by
    intro G q k cI fr' b e s2 ht g2 hc c0 c65 hy hn
    have f0 : y_fr G G [] [] := y_rf e.1
    have go : ∀ {H : aH} {p3 : Option Value}, y_fr G H [] [] → q < t → ((pr_k (y_N sg) t q = 126 ∧ k = 1) ∨ (¬ (pr_k (y_N sg) t q = 126 ∧ k = 1) ∧ (pr_k (y_N sg) t q = 61 ∨ pr_k (y_N sg) t q = 60 ∨ pr_k (y_N sg) t q = 62))) → aOK s_P X (d + 5) a_m80 70 [some (.ref 14), some (.ref 31), some (.int cI), p3] [] H C S K0 := fun f qt w => T70 (y_sq e f rfl rfl) (tx_s_fr s2 f rfl rfl) qt ht ((y_ae f rfl).trans g2) hc c0 c65 w
    have q61 : cI.toInt = 61 → ¬ (pr_k (y_N sg) t q = 126 ∧ k = 1) := fun z w => by have := w.1; omega
    have q60 : cI.toInt = 60 → ¬ (pr_k (y_N sg) t q = 126 ∧ k = 1) := fun z w => by have := w.1; omega
    have q62 : cI.toInt = 62 → ¬ (pr_k (y_N sg) t q = 126 ∧ k = 1) := fun z w => by have := w.1; omega
    cases b with
    | true =>
      refine w_go z_hl [70] [] 40 e.1 ?_
      refine ⟨fun z => fun H hH => ?_, fun z => ⟨fun z2 => fun H hH => ?_, fun z2 => ⟨fun z3 => fun H hH => ?_, fun z3 => ⟨fun _ => fun H hH => ?_, fun z4 => absurd z4 (by decide)⟩⟩⟩⟩
      · have y1 : cI.toInt = ((Int8.ofInt 61).toInt32).toInt := (y_ci .eq _ _).mp z
        rw [c61] at y1
        exact go (y_st f0 hH (by repeat (first | exact w_nil | refine w_cons (Or.inl (y_m rfl)) ?_ | refine w_cons (Or.inr (by assumption)) ?_)) (by repeat (first | exact w_nil | refine w_cons (Or.inl (y_m rfl)) ?_ | refine w_cons (Or.inr (by assumption)) ?_))) (pr_k_t (c := 61) (by decide) (hc.symm.trans y1)) (Or.inr ⟨q61 y1, Or.inl (hc.symm.trans y1)⟩)
      · have y1 : cI.toInt = ((Int8.ofInt 60).toInt32).toInt := (y_ci .eq _ _).mp z2
        rw [c60] at y1
        exact go (y_st f0 hH (by repeat (first | exact w_nil | refine w_cons (Or.inl (y_m rfl)) ?_ | refine w_cons (Or.inr (by assumption)) ?_)) (by repeat (first | exact w_nil | refine w_cons (Or.inl (y_m rfl)) ?_ | refine w_cons (Or.inr (by assumption)) ?_))) (pr_k_t (c := 60) (by decide) (hc.symm.trans y1)) (Or.inr ⟨q60 y1, Or.inr (Or.inl (hc.symm.trans y1))⟩)
      · have y1 : cI.toInt = ((Int8.ofInt 62).toInt32).toInt := (y_ci .eq _ _).mp z3
        rw [c62] at y1
        exact go (y_st f0 hH (by repeat (first | exact w_nil | refine w_cons (Or.inl (y_m rfl)) ?_ | refine w_cons (Or.inr (by assumption)) ?_)) (by repeat (first | exact w_nil | refine w_cons (Or.inl (y_m rfl)) ?_ | refine w_cons (Or.inr (by assumption)) ?_))) (pr_k_t (c := 62) (by decide) (hc.symm.trans y1)) (Or.inr ⟨q62 y1, Or.inr (Or.inr (hc.symm.trans y1))⟩)
      · exact go (y_st f0 hH (by repeat (first | exact w_nil | refine w_cons (Or.inl (y_m rfl)) ?_ | refine w_cons (Or.inr (by assumption)) ?_)) (by repeat (first | exact w_nil | refine w_cons (Or.inl (y_m rfl)) ?_ | refine w_cons (Or.inr (by assumption)) ?_))) (pr_k_t (c := 126) (by decide) (hy rfl).1) (Or.inl (hy rfl))
    | false =>
      refine w_go z_hl [70] [] 40 e.1 ?_
      refine ⟨fun z => fun H hH => ?_, fun z => ⟨fun z2 => fun H hH => ?_, fun z2 => ⟨fun z3 => fun H hH => ?_, fun z3 => ⟨fun z4 => absurd z4 (by decide), fun _ => ⟨by decide, fun H hH => ?_⟩⟩⟩⟩⟩
      · have y1 : cI.toInt = ((Int8.ofInt 61).toInt32).toInt := (y_ci .eq _ _).mp z
        rw [c61] at y1
        exact go (y_st f0 hH (by repeat (first | exact w_nil | refine w_cons (Or.inl (y_m rfl)) ?_ | refine w_cons (Or.inr (by assumption)) ?_)) (by repeat (first | exact w_nil | refine w_cons (Or.inl (y_m rfl)) ?_ | refine w_cons (Or.inr (by assumption)) ?_))) (pr_k_t (c := 61) (by decide) (hc.symm.trans y1)) (Or.inr ⟨q61 y1, Or.inl (hc.symm.trans y1)⟩)
      · have y1 : cI.toInt = ((Int8.ofInt 60).toInt32).toInt := (y_ci .eq _ _).mp z2
        rw [c60] at y1
        exact go (y_st f0 hH (by repeat (first | exact w_nil | refine w_cons (Or.inl (y_m rfl)) ?_ | refine w_cons (Or.inr (by assumption)) ?_)) (by repeat (first | exact w_nil | refine w_cons (Or.inl (y_m rfl)) ?_ | refine w_cons (Or.inr (by assumption)) ?_))) (pr_k_t (c := 60) (by decide) (hc.symm.trans y1)) (Or.inr ⟨q60 y1, Or.inr (Or.inl (hc.symm.trans y1))⟩)
      · have y1 : cI.toInt = ((Int8.ofInt 62).toInt32).toInt := (y_ci .eq _ _).mp z3
        rw [c62] at y1
        exact go (y_st f0 hH (by repeat (first | exact w_nil | refine w_cons (Or.inl (y_m rfl)) ?_ | refine w_cons (Or.inr (by assumption)) ?_)) (by repeat (first | exact w_nil | refine w_cons (Or.inl (y_m rfl)) ?_ | refine w_cons (Or.inr (by assumption)) ?_))) (pr_k_t (c := 62) (by decide) (hc.symm.trans y1)) (Or.inr ⟨q62 y1, Or.inr (Or.inr (hc.symm.trans y1))⟩)
      · have y1 : ¬ (cI.toInt = ((Int8.ofInt 61).toInt32).toInt) := y_cif z
        have y2 : ¬ (cI.toInt = ((Int8.ofInt 60).toInt32).toInt) := y_cif z2
        have y3 : ¬ (cI.toInt = ((Int8.ofInt 62).toInt32).toInt) := y_cif z3
        rw [c61, hc] at y1
        rw [c60, hc] at y2
        rw [c62, hc] at y3
        have f : y_fr G H [] [] := y_st f0 hH (by repeat (first | exact w_nil | refine w_cons (Or.inl (y_m rfl)) ?_ | refine w_cons (Or.inr (by assumption)) ?_)) (by repeat (first | exact w_nil | refine w_cons (Or.inl (y_m rfl)) ?_ | refine w_cons (Or.inr (by assumption)) ?_))
        exact no q H (y_sq e f rfl rfl) (tx_s_fr s2 f rfl rfl) (pr_sy_x ht (hn rfl) (fun w => by rcases w with w | w | w; exact y1 w; exact y2 w; exact y3 w))
  have T27 : ∀ {G : aH} {q k : Nat} {cI : Int32} {fr' : List Int32} (b : Bool), y_fr h G [1538, 3714] [31, 32, 33, 34, 35] → tx_s nd G sg t q → pr_tm (y_N sg) t nd.toInt 0 = (true, q, k) → w_a G 31 = some (0, .inl fr') → cI.toInt = pr_k (y_N sg) t q → 0 ≤ cI.toInt → cI.toInt ≤ 65535 → pr_k (y_N sg) t q = 126 → (b = true → k = 0) → (b = false → k ≠ 0 ∧ (k = 1 → y_N fr' 1 = -1) ∧ (k ≠ 1 → 0 ≤ y_N fr' 1)) → aOK s_P X (d + 5) a_m80 27 [some (.ref 14), some (.ref 31), some (.int cI), none] [.int (y_01 b)] G C S K0 := by
    intro G q k cI fr' b e s2 ht g2 hc c0 c65 h126 hy hn
    have f0 : y_fr G G [] [] := y_rf e.1
    cases b with
    | true =>
      refine w_go z_hl [45] [] 30 e.1 ?_
      refine ⟨fun _ => fun H hH => ?_, fun z => absurd z (by decide)⟩
      have f : y_fr G H [] [] := y_st f0 hH (by repeat (first | exact w_nil | refine w_cons (Or.inl (y_m rfl)) ?_ | refine w_cons (Or.inr (by assumption)) ?_)) (by repeat (first | exact w_nil | refine w_cons (Or.inl (y_m rfl)) ?_ | refine w_cons (Or.inr (by assumption)) ?_))
      exact T45 false (y_sq e f rfl rfl) (tx_s_fr s2 f rfl rfl) ht ((y_ae f rfl).trans g2) hc c0 c65 (fun w => absurd w (by decide)) (fun _ w => by have := hy rfl; omega)
    | false =>
      obtain ⟨k0, k1, k2⟩ := hn rfl
      have i1 : (Int32.ofInt 1).toInt = ((1 : Nat) : Int) := by decide
      have ci1 := y_cl1 i1
      refine w_go z_hl [45] [] 30 e.1 ?_
      refine ⟨fun z => absurd z (by decide), fun _ => ⟨⟨by decide, by decide⟩, fun l hl len bb => ?_⟩⟩
      obtain rfl := y_ai g2 hl
      refine ⟨fun z => fun H hH => ?_, fun z => fun H hH => ?_⟩
      · have y1 : (fr'.getD (Int32.ofInt 1).toNatClampNeg 0).toInt ≠ (Int32.ofInt (-1)).toInt := (y_ci .ne _ _).mp z
        rw [ci1, cn] at y1
        have y2 : y_N fr' 1 ≠ -1 := y1
        have f : y_fr G H [] [] := y_st f0 hH (by repeat (first | exact w_nil | refine w_cons (Or.inl (y_m rfl)) ?_ | refine w_cons (Or.inr (by assumption)) ?_)) (by repeat (first | exact w_nil | refine w_cons (Or.inl (y_m rfl)) ?_ | refine w_cons (Or.inr (by assumption)) ?_))
        exact T45 false (y_sq e f rfl rfl) (tx_s_fr s2 f rfl rfl) ht ((y_ae f rfl).trans g2) hc c0 c65 (fun w => absurd w (by decide)) (fun _ w => y2 (k1 w.2))
      · have y1 : ¬ ((fr'.getD (Int32.ofInt 1).toNatClampNeg 0).toInt ≠ (Int32.ofInt (-1)).toInt) := y_cif z
        rw [ci1, cn] at y1
        have y2 : y_N fr' 1 = -1 := Decidable.not_not.mp y1
        have f : y_fr G H [] [] := y_st f0 hH (by repeat (first | exact w_nil | refine w_cons (Or.inl (y_m rfl)) ?_ | refine w_cons (Or.inr (by assumption)) ?_)) (by repeat (first | exact w_nil | refine w_cons (Or.inl (y_m rfl)) ?_ | refine w_cons (Or.inr (by assumption)) ?_))
        refine T45 true (y_sq e f rfl rfl) (tx_s_fr s2 f rfl rfl) ht ((y_ae f rfl).trans g2) hc c0 c65 (fun _ => ⟨h126, ?_⟩) (fun w => absurd w (by decide))
        rcases Nat.decEq k 1 with w | w
        · have := k2 w
          omega
        · exact w
  have T15 : ∀ {G : aH} {q k : Nat} {cI : Int32} {fr' : List Int32}, y_fr h G [1538, 3714] [31, 32, 33, 34, 35] → tx_s nd G sg t q → pr_tm (y_N sg) t nd.toInt 0 = (true, q, k) → w_a G 31 = some (0, .inl fr') → (k = 0 ∧ fr' = fr) ∨ tx_f fr fr' 0 k → cI.toInt = pr_k (y_N sg) t q → 0 ≤ cI.toInt → cI.toInt ≤ 65535 → aOK s_P X (d + 5) a_m80 15 [some (.ref 14), some (.ref 31), none, none] [.int cI] G C S K0 := by
    intro G q k cI fr' e s2 ht g2 hf hc c0 c65
    have f0 : y_fr G G [] [] := y_rf e.1
    refine w_go z_hl [45] [89] 30 e.1 ?_
    refine ⟨fun z => fun H hH => ?_, fun z => fun H hH => ?_⟩
    · have y1 : cI.toInt ≠ ((Int8.ofInt 126).toInt32).toInt := (y_ci .ne _ _).mp z
      rw [c126, hc] at y1
      have f : y_fr G H [] [] := y_st f0 hH (by repeat (first | exact w_nil | refine w_cons (Or.inl (y_m rfl)) ?_ | refine w_cons (Or.inr (by assumption)) ?_)) (by repeat (first | exact w_nil | refine w_cons (Or.inl (y_m rfl)) ?_ | refine w_cons (Or.inr (by assumption)) ?_))
      exact T45 false (y_sq e f rfl rfl) (tx_s_fr s2 f rfl rfl) ht ((y_ae f rfl).trans g2) hc c0 c65 (fun w => absurd w (by decide)) (fun _ w => y1 w.1)
    · have y1 : ¬ (cI.toInt ≠ ((Int8.ofInt 126).toInt32).toInt) := y_cif z
      rw [c126, hc] at y1
      have y2 : pr_k (y_N sg) t q = 126 := Decidable.not_not.mp y1
      have f : y_fr G H [] [] := y_st f0 hH (by repeat (first | exact w_nil | refine w_cons (Or.inl (y_m rfl)) ?_ | refine w_cons (Or.inr (by assumption)) ?_)) (by repeat (first | exact w_nil | refine w_cons (Or.inl (y_m rfl)) ?_ | refine w_cons (Or.inr (by assumption)) ?_))
      refine c_isNum2 f.1 ((y_ae f rfl).trans g2) (fun H2 f2 => ⟨fun n e => (by cases e), ?_⟩)
      have e3 := y_sq (y_sq e f rfl rfl) f2 rfl rfl
      have s3 := tx_s_fr (tx_s_fr s2 f rfl rfl) f2 rfl rfl
      have g3 := (y_ae f2 rfl).trans ((y_ae f rfl).trans g2)
      rcases hf with ⟨hf, hf'⟩ | ⟨hf, hg, hh, hi⟩
      · rw [decide_eq_true (show y_N fr' 0 = -1 by rw [hf']; exact hf0)]
        exact T27 true e3 s3 ht g3 hc c0 c65 y2 (fun _ => hf) (fun w => absurd w (by decide))
      · have hg' : 0 ≤ y_N fr' 0 := hg
        rw [decide_eq_false (show ¬ (y_N fr' 0 = -1) by omega)]
        refine T27 false e3 s3 ht g3 hc c0 c65 y2 (fun w => absurd w (by decide)) (fun _ => ⟨by omega, fun w => ?_, fun w => ?_⟩)
        · rw [hh w 1 (by decide)]
          exact hf1
        · exact (hi (by omega)).1
  have T6 : ∀ {G : aH} {q k : Nat} {fr' : List Int32} (b : Bool), y_fr h G [1538, 3714] [31, 32, 33, 34, 35] → tx_s nd G sg t q → pr_tm (y_N sg) t nd.toInt 0 = (b, q, k) → w_a G 31 = some (0, .inl fr') → (k = 0 ∧ fr' = fr) ∨ tx_f fr fr' 0 k → aOK s_P X (d + 5) a_m80 6 [some (.ref 14), some (.ref 31), none, none] [.int (y_01 b)] G C S K0 := by
    intro G q k fr' b e s2 ht g2 hf
    cases b with
    | true =>
      refine w_go z_hl [] [82] 30 e.1 ?_
      refine ⟨fun _ => fun H hH => ?_, fun z => absurd z (by decide)⟩
      have f : y_fr G H [] [] := y_st (y_rf e.1) hH (by repeat (first | exact w_nil | refine w_cons (Or.inl (y_m rfl)) ?_ | refine w_cons (Or.inr (by assumption)) ?_)) (by repeat (first | exact w_nil | refine w_cons (Or.inl (y_m rfl)) ?_ | refine w_cons (Or.inr (by assumption)) ?_))
      obtain ⟨sg', z1, z2, z3⟩ := w_arrI f.1 (o := 13) (t := 3) (n := 60) (lo := 0) (hi := 65535) (by decide) rfl
      have kb : 0 ≤ pr_k (y_N sg) t q ∧ pr_k (y_N sg) t q ≤ 65535 := by
        obtain ⟨-, -, -, b1, -, -, -, -, -, -, t40⟩ := tx_s_fr s2 f rfl rfl
        have e4 := w_a_at z1
        rw [b1] at e4
        obtain rfl : sg = sg' := by
          injection e4 with e5
          injection e5 with _ e6
          injection e6
        by_cases w : q < t
        · rw [pr_k_1 w]
          exact z3 _ (z_gd (0 : Int32) (show q < sg.length by omega))
        · rw [show pr_k (y_N sg) t q = 0 from if_neg w]
          decide
      refine c_lkT (tx_s_fr s2 f rfl rfl) (fun r H2 f2 er => ⟨fun n e => (by cases e), ?_⟩)
      exact T15 (y_sq (y_sq e f rfl rfl) f2 rfl rfl) (tx_s_fr (tx_s_fr s2 f rfl rfl) f2 rfl rfl) ht ((y_ae f2 rfl).trans ((y_ae f rfl).trans g2)) hf er (by omega) (by omega)
    | false =>
      refine w_go z_hl [] [82] 30 e.1 ?_
      refine ⟨fun z => absurd z (by decide), fun _ => ⟨by decide, fun H hH => ?_⟩⟩
      have f : y_fr G H [] [] := y_st (y_rf e.1) hH (by repeat (first | exact w_nil | refine w_cons (Or.inl (y_m rfl)) ?_ | refine w_cons (Or.inr (by assumption)) ?_)) (by repeat (first | exact w_nil | refine w_cons (Or.inl (y_m rfl)) ?_ | refine w_cons (Or.inr (by assumption)) ?_))
      exact no q H (y_sq e f rfl rfl) (tx_s_fr s2 f rfl rfl) (pr_sy_n ht)
  refine w_go z_hl [] [81] 20 hr ?_
  intro H hH
  have f : y_fr h H [] [] := y_st (y_rf hr) hH (by repeat (first | exact w_nil | refine w_cons (Or.inl (y_m rfl)) ?_ | refine w_cons (Or.inr (by assumption)) ?_)) (by repeat (first | exact w_nil | refine w_cons (Or.inl (y_m rfl)) ?_ | refine w_cons (Or.inr (by assumption)) ?_))
  refine c_tm2 (d := d) (sd := 0) n0 n10 (by decide) (by decide) (tx_s_fr s f rfl rfl) ((y_ae f rfl).trans gf) (fun b q k H2 fr' f2 s3 ht g3 hf => ⟨fun n e => (by cases e), ?_⟩)
  exact T6 b (y_sq (y_mo f rfl rfl) f2 rfl rfl) s3 ht g3 hf
theorem c_second2 (n0 : 0 ≤ nd.toInt) (n10 : nd.toInt ≤ 10) (s : tx_s nd h sg t p) {rel : Int32} (gr : w_f h 3714 = some (.int rel)) (hK : ∀ (b : Bool) (q k : Nat) (H : aH), y_fr h H [1538] [31, 32, 33, 34, 35] → tx_s nd H sg t q → (rel.toInt = 126 → pr_gv (y_N sg) t nd.toInt p = (b, q, k)) → (rel.toInt ≠ 126 → pr_tm (y_N sg) t nd.toInt p = (b, q, k)) → K0 (some (.int (y_01 b))) H C S) : aOK s_P X (d + 5) a_m90 0 [some (.ref 14), some (.ref 31)] [] h C S K0 := by
  have hr := (tx_s_hr s).1
  have c126 : ((Int8.ofInt 126).toInt32).toInt = 126 := by decide
  obtain ⟨fr, gf, -, -⟩ := c_arr hr (ob := 31) (n := 4) (lo := -1) (hi := 40) rfl
  have T22 : ∀ {G : aH} {b : Bool} {q k pc : Nat}, (pc = 13 ∨ pc = 22) → y_fr h G [1538] [31, 32, 33, 34, 35] → tx_s nd G sg t q → (rel.toInt = 126 → pr_gv (y_N sg) t nd.toInt p = (b, q, k)) → (rel.toInt ≠ 126 → pr_tm (y_N sg) t nd.toInt p = (b, q, k)) → aOK s_P X (d + 5) a_m90 pc [some (.ref 14), some (.ref 31)] [.int (y_01 b)] G C S K0 := by
    intro G b q k pc hpc e s2 h1 h2
    rcases hpc with rfl | rfl
    · refine w_go z_hl [] [] 20 e.1 ?_
      refine ⟨y_01b b, fun H hH => ?_⟩
      have f : y_fr G H [] [] := y_st (y_rf e.1) hH (by repeat (first | exact w_nil | refine w_cons (Or.inl (y_m rfl)) ?_ | refine w_cons (Or.inr (by assumption)) ?_)) (by repeat (first | exact w_nil | refine w_cons (Or.inl (y_m rfl)) ?_ | refine w_cons (Or.inr (by assumption)) ?_))
      exact hK b q k H (y_sq e f rfl rfl) (tx_s_fr s2 f rfl rfl) h1 h2
    · refine w_go z_hl [] [] 20 e.1 ?_
      refine ⟨y_01b b, fun H hH => ?_⟩
      have f : y_fr G H [] [] := y_st (y_rf e.1) hH (by repeat (first | exact w_nil | refine w_cons (Or.inl (y_m rfl)) ?_ | refine w_cons (Or.inr (by assumption)) ?_)) (by repeat (first | exact w_nil | refine w_cons (Or.inl (y_m rfl)) ?_ | refine w_cons (Or.inr (by assumption)) ?_))
      exact hK b q k H (y_sq e f rfl rfl) (tx_s_fr s2 f rfl rfl) h1 h2
  refine w_go z_hl [] [81, 86] 40 hr ?_
  intro x hx _ _
  obtain rfl := y_fi gr hx
  refine ⟨fun z => ⟨by decide, ⟨fun _ => fun H hH => ?_, fun z2 => absurd z2 (by decide)⟩⟩, fun z => ⟨by decide, ⟨fun z2 => absurd z2 (by decide), fun _ => fun H hH => ?_⟩⟩⟩
  · have y1 : rel.toInt ≠ ((Int8.ofInt 126).toInt32).toInt := (y_ci .ne _ _).mp z
    rw [c126] at y1
    have f : y_fr h H [] [] := y_st (y_rf hr) hH (by repeat (first | exact w_nil | refine w_cons (Or.inl (y_m rfl)) ?_ | refine w_cons (Or.inr (by assumption)) ?_)) (by repeat (first | exact w_nil | refine w_cons (Or.inl (y_m rfl)) ?_ | refine w_cons (Or.inr (by assumption)) ?_))
    refine c_tm2 (d := d) (sd := 1) n0 n10 (by decide) (by decide) (tx_s_fr s f rfl rfl) ((y_ae f rfl).trans gf) (fun b q k H2 fr' f2 s3 ht g3 hf => ⟨fun n e => (by cases e), ?_⟩)
    exact T22 (k := k) (Or.inr rfl) (y_sq (y_mo f rfl rfl) f2 rfl rfl) s3 (fun w => absurd w y1) (fun _ => ht)
  · have y1 : ¬ (rel.toInt ≠ ((Int8.ofInt 126).toInt32).toInt) := y_cif z
    rw [c126] at y1
    have f : y_fr h H [] [] := y_st (y_rf hr) hH (by repeat (first | exact w_nil | refine w_cons (Or.inl (y_m rfl)) ?_ | refine w_cons (Or.inr (by assumption)) ?_)) (by repeat (first | exact w_nil | refine w_cons (Or.inl (y_m rfl)) ?_ | refine w_cons (Or.inr (by assumption)) ?_))
    refine c_gv2 (d := d + 1) (sd := 1) n0 n10 (by decide) (by decide) (tx_s_fr s f rfl rfl) ((y_ae f rfl).trans gf) (fun b q k H2 fr' f2 s3 hg g3 hf => ⟨fun n e => (by cases e), ?_⟩)
    exact T22 (k := k) (Or.inl rfl) (y_sq (y_mo f rfl rfl) f2 rfl rfl) s3 (fun _ => hg) (fun w => absurd w y1)
end PFS2
end PT33ibw
section PT33ibx
/-! ===== v21: parse of the class with saying 2 (laid by wip/tools/mk21f.py) ===== -/
section PPS2
variable {X : aX} {C S d : Nat} {K0 : Option Value → aH → Nat → Nat → Prop} {sg : List Int32} {nd len : Int32} {h : aH}
theorem c_parse2 (hr : w_hr z_D h) (n0 : 0 ≤ nd.toInt) (n10 : nd.toInt ≤ 10) (l0 : 0 ≤ len.toInt) (l60 : len.toInt ≤ 60) (gs : w_a h 13 = some (3, .inl sg)) (hK : ∀ (r : Int32) (H : aH), y_fr h H [1538, 1539, 1540, 3713, 3714] [30, 31, 32, 33, 34, 35] → r.toInt = pr_wr (y_N sg) len.toInt.toNat nd.toInt → (pr_sy (y_N sg) (pr_t len.toInt.toNat) nd.toInt).2 ≤ pr_t len.toInt.toNat → K0 (some (.int r)) H C S) : aOK s_P X (d + 6) a_m78 0 [some (.ref 14), some (.int len), some (.int nd), some (.ref 31), none] [] h C S K0 := by
  have c40 : ((Int8.ofInt 40).toInt32).toInt = 40 := by decide
  have tl := pr_t_le (len := len.toInt.toNat)
  -- the end: whole or not
  have T56 : ∀ {G : aH} {q : Nat} (b : Bool), y_fr h G [1538, 1539, 1540, 3713, 3714] [31, 32, 33, 34, 35] → tx_s nd G sg (pr_t len.toInt.toNat) q → (pr_sy (y_N sg) (pr_t len.toInt.toNat) nd.toInt).2 = q → pr_wh (y_N sg) (pr_t len.toInt.toNat) nd.toInt = b → aOK s_P X (d + 6) a_m78 56 [some (.ref 14), some (.int len), some (.int nd), some (.ref 31), none] [.int (y_01 b)] G C S K0 := by
    intro G q b e s hq hb
    obtain ⟨toI, atI, -, a1, a2, a3, a4, a5, a6, pt, t40⟩ := id s
    have f0 : y_fr G G [] [] := y_rf e.1
    have out : ∀ {H : aH} {r : Int32}, y_fr G H [] [] → r.toInt = pr_wr (y_N sg) len.toInt.toNat nd.toInt → K0 (some (.int r)) H C S := fun f er => hK _ _ (y_mo (y_sq e f rfl rfl) rfl rfl) er (by omega)
    cases b with
    | true =>
      have ew : pr_wr (y_N sg) len.toInt.toNat nd.toInt = if 40 < len.toInt.toNat then 40 else -1 := if_pos hb
      have T97 : ∀ {H : aH}, y_fr G H [] [] → ¬ (40 < len.toInt.toNat) → aOK s_P X (d + 6) a_m78 97 [some (.ref 14), some (.int len), some (.int nd), some (.ref 31), some (.int (y_01 true))] [] H C S K0 := by
        intro H f nl
        refine w_go z_hl [111] [] 30 f.1 ?_
        intro x hx _ _
        obtain rfl := y_fi ((y_fe f rfl).trans a2) hx
        intro H2 h2
        have f2 : y_fr G H2 [] [] := y_st f h2 (by repeat (first | exact w_nil | refine w_cons (Or.inl (y_m rfl)) ?_ | refine w_cons (Or.inr (by assumption)) ?_)) (by repeat (first | exact w_nil | refine w_cons (Or.inl (y_m rfl)) ?_ | refine w_cons (Or.inr (by assumption)) ?_))
        refine y_copy3 (o := 13) (dd := 30) (m := pr_t len.toInt.toNat) (n1 := 60) (n2 := 40) f2.1 a3 rfl rfl (by omega) (by omega) rfl rfl (by decide) (fun H3 f3 => ?_)
        show aOK s_P X (d + 6) a_m78 114 [some (.ref 14), some (.int len), some (.int nd), some (.ref 31), some (.int (y_01 true))] [] H3 C S K0
        have f4 : y_fr G H3 [] [30] := y_sq (y_mo f2 rfl rfl) f3 rfl rfl
        refine w_go z_hl [] [] 30 f3.1 ?_
        intro x hx x0 x40
        obtain rfl := y_fi ((y_fe f4 rfl).trans a2) hx
        refine ⟨rfl, y_zini x0 x40, fun H5 h5 => ?_⟩
        have f5 : y_fr H3 H5 [3713] [] := y_st (y_mo (y_rf f3.1) rfl rfl) h5 (by repeat (first | exact w_nil | refine w_cons (Or.inl (y_m rfl)) ?_ | refine w_cons (Or.inr (by assumption)) ?_)) (by repeat (first | exact w_nil | refine w_cons (Or.inl (y_m rfl)) ?_ | refine w_cons (Or.inr (by assumption)) ?_))
        refine hK _ H5 (y_sq (y_sq (y_mo e rfl rfl) f4 rfl rfl) f5 rfl rfl) ?_ (by omega)
        rw [ew, if_neg nl]
        decide
      refine w_go z_hl [97] [] 40 e.1 ?_
      refine ⟨fun _ => ⟨fun z => absurd z (by decide), fun _ => ?_⟩, fun z => absurd z (by decide)⟩
      intro x hx _ _
      obtain rfl := y_fi a2 hx
      refine ⟨fun z => fun H hH => ?_, fun z => fun H hH => ?_⟩
      · have y1 : len.toInt ≤ toI.toInt := (y_ci .le _ _).mp z
        exact T97 (y_st f0 hH (by repeat (first | exact w_nil | refine w_cons (Or.inl (y_m rfl)) ?_ | refine w_cons (Or.inr (by assumption)) ?_)) (by repeat (first | exact w_nil | refine w_cons (Or.inl (y_m rfl)) ?_ | refine w_cons (Or.inr (by assumption)) ?_))) (by omega)
      · have y1 : ¬ (len.toInt ≤ toI.toInt) := y_cif z
        have lt : 40 < len.toInt.toNat := by
          rcases Nat.lt_or_ge 40 len.toInt.toNat with w | w
          · exact w
          · have et : pr_t len.toInt.toNat = len.toInt.toNat := if_neg (by omega)
            omega
        have et : pr_t len.toInt.toNat = 40 := if_pos lt
        exact out (y_st f0 hH (by repeat (first | exact w_nil | refine w_cons (Or.inl (y_m rfl)) ?_ | refine w_cons (Or.inr (by assumption)) ?_)) (by repeat (first | exact w_nil | refine w_cons (Or.inl (y_m rfl)) ?_ | refine w_cons (Or.inr (by assumption)) ?_))) (by rw [ew, if_pos lt]; omega)
    | false =>
      have ew : pr_wr (y_N sg) len.toInt.toNat nd.toInt = (q : Nat) := by
        unfold pr_wr
        rw [if_neg (by rw [hb]; decide), hq]
      refine w_go z_hl [97] [] 40 e.1 ?_
      refine ⟨fun z => absurd z (by decide), fun _ => ?_⟩
      intro x hx _ _
      obtain rfl := y_fi a4 hx
      intro y hy _ _
      obtain rfl := y_fi a2 hy
      refine ⟨fun z => ⟨fun _ => fun H hH => ?_, fun z2 => absurd z2 (by decide)⟩, fun z => fun H hH => ?_⟩
      · have y1 : toI.toInt ≤ atI.toInt := (y_ci .ge _ _).mp z
        exact out (y_st f0 hH (by repeat (first | exact w_nil | refine w_cons (Or.inl (y_m rfl)) ?_ | refine w_cons (Or.inr (by assumption)) ?_)) (by repeat (first | exact w_nil | refine w_cons (Or.inl (y_m rfl)) ?_ | refine w_cons (Or.inr (by assumption)) ?_))) (by rw [ew]; omega)
      · exact out (y_st f0 hH (by repeat (first | exact w_nil | refine w_cons (Or.inl (y_m rfl)) ?_ | refine w_cons (Or.inr (by assumption)) ?_)) (by repeat (first | exact w_nil | refine w_cons (Or.inl (y_m rfl)) ?_ | refine w_cons (Or.inr (by assumption)) ?_))) (by rw [ew]; exact a5)
  have T37 : ∀ {G : aH} {q : Nat} (b : Bool), y_fr h G [1538, 1539, 1540, 3713, 3714] [31, 32, 33, 34, 35] → tx_s nd G sg (pr_t len.toInt.toNat) q → pr_sy (y_N sg) (pr_t len.toInt.toNat) nd.toInt = (b, q) → aOK s_P X (d + 6) a_m78 37 [some (.ref 14), some (.int len), some (.int nd), some (.ref 31), none] [.int (y_01 b)] G C S K0 := by
    intro G q b e s hs
    obtain ⟨toI, atI, -, a1, a2, a3, a4, a5, a6, pt, t40⟩ := id s
    have f0 : y_fr G G [] [] := y_rf e.1
    cases b with
    | true =>
      refine w_go z_hl [56] [] 40 e.1 ?_
      refine ⟨fun z => absurd z (by decide), fun _ => ?_⟩
      intro x hx _ _
      obtain rfl := y_fi a4 hx
      intro y hy _ _
      obtain rfl := y_fi a2 hy
      refine ⟨fun z => fun H hH => ?_, fun z => fun H hH => ?_⟩
      · have y1 : atI.toInt ≠ toI.toInt := (y_ci .ne _ _).mp z
        have f : y_fr G H [] [] := y_st f0 hH (by repeat (first | exact w_nil | refine w_cons (Or.inl (y_m rfl)) ?_ | refine w_cons (Or.inr (by assumption)) ?_)) (by repeat (first | exact w_nil | refine w_cons (Or.inl (y_m rfl)) ?_ | refine w_cons (Or.inr (by assumption)) ?_))
        refine T56 false (y_sq e f rfl rfl) (tx_s_fr s f rfl rfl) (by rw [hs]) ?_
        unfold pr_wh
        rw [hs]
        show (true && decide (q = pr_t len.toInt.toNat)) = false
        rw [decide_eq_false (by omega)]
        rfl
      · have y1 : ¬ (atI.toInt ≠ toI.toInt) := y_cif z
        have f : y_fr G H [] [] := y_st f0 hH (by repeat (first | exact w_nil | refine w_cons (Or.inl (y_m rfl)) ?_ | refine w_cons (Or.inr (by assumption)) ?_)) (by repeat (first | exact w_nil | refine w_cons (Or.inl (y_m rfl)) ?_ | refine w_cons (Or.inr (by assumption)) ?_))
        refine T56 true (y_sq e f rfl rfl) (tx_s_fr s f rfl rfl) (by rw [hs]) ?_
        unfold pr_wh
        rw [hs]
        show (true && decide (q = pr_t len.toInt.toNat)) = true
        rw [decide_eq_true (by omega)]
        rfl
    | false =>
      refine w_go z_hl [56] [] 40 e.1 ?_
      refine ⟨fun _ => fun H hH => ?_, fun z => absurd z (by decide)⟩
      have f : y_fr G H [] [] := y_st f0 hH (by repeat (first | exact w_nil | refine w_cons (Or.inl (y_m rfl)) ?_ | refine w_cons (Or.inr (by assumption)) ?_)) (by repeat (first | exact w_nil | refine w_cons (Or.inl (y_m rfl)) ?_ | refine w_cons (Or.inr (by assumption)) ?_))
      refine T56 false (y_sq e f rfl rfl) (tx_s_fr s f rfl rfl) (by rw [hs]) ?_
      unfold pr_wh
      rw [hs]
      rfl
  have T29n : ∀ {G : aH} {q : Nat}, y_fr h G [1538, 1539, 1540, 3713, 3714] [31, 32, 33, 34, 35] → tx_s nd G sg (pr_t len.toInt.toNat) q → pr_sy (y_N sg) (pr_t len.toInt.toNat) nd.toInt = (false, q) → aOK s_P X (d + 6) a_m78 29 [some (.ref 14), some (.int len), some (.int nd), some (.ref 31), none] [.int (y_01 false)] G C S K0 := by
    intro G q e s hs
    refine w_go z_hl [56] [] 40 e.1 ?_
    refine ⟨fun _ => fun H hH => ?_, fun z => absurd z (by decide)⟩
    have f : y_fr G H [] [] := y_st (y_rf e.1) hH (by repeat (first | exact w_nil | refine w_cons (Or.inl (y_m rfl)) ?_ | refine w_cons (Or.inr (by assumption)) ?_)) (by repeat (first | exact w_nil | refine w_cons (Or.inl (y_m rfl)) ?_ | refine w_cons (Or.inr (by assumption)) ?_))
    refine T56 false (y_sq e f rfl rfl) (tx_s_fr s f rfl rfl) (by rw [hs]) ?_
    unfold pr_wh
    rw [hs]
    rfl
  have T29 : ∀ {G : aH} {q k : Nat} {rel : Int32}, y_fr h G [1538, 1539, 1540, 3713, 3714] [31, 32, 33, 34, 35] → tx_s nd G sg (pr_t len.toInt.toNat) (q + 1) → pr_tm (y_N sg) (pr_t len.toInt.toNat) nd.toInt 0 = (true, q, k) → w_f G 3714 = some (.int rel) → ((pr_k (y_N sg) (pr_t len.toInt.toNat) q = 126 ∧ k = 1) ∧ rel.toInt = 126) ∨ (¬ (pr_k (y_N sg) (pr_t len.toInt.toNat) q = 126 ∧ k = 1) ∧ (pr_k (y_N sg) (pr_t len.toInt.toNat) q = 61 ∨ pr_k (y_N sg) (pr_t len.toInt.toNat) q = 60 ∨ pr_k (y_N sg) (pr_t len.toInt.toNat) q = 62) ∧ rel.toInt ≠ 126) → aOK s_P X (d + 6) a_m78 29 [some (.ref 14), some (.int len), some (.int nd), some (.ref 31), none] [.int (y_01 true)] G C S K0 := by
    intro G q k rel e s ht gr hw
    refine w_go z_hl [56] [90] 40 e.1 ?_
    refine ⟨fun z => absurd z (by decide), fun _ => fun H hH => ?_⟩
    have f : y_fr G H [] [] := y_st (y_rf e.1) hH (by repeat (first | exact w_nil | refine w_cons (Or.inl (y_m rfl)) ?_ | refine w_cons (Or.inr (by assumption)) ?_)) (by repeat (first | exact w_nil | refine w_cons (Or.inl (y_m rfl)) ?_ | refine w_cons (Or.inr (by assumption)) ?_))
    refine c_second2 (d := d) n0 n10 (tx_s_fr s f rfl rfl) ((y_fe f rfl).trans gr) (fun b r k2 H2 f2 s3 h1 h2 => ⟨fun n e => (by cases e), ?_⟩)
    refine T37 b (y_sq (y_sq e f rfl rfl) f2 rfl rfl) s3 ?_
    rcases hw with ⟨⟨w1, w2⟩, w3⟩ | ⟨w1, w2, w3⟩
    · rw [w2] at ht
      exact pr_sy_b ht w1 (h1 w3)
    · exact pr_sy_c ht w1 w2 (h2 w3)
  have T24 : ∀ {G : aH} {fr : List Int32}, y_fr h G [1538, 1539, 1540, 3713, 3714] [31, 32, 33, 34, 35] → tx_s nd G sg (pr_t len.toInt.toNat) 0 → w_a G 31 = some (0, .inl fr) → (∀ j, j < 4 → y_N fr j = -1) → aOK s_P X (d + 6) a_m78 24 [some (.ref 14), some (.int len), some (.int nd), some (.ref 31), none] [] G C S K0 := by
    intro G fr e s g hf
    refine w_go z_hl [56] [80] 40 e.1 ?_
    intro H hH
    have f : y_fr G H [] [] := y_st (y_rf e.1) hH (by repeat (first | exact w_nil | refine w_cons (Or.inl (y_m rfl)) ?_ | refine w_cons (Or.inr (by assumption)) ?_)) (by repeat (first | exact w_nil | refine w_cons (Or.inl (y_m rfl)) ?_ | refine w_cons (Or.inr (by assumption)) ?_))
    refine c_first2 (d := d) n0 n10 (tx_s_fr s f rfl rfl) ((y_ae f rfl).trans g) (hf 0 (by decide)) (hf 1 (by decide)) (fun q k H2 rel fr' f2 s3 ht gr g3 hw => ⟨fun n e => (by cases e), ?_⟩) (fun q H2 f2 s3 hs => ⟨fun n e => (by cases e), ?_⟩)
    · exact T29 (y_sq (y_sq e f rfl rfl) f2 rfl rfl) s3 ht gr hw
    · exact T29n (y_sq (y_sq e f rfl rfl) f2 rfl rfl) s3 hs
  refine w_go z_hl [56] [79] 60 hr ?_
  refine ⟨rfl, y_zini (by decide) (by decide), ?_⟩
  refine ⟨fun z => ⟨rfl, y_zini (by decide) (by decide), rfl, y_zini n0 n10, fun H hH => ?_⟩, fun z => ⟨rfl, y_zini l0 ?_, rfl, y_zini n0 n10, fun H hH => ?_⟩⟩
  · have y1 : ((Int8.ofInt 40).toInt32).toInt < len.toInt := (y_ci .gt _ _).mp z
    rw [c40] at y1
    have et : pr_t len.toInt.toNat = 40 := if_pos (by omega)
    have f : y_fr h H [1538, 1539, 1540] [] := y_st (y_mo (y_rf hr) rfl rfl) hH (by repeat (first | exact w_nil | refine w_cons (Or.inl (y_m rfl)) ?_ | refine w_cons (Or.inr (by assumption)) ?_)) (by repeat (first | exact w_nil | refine w_cons (Or.inl (y_m rfl)) ?_ | refine w_cons (Or.inr (by assumption)) ?_))
    have s : tx_s nd H sg (pr_t len.toInt.toNat) 0 := ⟨_, _, f.1, (y_ae f rfl).trans gs, hH.2.1 1539 _ rfl, by rw [et]; exact c40, hH.2.1 1538 _ rfl, rfl, hH.2.1 1540 _ rfl, Nat.zero_le _, tl.1⟩
    refine c_clear2 f.1 (fun H2 fr f2 g2 hf => ⟨fun n e => (by cases e), ?_⟩)
    exact T24 (y_sq (y_mo f rfl rfl) f2 rfl rfl) (tx_s_fr s f2 rfl rfl) g2 hf
  · have y1 : ¬ (((Int8.ofInt 40).toInt32).toInt < len.toInt) := y_cif z
    rw [c40] at y1
    show len.toInt ≤ 40
    omega
  · have y1 : ¬ (((Int8.ofInt 40).toInt32).toInt < len.toInt) := y_cif z
    rw [c40] at y1
    have et : pr_t len.toInt.toNat = len.toInt.toNat := if_neg (by omega)
    have f : y_fr h H [1538, 1539, 1540] [] := y_st (y_mo (y_rf hr) rfl rfl) hH (by repeat (first | exact w_nil | refine w_cons (Or.inl (y_m rfl)) ?_ | refine w_cons (Or.inr (by assumption)) ?_)) (by repeat (first | exact w_nil | refine w_cons (Or.inl (y_m rfl)) ?_ | refine w_cons (Or.inr (by assumption)) ?_))
    have s : tx_s nd H sg (pr_t len.toInt.toNat) 0 := ⟨_, _, f.1, (y_ae f rfl).trans gs, hH.2.1 1539 _ rfl, by rw [et]; omega, hH.2.1 1538 _ rfl, rfl, hH.2.1 1540 _ rfl, Nat.zero_le _, tl.1⟩
    refine c_clear2 f.1 (fun H2 fr f2 g2 hf => ⟨fun n e => (by cases e), ?_⟩)
    exact T24 (y_sq (y_mo f rfl rfl) f2 rfl rfl) (tx_s_fr s f2 rfl rfl) g2 hf
end PPS2
end PT33ibx
section PT33iby
/-! ===== v21: parseEvent of the class with saying 3 (laid by wip/tools/mk21c.py) ===== -/
section PEV3
variable {X : aX} {C S d : Nat} {K0 : Option Value → aH → Nat → Nat → Prop} {sg : List Int32} {t : Nat} {nd : Int32}
theorem c_evl3 (n0 : 0 ≤ nd.toInt) (n10 : nd.toInt ≤ 10) {pI : Int32} {pa : Nat} (hpa : pI.toInt = pa) (pa4 : pa < 4) : ∀ (m : Nat) (h : aH) (p : Nat) (oI : Int32) (o : Nat) (o4 : Option Value), tx_s nd h sg t p → oI.toInt = o → o ≤ 5 → t - p ≤ m → (∀ (b : Bool) (q : Nat) (H : aH), y_fr h H [1538] [39, 40] → tx_s nd H sg t q → pr_E (y_N sg) t nd.toInt false p o = (b, q) → K0 (some (.int (y_01 b))) H C S) → aOK s_P X (d + 2) a_m87 12 [some (.ref 14), some (.ref 38), some (.int pI), some (.int oI), o4] [] h C S K0 := by
  have c33 : ((Int8.ofInt 33).toInt32).toInt = 33 := by decide
  have c38 : ((Int8.ofInt 38).toInt32).toInt = 38 := by decide
  have c40 : ((Int8.ofInt 40).toInt32).toInt = 40 := by decide
  have c97 : ((Int8.ofInt 97).toInt32).toInt = 97 := by decide
  have c124 : ((Int8.ofInt 124).toInt32).toInt = 124 := by decide
  have c5 : (Int32.ofInt 5).toInt = 5 := by decide
  have z0 : (0 : Int32).toInt = 0 := by decide
  have cn : ((Int8.ofInt 97).toInt32 + nd).toInt = 97 + nd.toInt := by
    rw [Int32.toInt_add, c97]
    exact Int.bmod_eq_of_le (by omega) (by omega)
  intro m
  induction m with
  | zero =>
    intro h p oI o o4 s ho o5 hm hK
    obtain ⟨toI, atI, hr, a1, a2, a3, a4, a5, a6, pt, t40⟩ := id s
    refine w_go z_hl [12] [82] 30 hr ?_
    intro x hx _ _
    obtain rfl := y_fi a4 hx
    intro y hy _ _
    obtain rfl := y_fi a2 hy
    refine ⟨fun _ => ⟨by decide, fun H hH => ?_⟩, fun z => ?_⟩
    · have f : y_fr h H [] [] := y_st (y_rf hr) hH (by repeat (first | exact w_nil | refine w_cons (Or.inl (y_m rfl)) ?_ | refine w_cons (Or.inr (by assumption)) ?_)) (by repeat (first | exact w_nil | refine w_cons (Or.inl (y_m rfl)) ?_ | refine w_cons (Or.inr (by assumption)) ?_))
      have k0 : pr_k (y_N sg) t p = 0 := if_neg (by omega)
      exact hK false p H (y_mo f rfl rfl) (tx_s_fr s f rfl rfl) (pr_bad (by omega) (by omega) (fun w => by have := w.1; omega) (fun w => by have := w.1; omega))
    · have y1 : ¬ (toI.toInt ≤ atI.toInt) := y_cif z
      exfalso
      omega
  | succ m ih =>
    intro h p oI o o4 s ho o5 hm hK
    obtain ⟨toI, atI, hr, a1, a2, a3, a4, a5, a6, pt, t40⟩ := id s
    -- on to the next sign
    have T189 : ∀ {G : aH} {oJ : Int32} {q o' : Nat} {p4 : Option Value}, y_fr h G [1538] [39, 40] → tx_s nd G sg t q → p < q → q < t → oJ.toInt = o' → o' ≤ 5 → pr_E (y_N sg) t nd.toInt false p o = pr_E (y_N sg) t nd.toInt false (q + 1) o' → aOK s_P X (d + 2) a_m87 189 [some (.ref 14), some (.ref 38), some (.int pI), some (.int oJ), p4] [] G C S K0 := by
      intro G oJ q o' p4 e s2 pq qt hoJ o5' hE
      obtain ⟨toJ, atJ, -, b1, b2, b3, b4, b5, b6, -, -⟩ := id s2
      have inc : (atJ + Int32.ofInt 1).toInt = ((q + 1 : Nat) : Int) := by rw [y_inc (by omega), b5]; rfl
      refine w_go z_hl [12] [82] 30 e.1 ?_
      intro x hx _ _
      obtain rfl := y_fi b4 hx
      refine ⟨rfl, y_zini (by show 0 ≤ (atJ + Int32.ofInt 1).toInt; omega) (by show (atJ + Int32.ofInt 1).toInt ≤ 40; omega), fun H hH => ?_⟩
      have f : y_fr G H [1538] [] := y_st (y_mo (y_rf e.1) rfl rfl) hH (by repeat (first | exact w_nil | refine w_cons (Or.inl (y_m rfl)) ?_ | refine w_cons (Or.inr (by assumption)) ?_)) (by repeat (first | exact w_nil | refine w_cons (Or.inl (y_m rfl)) ?_ | refine w_cons (Or.inr (by assumption)) ?_))
      exact ih H (q + 1) _ o' _ (tx_s_at s2 f rfl (hH.2.1 1538 _ rfl) inc (by omega)) hoJ o5' (by omega) (fun b r H' f1 f2 f3 => hK b r H' (y_sq (y_sq e f rfl rfl) f1 rfl rfl) f2 (hE.trans f3))
    have T143 : ∀ {G : aH} {oJ cI : Int32} {q o' : Nat}, y_fr h G [1538] [39, 40] → tx_s nd G sg t q → p < q → q < t → oJ.toInt = o' → o' ≤ 5 → pr_E (y_N sg) t nd.toInt false p o = pr_E (y_N sg) t nd.toInt false (q + 1) o' → aOK s_P X (d + 2) a_m87 143 [some (.ref 14), some (.ref 38), some (.int pI), some (.int oJ), some (.int cI)] [] G C S K0 := by
      intro G oJ cI q o' e s2 pq qt hoJ o5' hE
      have f0 : y_fr G G [] [] := y_rf e.1
      have T168 : ∀ {G2 : aH}, y_fr G G2 [] [39] → aOK s_P X (d + 2) a_m87 168 [some (.ref 14), some (.ref 38), some (.int pI), some (.int oJ), some (.int cI)] [] G2 C S K0 := by
        intro G2 f
        refine w_go z_hl [189] [82] 40 f.1 ?_
        refine ⟨⟨by omega, by omega⟩, fun l hl len bb => ⟨fun _ => ⟨⟨by omega, by omega⟩, y_l32 _, fun H hH => ?_⟩, fun _ => ⟨⟨by omega, by omega⟩, y_l32 _, fun H hH => ?_⟩⟩⟩
        · have f2 : y_fr G H [] [39, 40] := y_st (y_mo f rfl rfl) hH (by repeat (first | exact w_nil | refine w_cons (Or.inl (y_m rfl)) ?_ | refine w_cons (Or.inr (by assumption)) ?_)) (by repeat (first | exact w_nil | refine w_cons (Or.inl (y_m rfl)) ?_ | refine w_cons (Or.inr (by assumption)) ?_))
          exact T189 (y_sq e (y_mo f2 rfl rfl : y_fr G H [1538] [39, 40]) rfl rfl) (tx_s_fr s2 f2 rfl rfl) pq qt hoJ o5' hE
        · have f2 : y_fr G H [] [39, 40] := y_st (y_mo f rfl rfl) hH (by repeat (first | exact w_nil | refine w_cons (Or.inl (y_m rfl)) ?_ | refine w_cons (Or.inr (by assumption)) ?_)) (by repeat (first | exact w_nil | refine w_cons (Or.inl (y_m rfl)) ?_ | refine w_cons (Or.inr (by assumption)) ?_))
          exact T189 (y_sq e (y_mo f2 rfl rfl : y_fr G H [1538] [39, 40]) rfl rfl) (tx_s_fr s2 f2 rfl rfl) pq qt hoJ o5' hE
      refine w_go z_hl [168, 189] [82] 40 e.1 ?_
      refine ⟨fun _ => fun H hH => ?_, fun _ => ⟨⟨by omega, by omega⟩, fun l hl len bb => ⟨fun _ => ⟨⟨by omega, by omega⟩, y_l32 _, fun H hH => ?_⟩, fun _ => ⟨⟨by omega, by omega⟩, y_l32 _, fun H hH => ?_⟩⟩⟩⟩
      · have f2 : y_fr G H [] [] := y_st f0 hH (by repeat (first | exact w_nil | refine w_cons (Or.inl (y_m rfl)) ?_ | refine w_cons (Or.inr (by assumption)) ?_)) (by repeat (first | exact w_nil | refine w_cons (Or.inl (y_m rfl)) ?_ | refine w_cons (Or.inr (by assumption)) ?_))
        exact T189 (y_sq e f2 rfl rfl) (tx_s_fr s2 f2 rfl rfl) pq qt hoJ o5' hE
      · exact T168 (y_st (y_mo f0 rfl rfl) hH (by repeat (first | exact w_nil | refine w_cons (Or.inl (y_m rfl)) ?_ | refine w_cons (Or.inr (by assumption)) ?_)) (by repeat (first | exact w_nil | refine w_cons (Or.inl (y_m rfl)) ?_ | refine w_cons (Or.inr (by assumption)) ?_)))
      · exact T168 (y_st (y_mo f0 rfl rfl) hH (by repeat (first | exact w_nil | refine w_cons (Or.inl (y_m rfl)) ?_ | refine w_cons (Or.inr (by assumption)) ?_)) (by repeat (first | exact w_nil | refine w_cons (Or.inl (y_m rfl)) ?_ | refine w_cons (Or.inr (by assumption)) ?_)))
    have T117 : ∀ {G : aH} {oJ cI : Int32} {q o' : Nat} {p4 : Option Value}, y_fr h G [1538] [] → tx_s nd G sg t q → p < q → oJ.toInt = o' → o' ≤ 5 → cI.toInt = pr_k (y_N sg) t q → pr_E (y_N sg) t nd.toInt false p o = pr_E (y_N sg) t nd.toInt true q o' → ¬ (pr_k (y_N sg) t q = 41 ∧ 0 < o') → aOK s_P X (d + 2) a_m87 117 [some (.ref 14), some (.ref 38), some (.int pI), some (.int oJ), p4] [.int cI] G C S K0 := by
      intro G oJ cI q o' p4 e s2 pq hoJ o5' hc hE h41
      have q40 := (tx_s_hr s2).2.1
      have f0 : y_fr G G [] [] := y_rf e.1
      refine w_go z_hl [143] [82] 40 e.1 ?_
      refine ⟨fun z => fun H hH => ?_, fun z => ⟨fun z2 => fun H hH => ?_, fun z2 => ⟨fun z3 => ⟨by decide, fun H hH => ?_⟩, fun z3 => ⟨by decide, fun H hH => ?_⟩⟩⟩⟩
      · have y1 : cI.toInt = ((Int8.ofInt 38).toInt32).toInt := (y_ci .eq _ _).mp z
        rw [c38, hc] at y1
        have f2 : y_fr G H [] [] := y_st f0 hH (by repeat (first | exact w_nil | refine w_cons (Or.inl (y_m rfl)) ?_ | refine w_cons (Or.inr (by assumption)) ?_)) (by repeat (first | exact w_nil | refine w_cons (Or.inl (y_m rfl)) ?_ | refine w_cons (Or.inr (by assumption)) ?_))
        exact T143 (y_mo (y_sq e f2 rfl rfl) rfl rfl) (tx_s_fr s2 f2 rfl rfl) pq (pr_k_t (by decide) y1) hoJ o5' (hE.trans (pr_op (by omega) (Or.inl y1)))
      · have y1 : cI.toInt = ((Int8.ofInt 124).toInt32).toInt := (y_ci .eq _ _).mp z2
        rw [c124, hc] at y1
        have f2 : y_fr G H [] [] := y_st f0 hH (by repeat (first | exact w_nil | refine w_cons (Or.inl (y_m rfl)) ?_ | refine w_cons (Or.inr (by assumption)) ?_)) (by repeat (first | exact w_nil | refine w_cons (Or.inl (y_m rfl)) ?_ | refine w_cons (Or.inr (by assumption)) ?_))
        exact T143 (y_mo (y_sq e f2 rfl rfl) rfl rfl) (tx_s_fr s2 f2 rfl rfl) pq (pr_k_t (by decide) y1) hoJ o5' (hE.trans (pr_op (by omega) (Or.inr y1)))
      · have y1 : ¬ (cI.toInt = ((Int8.ofInt 38).toInt32).toInt) := y_cif z
        have y2 : ¬ (cI.toInt = ((Int8.ofInt 124).toInt32).toInt) := y_cif z2
        have y3 : oJ.toInt ≠ (0 : Int32).toInt := (y_ci .ne _ _).mp z3
        rw [c38, hc] at y1
        rw [c124, hc] at y2
        rw [z0] at y3
        have f2 : y_fr G H [] [] := y_st f0 hH (by repeat (first | exact w_nil | refine w_cons (Or.inl (y_m rfl)) ?_ | refine w_cons (Or.inr (by assumption)) ?_)) (by repeat (first | exact w_nil | refine w_cons (Or.inl (y_m rfl)) ?_ | refine w_cons (Or.inr (by assumption)) ?_))
        refine hK false q H (y_mo (y_sq e f2 rfl rfl) rfl rfl) (tx_s_fr s2 f2 rfl rfl) (hE.trans ?_)
        rw [pr_end (by omega) h41 y1 y2, decide_eq_false (by omega)]
      · have y1 : ¬ (cI.toInt = ((Int8.ofInt 38).toInt32).toInt) := y_cif z
        have y2 : ¬ (cI.toInt = ((Int8.ofInt 124).toInt32).toInt) := y_cif z2
        have y3 : ¬ (oJ.toInt ≠ (0 : Int32).toInt) := y_cif z3
        rw [c38, hc] at y1
        rw [c124, hc] at y2
        rw [z0] at y3
        have f2 : y_fr G H [] [] := y_st f0 hH (by repeat (first | exact w_nil | refine w_cons (Or.inl (y_m rfl)) ?_ | refine w_cons (Or.inr (by assumption)) ?_)) (by repeat (first | exact w_nil | refine w_cons (Or.inl (y_m rfl)) ?_ | refine w_cons (Or.inr (by assumption)) ?_))
        refine hK true q H (y_mo (y_sq e f2 rfl rfl) rfl rfl) (tx_s_fr s2 f2 rfl rfl) (hE.trans ?_)
        rw [pr_end (by omega) h41 y1 y2, decide_eq_true (by omega)]
    have T112 : ∀ {G : aH} {oJ : Int32} {q o' : Nat} {p3 p4 : Option Value}, y_fr h G [1538] [] → tx_s nd G sg t q → p < q → oJ.toInt = o' → o' ≤ 5 → pr_E (y_N sg) t nd.toInt false p o = pr_E (y_N sg) t nd.toInt true q o' → ¬ (pr_k (y_N sg) t q = 41 ∧ 0 < o') → aOK s_P X (d + 2) a_m87 112 [some (.ref 14), some (.ref 38), some (.int pI), p3, p4] [.int oJ] G C S K0 := by
      intro G oJ q o' p3 p4 e s2 pq hoJ o5' hE h41
      refine w_go z_hl [143] [82] 20 e.1 ?_
      intro H hH
      have f2 : y_fr G H [] [] := y_st (y_rf e.1) hH (by repeat (first | exact w_nil | refine w_cons (Or.inl (y_m rfl)) ?_ | refine w_cons (Or.inr (by assumption)) ?_)) (by repeat (first | exact w_nil | refine w_cons (Or.inl (y_m rfl)) ?_ | refine w_cons (Or.inr (by assumption)) ?_))
      refine c_lkT (tx_s_fr s2 f2 rfl rfl) (fun r H2 f3 er => ⟨fun n e => (by cases e), ?_⟩)
      exact T117 (y_sq (y_sq e f2 rfl rfl) f3 rfl rfl) (tx_s_fr (tx_s_fr s2 f2 rfl rfl) f3 rfl rfl) pq hoJ o5' er hE h41
    have T97 : ∀ {G : aH} {cI : Int32}, y_fr h G [] [] → p < t → 97 ≤ pr_k (y_N sg) t p → pr_k (y_N sg) t p < 97 + nd.toInt → aOK s_P X (d + 2) a_m87 97 [some (.ref 14), some (.ref 38), some (.int pI), some (.int oI), some (.int cI)] [] G C S K0 := by
      intro G cI e ptt h97 h98
      have s2 := tx_s_fr s e rfl rfl
      have inc : (atI + Int32.ofInt 1).toInt = ((p + 1 : Nat) : Int) := by rw [y_inc (by omega), a5]; rfl
      refine w_go z_hl [12] [88] 30 e.1 ?_
      intro x hx _ _
      obtain rfl := y_fi ((y_fe e rfl).trans a4) hx
      refine ⟨rfl, y_zini (by show 0 ≤ (atI + Int32.ofInt 1).toInt; omega) (by show (atI + Int32.ofInt 1).toInt ≤ 40; omega), fun H hH => ?_⟩
      have f : y_fr G H [1538] [] := y_st (y_mo (y_rf e.1) rfl rfl) hH (by repeat (first | exact w_nil | refine w_cons (Or.inl (y_m rfl)) ?_ | refine w_cons (Or.inr (by assumption)) ?_)) (by repeat (first | exact w_nil | refine w_cons (Or.inl (y_m rfl)) ?_ | refine w_cons (Or.inr (by assumption)) ?_))
      have s3 := tx_s_at s2 f rfl (hH.2.1 1538 _ rfl) inc (by omega)
      obtain ⟨k1, k2, k3, k4, k5⟩ := pr_c_p (T := y_N sg) (n := nd.toInt) t40 o (p + 1) (by omega)
      refine c_closeBr (d := d) s3 ho o5 (fun r H2 f2 s4 er => ⟨fun n e => (by cases e), ?_⟩)
      exact T112 (y_sq (y_sq (y_mo e rfl rfl) f rfl rfl) f2 rfl rfl) s4 (by omega) er (by omega) ((pr_let (by omega) h97 h98).trans k4) k5
    have T76 : ∀ {G : aH} {cI : Int32}, y_fr h G [] [] → p < t → cI.toInt = pr_k (y_N sg) t p → pr_k (y_N sg) t p ≠ 33 → ¬ (pr_k (y_N sg) t p = 40 ∧ o < 5) → aOK s_P X (d + 2) a_m87 76 [some (.ref 14), some (.ref 38), some (.int pI), some (.int oI), some (.int cI)] [] G C S K0 := by
      intro G cI e ptt hc h33 h40
      have bad : ∀ {H : aH}, y_fr h H [] [] → ¬ (97 ≤ pr_k (y_N sg) t p ∧ pr_k (y_N sg) t p < 97 + nd.toInt) → K0 (some (.int (y_01 false))) H C S := fun f w => hK false p _ (y_mo f rfl rfl) (tx_s_fr s f rfl rfl) (pr_bad (by omega) h33 h40 w)
      refine w_go z_hl [97] [88] 30 e.1 ?_
      refine ⟨fun z => ⟨by decide, fun H hH => bad (y_st e hH (by repeat (first | exact w_nil | refine w_cons (Or.inl (y_m rfl)) ?_ | refine w_cons (Or.inr (by assumption)) ?_)) (by repeat (first | exact w_nil | refine w_cons (Or.inl (y_m rfl)) ?_ | refine w_cons (Or.inr (by assumption)) ?_))) (fun w => ?_)⟩, fun z => ?_⟩
      · have y1 : cI.toInt < ((Int8.ofInt 97).toInt32).toInt := (y_ci .lt _ _).mp z
        rw [c97, hc] at y1
        have := w.1
        omega
      · have y1 : ¬ (cI.toInt < ((Int8.ofInt 97).toInt32).toInt) := y_cif z
        rw [c97, hc] at y1
        intro x hx _ _
        obtain rfl := y_fi ((y_fe e rfl).trans a6) hx
        refine ⟨fun z2 => fun H hH => ?_, fun z2 => ⟨by decide, fun H hH => bad (y_st e hH (by repeat (first | exact w_nil | refine w_cons (Or.inl (y_m rfl)) ?_ | refine w_cons (Or.inr (by assumption)) ?_)) (by repeat (first | exact w_nil | refine w_cons (Or.inl (y_m rfl)) ?_ | refine w_cons (Or.inr (by assumption)) ?_))) (fun w => ?_)⟩⟩
        · have y2 : cI.toInt < ((Int8.ofInt 97).toInt32 + nd).toInt := (y_ci .lt _ _).mp z2
          rw [cn, hc] at y2
          exact T97 (y_st e hH (by repeat (first | exact w_nil | refine w_cons (Or.inl (y_m rfl)) ?_ | refine w_cons (Or.inr (by assumption)) ?_)) (by repeat (first | exact w_nil | refine w_cons (Or.inl (y_m rfl)) ?_ | refine w_cons (Or.inr (by assumption)) ?_))) ptt (by omega) y2
        · have y2 : ¬ (cI.toInt < ((Int8.ofInt 97).toInt32 + nd).toInt) := y_cif z2
          rw [cn, hc] at y2
          exact y2 w.2
    have T48 : ∀ {G : aH} {cI : Int32} (b : Bool), y_fr h G [] [] → p < t → cI.toInt = (if b then 40 else 33) → pr_E (y_N sg) t nd.toInt false p o = pr_E (y_N sg) t nd.toInt false (p + 1) (o + (if b then 1 else 0)) → o + (if b then 1 else 0) ≤ 5 → aOK s_P X (d + 2) a_m87 48 [some (.ref 14), some (.ref 38), some (.int pI), some (.int oI), some (.int cI)] [] G C S K0 := by
      intro G cI b e ptt hc hE o5'
      have s2 := tx_s_fr s e rfl rfl
      have inc : (atI + Int32.ofInt 1).toInt = ((p + 1 : Nat) : Int) := by rw [y_inc (by omega), a5]; rfl
      cases b with
      | true =>
        have hc' : cI.toInt = 40 := hc
        have ino : (oI + Int32.ofInt 1).toInt = ((o + 1 : Nat) : Int) := by rw [y_inc (by omega), ho]; rfl
        have o6 : o + 1 ≤ 5 := o5'
        refine w_go z_hl [12] [88] 40 e.1 ?_
        refine ⟨fun z => ?_, fun _ => ?_⟩
        · have y1 : cI.toInt ≠ ((Int8.ofInt 40).toInt32).toInt := (y_ci .ne _ _).mp z
          rw [c40] at y1
          exact absurd hc' y1
        · intro x hx _ _
          obtain rfl := y_fi ((y_fe e rfl).trans a4) hx
          refine ⟨rfl, y_zini (by show 0 ≤ (atI + Int32.ofInt 1).toInt; omega) (by show (atI + Int32.ofInt 1).toInt ≤ 40; omega), fun H hH => ?_⟩
          have f : y_fr G H [1538] [] := y_st (y_mo (y_rf e.1) rfl rfl) hH (by repeat (first | exact w_nil | refine w_cons (Or.inl (y_m rfl)) ?_ | refine w_cons (Or.inr (by assumption)) ?_)) (by repeat (first | exact w_nil | refine w_cons (Or.inl (y_m rfl)) ?_ | refine w_cons (Or.inr (by assumption)) ?_))
          exact ih H (p + 1) _ (o + 1) _ (tx_s_at s2 f rfl (hH.2.1 1538 _ rfl) inc (by omega)) ino o6 (by omega) (fun b r H' f1 f2 f3 => hK b r H' (y_sq (y_mo (y_sq (y_mo e rfl rfl) f rfl rfl : y_fr h H [1538] []) rfl rfl) f1 rfl rfl) f2 (hE.trans f3))
      | false =>
        have hc' : cI.toInt = 33 := hc
        have ino : (oI + Int32.ofInt 0).toInt = (o : Nat) := by rw [show Int32.ofInt 0 = (0 : Int32) by decide, Int32.add_zero]; exact ho
        refine w_go z_hl [12] [88] 40 e.1 ?_
        refine ⟨fun _ => ?_, fun z => ?_⟩
        · intro x hx _ _
          obtain rfl := y_fi ((y_fe e rfl).trans a4) hx
          refine ⟨rfl, y_zini (by show 0 ≤ (atI + Int32.ofInt 1).toInt; omega) (by show (atI + Int32.ofInt 1).toInt ≤ 40; omega), fun H hH => ?_⟩
          have f : y_fr G H [1538] [] := y_st (y_mo (y_rf e.1) rfl rfl) hH (by repeat (first | exact w_nil | refine w_cons (Or.inl (y_m rfl)) ?_ | refine w_cons (Or.inr (by assumption)) ?_)) (by repeat (first | exact w_nil | refine w_cons (Or.inl (y_m rfl)) ?_ | refine w_cons (Or.inr (by assumption)) ?_))
          exact ih H (p + 1) _ o _ (tx_s_at s2 f rfl (hH.2.1 1538 _ rfl) inc (by omega)) ino o5 (by omega) (fun b r H' f1 f2 f3 => hK b r H' (y_sq (y_mo (y_sq (y_mo e rfl rfl) f rfl rfl : y_fr h H [1538] []) rfl rfl) f1 rfl rfl) f2 (hE.trans f3))
        · have y1 : ¬ (cI.toInt ≠ ((Int8.ofInt 40).toInt32).toInt) := y_cif z
          rw [c40] at y1
          exfalso
          omega
    have T27 : ∀ {G : aH} {cI : Int32}, y_fr h G [] [] → p < t → cI.toInt = pr_k (y_N sg) t p → aOK s_P X (d + 2) a_m87 27 [some (.ref 14), some (.ref 38), some (.int pI), some (.int oI), o4] [.int cI] G C S K0 := by
      intro G cI e ptt hc
      refine w_go z_hl [48, 76] [88] 40 e.1 ?_
      refine ⟨fun z => fun H hH => ?_, fun z => ⟨fun z2 => fun H hH => ?_, fun z2 => ⟨fun z3 => fun H hH => ?_, fun z3 => fun H hH => ?_⟩⟩⟩
      · have y1 : cI.toInt = ((Int8.ofInt 33).toInt32).toInt := (y_ci .eq _ _).mp z
        rw [c33] at y1
        exact T48 false (y_st e hH (by repeat (first | exact w_nil | refine w_cons (Or.inl (y_m rfl)) ?_ | refine w_cons (Or.inr (by assumption)) ?_)) (by repeat (first | exact w_nil | refine w_cons (Or.inl (y_m rfl)) ?_ | refine w_cons (Or.inr (by assumption)) ?_))) ptt y1 (pr_bang (by omega) (hc.symm.trans y1)) o5
      · have y1 : ¬ (cI.toInt = ((Int8.ofInt 33).toInt32).toInt) := y_cif z
        have y2 : cI.toInt ≠ ((Int8.ofInt 40).toInt32).toInt := (y_ci .ne _ _).mp z2
        rw [c33, hc] at y1
        rw [c40, hc] at y2
        exact T76 (y_st e hH (by repeat (first | exact w_nil | refine w_cons (Or.inl (y_m rfl)) ?_ | refine w_cons (Or.inr (by assumption)) ?_)) (by repeat (first | exact w_nil | refine w_cons (Or.inl (y_m rfl)) ?_ | refine w_cons (Or.inr (by assumption)) ?_))) ptt hc y1 (fun w => y2 w.1)
      · have y1 : ¬ (cI.toInt = ((Int8.ofInt 33).toInt32).toInt) := y_cif z
        have y3 : (Int32.ofInt 5).toInt ≤ oI.toInt := (y_ci .ge _ _).mp z3
        rw [c33, hc] at y1
        rw [c5] at y3
        exact T76 (y_st e hH (by repeat (first | exact w_nil | refine w_cons (Or.inl (y_m rfl)) ?_ | refine w_cons (Or.inr (by assumption)) ?_)) (by repeat (first | exact w_nil | refine w_cons (Or.inl (y_m rfl)) ?_ | refine w_cons (Or.inr (by assumption)) ?_))) ptt hc y1 (fun w => by have := w.2; omega)
      · have y2 : ¬ (cI.toInt ≠ ((Int8.ofInt 40).toInt32).toInt) := y_cif z2
        have y3 : ¬ ((Int32.ofInt 5).toInt ≤ oI.toInt) := y_cif z3
        rw [c40] at y2
        rw [c5] at y3
        have y4 : cI.toInt = 40 := Decidable.not_not.mp y2
        exact T48 true (y_st e hH (by repeat (first | exact w_nil | refine w_cons (Or.inl (y_m rfl)) ?_ | refine w_cons (Or.inr (by assumption)) ?_)) (by repeat (first | exact w_nil | refine w_cons (Or.inl (y_m rfl)) ?_ | refine w_cons (Or.inr (by assumption)) ?_))) ptt y4 (pr_open (by omega) (hc.symm.trans y4) (by omega)) (by show o + 1 ≤ 5; omega)
    refine w_go z_hl [12] [82] 30 hr ?_
    intro x hx _ _
    obtain rfl := y_fi a4 hx
    intro y hy _ _
    obtain rfl := y_fi a2 hy
    refine ⟨fun z => ⟨by decide, fun H hH => ?_⟩, fun z => fun H hH => ?_⟩
    · have y1 : toI.toInt ≤ atI.toInt := (y_ci .ge _ _).mp z
      have f : y_fr h H [] [] := y_st (y_rf hr) hH (by repeat (first | exact w_nil | refine w_cons (Or.inl (y_m rfl)) ?_ | refine w_cons (Or.inr (by assumption)) ?_)) (by repeat (first | exact w_nil | refine w_cons (Or.inl (y_m rfl)) ?_ | refine w_cons (Or.inr (by assumption)) ?_))
      have k0 : pr_k (y_N sg) t p = 0 := if_neg (by omega)
      exact hK false p H (y_mo f rfl rfl) (tx_s_fr s f rfl rfl) (pr_bad (by omega) (by omega) (fun w => by have := w.1; omega) (fun w => by have := w.1; omega))
    · have y1 : ¬ (toI.toInt ≤ atI.toInt) := y_cif z
      have f : y_fr h H [] [] := y_st (y_rf hr) hH (by repeat (first | exact w_nil | refine w_cons (Or.inl (y_m rfl)) ?_ | refine w_cons (Or.inr (by assumption)) ?_)) (by repeat (first | exact w_nil | refine w_cons (Or.inl (y_m rfl)) ?_ | refine w_cons (Or.inr (by assumption)) ?_))
      refine c_lkT (tx_s_fr s f rfl rfl) (fun r H2 f2 er => ⟨fun n e => (by cases e), ?_⟩)
      exact T27 (y_sq f f2 rfl rfl) (by omega) er
theorem c_ev3 {h : aH} {p : Nat} (n0 : 0 ≤ nd.toInt) (n10 : nd.toInt ≤ 10) {pI : Int32} {pa : Nat} (hpa : pI.toInt = pa) (pa4 : pa < 4) (s : tx_s nd h sg t p) {fr : List Int32} (gf : w_a h 38 = some (0, .inl fr)) (hK : ∀ (b : Bool) (q : Nat) (aI : Int32) (H : aH), y_fr h H [1538] [38, 39, 40] → tx_s nd H sg t q → pr_E (y_N sg) t nd.toInt false p 0 = (b, q) → w_a H 38 = some (0, .inl (fr.set pa aI)) → 0 ≤ aI.toInt → K0 (some (.int (y_01 b))) H C S) : aOK s_P X (d + 2) a_m87 0 [some (.ref 14), some (.ref 38), some (.int pI), none, none] [] h C S K0 := by
  obtain ⟨toI, atI, hr, a1, a2, a3, a4, a5, a6, pt, t40⟩ := id s
  have cp := y_cl1 hpa
  refine w_go z_hl [12] [] 30 hr ?_
  intro x hx _ _
  obtain rfl := y_fi a4 hx
  refine ⟨⟨by omega, by omega⟩, ⟨by omega, by omega⟩, fun l hl len bb => fun H hH => ?_⟩
  obtain rfl := y_ai gf hl
  have w := hH.2.2.1 38 _ rfl
  rw [cp] at w
  have f : y_fr h H [] [38] := y_st (y_mo (y_rf hr) rfl rfl) hH (by repeat (first | exact w_nil | refine w_cons (Or.inl (y_m rfl)) ?_ | refine w_cons (Or.inr (by assumption)) ?_)) (by repeat (first | exact w_nil | refine w_cons (Or.inl (y_m rfl)) ?_ | refine w_cons (Or.inr (by assumption)) ?_))
  exact c_evl3 (d := d) n0 n10 hpa pa4 40 H p _ 0 _ (tx_s_fr s f rfl rfl) (by decide) (by decide) (by omega) (fun b q H' f1 f2 f3 => hK b q atI H' (y_sq (y_mo f rfl rfl) f1 rfl rfl) f2 f3 ((y_ae f1 rfl).trans w) (by omega))
end PEV3
end PT33iby
section PT33ibz
/-! ===== v21: parseGiven, parseRate, parseTerm of the class with saying 3 (laid by wip/tools/mk21d.py) ===== -/
section PPT3
variable {X : aX} {C S d : Nat} {K0 : Option Value → aH → Nat → Nat → Prop} {sg : List Int32} {t p : Nat} {nd : Int32} {h : aH}
theorem c_gv3 (n0 : 0 ≤ nd.toInt) (n10 : nd.toInt ≤ 10) {sI : Int32} {sd : Nat} (hs : sI.toInt = sd) (hs2 : sd < 2) (s : tx_s nd h sg t p) {fr : List Int32} (gf : w_a h 38 = some (0, .inl fr)) (hK : ∀ (b : Bool) (q k : Nat) (H : aH) (fr' : List Int32), y_fr h H [1538] [38, 39, 40] → tx_s nd H sg t q → pr_gv (y_N sg) t nd.toInt p = (b, q, k) → w_a H 38 = some (0, .inl fr') → tx_f fr fr' sd k → K0 (some (.int (y_01 b))) H C S) : aOK s_P X (d + 3) a_m86 0 [some (.ref 14), some (.ref 38), some (.int sI)] [] h C S K0 := by
  obtain ⟨toI, atI, hr, a1, a2, a3, a4, a5, a6, pt, t40⟩ := id s
  obtain ⟨fr0, f1, fl, -⟩ := c_arr hr (ob := 38) (n := 4) (lo := -1) (hi := 40) rfl
  obtain rfl := y_ai gf f1
  have c47 : ((Int8.ofInt 47).toInt32).toInt = 47 := by decide
  have m1 : (Int32.ofInt 2 * sI).toInt = ((2 * sd : Nat) : Int) := y_mulS (m := 2) _ (by decide) hs rfl (by omega)
  have m2 : (Int32.ofInt 2 * sI + Int32.ofInt 1).toInt = ((2 * sd + 1 : Nat) : Int) := y_addS _ m1 (n := 1) (by decide) rfl (by omega)
  have T44 : ∀ {G : aH} {b : Bool} {q k : Nat} {fr' : List Int32}, y_fr h G [1538] [38, 39, 40] → tx_s nd G sg t q → pr_gv (y_N sg) t nd.toInt p = (b, q, k) → w_a G 38 = some (0, .inl fr') → tx_f fr fr' sd k → aOK s_P X (d + 3) a_m86 44 [some (.ref 14), some (.ref 38), some (.int sI)] [.int (y_01 b)] G C S K0 := by
    intro G b q k fr' e s2 hg g2 hf
    refine w_go z_hl [] [] 20 e.1 ?_
    refine ⟨y_01b b, fun H hH => ?_⟩
    have f : y_fr G H [] [] := y_st (y_rf e.1) hH (by repeat (first | exact w_nil | refine w_cons (Or.inl (y_m rfl)) ?_ | refine w_cons (Or.inr (by assumption)) ?_)) (by repeat (first | exact w_nil | refine w_cons (Or.inl (y_m rfl)) ?_ | refine w_cons (Or.inr (by assumption)) ?_))
    exact hK b q k H fr' (y_sq e f rfl rfl) (tx_s_fr s2 f rfl rfl) hg ((y_ae f rfl).trans g2) hf
  have T24 : ∀ {G : aH} {q : Nat} {aI : Int32}, y_fr h G [1538] [38, 39, 40] → tx_s nd G sg t q → q < t → pr_E (y_N sg) t nd.toInt false p 0 = (true, q) → pr_k (y_N sg) t q = 47 → w_a G 38 = some (0, .inl (fr.set (2 * sd) aI)) → 0 ≤ aI.toInt → aOK s_P X (d + 3) a_m86 24 [some (.ref 14), some (.ref 38), some (.int sI)] [] G C S K0 := by
    intro G q aI e s2 qt hE h47 g2 ha
    obtain ⟨toJ, atJ, -, b1, b2, b3, b4, b5, b6, -, -⟩ := id s2
    have inc : (atJ + Int32.ofInt 1).toInt = ((q + 1 : Nat) : Int) := by rw [y_inc (by omega), b5]; rfl
    refine w_go z_hl [] [87] 30 e.1 ?_
    intro x hx _ _
    obtain rfl := y_fi b4 hx
    refine ⟨rfl, y_zini (by show 0 ≤ (atJ + Int32.ofInt 1).toInt; omega) (by show (atJ + Int32.ofInt 1).toInt ≤ 40; omega), fun H hH => ?_⟩
    have f : y_fr G H [1538] [] := y_st (y_mo (y_rf e.1) rfl rfl) hH (by repeat (first | exact w_nil | refine w_cons (Or.inl (y_m rfl)) ?_ | refine w_cons (Or.inr (by assumption)) ?_)) (by repeat (first | exact w_nil | refine w_cons (Or.inl (y_m rfl)) ?_ | refine w_cons (Or.inr (by assumption)) ?_))
    refine c_ev3 (d := d) n0 n10 m2 (by omega) (tx_s_at s2 f rfl (hH.2.1 1538 _ rfl) inc (by omega)) ((y_ae f rfl).trans g2) (fun b r aJ H2 f2 s3 hE2 g3 ha2 => ⟨fun n e => (by cases e), ?_⟩)
    exact T44 (k := 2) (y_sq (y_sq e f rfl rfl) f2 rfl rfl) s3 (pr_gv_2 hE h47 hE2) g3 (tx_f_2 fl ha ha2 hs2)
  have T17 : ∀ {G : aH} {q : Nat} {aI cI : Int32}, y_fr h G [1538] [38, 39, 40] → tx_s nd G sg t q → cI.toInt = pr_k (y_N sg) t q → pr_E (y_N sg) t nd.toInt false p 0 = (true, q) → w_a G 38 = some (0, .inl (fr.set (2 * sd) aI)) → 0 ≤ aI.toInt → aOK s_P X (d + 3) a_m86 17 [some (.ref 14), some (.ref 38), some (.int sI)] [.int cI] G C S K0 := by
    intro G q aI cI e s2 hc hE g2 ha
    refine w_go z_hl [24] [] 30 e.1 ?_
    refine ⟨fun z => fun H hH => ?_, fun z => ⟨by decide, fun H hH => ?_⟩⟩
    · have y1 : cI.toInt = ((Int8.ofInt 47).toInt32).toInt := (y_ci .eq _ _).mp z
      rw [c47, hc] at y1
      have f : y_fr G H [] [] := y_st (y_rf e.1) hH (by repeat (first | exact w_nil | refine w_cons (Or.inl (y_m rfl)) ?_ | refine w_cons (Or.inr (by assumption)) ?_)) (by repeat (first | exact w_nil | refine w_cons (Or.inl (y_m rfl)) ?_ | refine w_cons (Or.inr (by assumption)) ?_))
      exact T24 (y_sq e f rfl rfl) (tx_s_fr s2 f rfl rfl) (pr_k_t (by decide) y1) hE y1 ((y_ae f rfl).trans g2) ha
    · have y1 : ¬ (cI.toInt = ((Int8.ofInt 47).toInt32).toInt) := y_cif z
      rw [c47, hc] at y1
      have f : y_fr G H [] [] := y_st (y_rf e.1) hH (by repeat (first | exact w_nil | refine w_cons (Or.inl (y_m rfl)) ?_ | refine w_cons (Or.inr (by assumption)) ?_)) (by repeat (first | exact w_nil | refine w_cons (Or.inl (y_m rfl)) ?_ | refine w_cons (Or.inr (by assumption)) ?_))
      exact hK true q 1 H _ (y_sq e f rfl rfl) (tx_s_fr s2 f rfl rfl) (pr_gv_1 hE y1) ((y_ae f rfl).trans g2) (tx_f_1 fl ha hs2)
  have T8 : ∀ {G : aH} {q : Nat} {aI : Int32} (b : Bool), y_fr h G [1538] [38, 39, 40] → tx_s nd G sg t q → pr_E (y_N sg) t nd.toInt false p 0 = (b, q) → w_a G 38 = some (0, .inl (fr.set (2 * sd) aI)) → 0 ≤ aI.toInt → aOK s_P X (d + 3) a_m86 8 [some (.ref 14), some (.ref 38), some (.int sI)] [.int (y_01 b)] G C S K0 := by
    intro G q aI b e s2 hE g2 ha
    cases b with
    | true =>
      refine w_go z_hl [24] [82] 30 e.1 ?_
      refine ⟨fun _ => fun H hH => ?_, fun z => absurd z (by decide)⟩
      have f : y_fr G H [] [] := y_st (y_rf e.1) hH (by repeat (first | exact w_nil | refine w_cons (Or.inl (y_m rfl)) ?_ | refine w_cons (Or.inr (by assumption)) ?_)) (by repeat (first | exact w_nil | refine w_cons (Or.inl (y_m rfl)) ?_ | refine w_cons (Or.inr (by assumption)) ?_))
      refine c_lkT (tx_s_fr s2 f rfl rfl) (fun r H2 f2 er => ⟨fun n e => (by cases e), ?_⟩)
      exact T17 (y_sq (y_sq e f rfl rfl) f2 rfl rfl) (tx_s_fr (tx_s_fr s2 f rfl rfl) f2 rfl rfl) er hE ((y_ae f2 rfl).trans ((y_ae f rfl).trans g2)) ha
    | false =>
      refine w_go z_hl [24] [82] 30 e.1 ?_
      refine ⟨fun z => absurd z (by decide), fun _ => ⟨by decide, fun H hH => ?_⟩⟩
      have f : y_fr G H [] [] := y_st (y_rf e.1) hH (by repeat (first | exact w_nil | refine w_cons (Or.inl (y_m rfl)) ?_ | refine w_cons (Or.inr (by assumption)) ?_)) (by repeat (first | exact w_nil | refine w_cons (Or.inl (y_m rfl)) ?_ | refine w_cons (Or.inr (by assumption)) ?_))
      exact hK false q 1 H _ (y_sq e f rfl rfl) (tx_s_fr s2 f rfl rfl) (pr_gv_n hE) ((y_ae f rfl).trans g2) (tx_f_1 fl ha hs2)
  refine w_go z_hl [] [87] 30 hr ?_
  intro H hH
  have f : y_fr h H [] [] := y_st (y_rf hr) hH (by repeat (first | exact w_nil | refine w_cons (Or.inl (y_m rfl)) ?_ | refine w_cons (Or.inr (by assumption)) ?_)) (by repeat (first | exact w_nil | refine w_cons (Or.inl (y_m rfl)) ?_ | refine w_cons (Or.inr (by assumption)) ?_))
  refine c_ev3 (d := d) n0 n10 m1 (by omega) (tx_s_fr s f rfl rfl) ((y_ae f rfl).trans gf) (fun b q aI H2 f2 s3 hE g3 ha => ⟨fun n e => (by cases e), ?_⟩)
  exact T8 b (y_sq (y_mo f rfl rfl) f2 rfl rfl) s3 hE g3 ha
theorem c_rt3 {sI : Int32} {sd : Nat} (hs : sI.toInt = sd) (hs2 : sd < 2) (s : tx_s nd h sg t p) (hK : ∀ (b : Bool) (q : Nat) (H : aH), y_fr h H [1538] [41, 42] → tx_s nd H sg t q → pr_rt (y_N sg) t p = (b, q, 0) → K0 (some (.int (y_01 b))) H C S) : aOK s_P X (d + 2) a_m84 0 [some (.ref 14), some (.ref 38), some (.int sI)] [] h C S K0 := by
  obtain ⟨toI, atI, hr, a1, a2, a3, a4, a5, a6, pt, t40⟩ := id s
  have c58 : ((Int8.ofInt 58).toInt32).toInt = 58 := by decide
  have c48 : ((Int8.ofInt 48).toInt32).toInt = 48 := by decide
  have T61 : ∀ {G : aH} {q : Nat} {r : Int32}, y_fr h G [1538] [41] → tx_s nd G sg t q → pr_rt (y_N sg) t p = (true, q, 0) → aOK s_P X (d + 2) a_m84 61 [some (.ref 14), some (.ref 38), some (.int sI)] [.int r, .int sI, .ref 44] G C S K0 := by
    intro G q r e s2 hg
    refine w_go z_hl [] [] 20 e.1 ?_
    refine ⟨⟨by omega, by omega⟩, y_l32 _, fun l hl len bb => ⟨by decide, fun H hH => ?_⟩⟩
    have f : y_fr G H [] [42] := y_st (y_mo (y_rf e.1) rfl rfl) hH (by repeat (first | exact w_nil | refine w_cons (Or.inl (y_m rfl)) ?_ | refine w_cons (Or.inr (by assumption)) ?_)) (by repeat (first | exact w_nil | refine w_cons (Or.inl (y_m rfl)) ?_ | refine w_cons (Or.inr (by assumption)) ?_))
    exact hK true q H (y_sq (y_mo e rfl rfl) f rfl rfl) (tx_s_fr s2 f rfl rfl) hg
  have T45 : ∀ {G : aH} {cI : Int32}, y_fr h G [1538] [41] → tx_s nd G sg t (pr_dq (y_N sg) t 8 p + 1) → pr_k (y_N sg) t (pr_dq (y_N sg) t 8 p) = 58 → pr_dg (y_N sg) t (pr_dq (y_N sg) t 8 p + 1) → cI.toInt = pr_k (y_N sg) t (pr_dq (y_N sg) t 8 p + 1) → aOK s_P X (d + 2) a_m84 45 [some (.ref 14), some (.ref 38), some (.int sI)] [.int cI] G C S K0 := by
    intro G cI e s2 h58 hd hc
    have hd1 := hd.1
    have hd2 := hd.2
    refine w_go z_hl [] [85] 30 e.1 ?_
    refine ⟨fun z => fun H hH => ?_, fun z => ⟨by decide, fun H hH => ?_⟩⟩
    · have y1 : cI.toInt ≠ ((Int8.ofInt 48).toInt32).toInt := (y_ci .ne _ _).mp z
      rw [c48, hc] at y1
      have f : y_fr G H [] [] := y_st (y_rf e.1) hH (by repeat (first | exact w_nil | refine w_cons (Or.inl (y_m rfl)) ?_ | refine w_cons (Or.inr (by assumption)) ?_)) (by repeat (first | exact w_nil | refine w_cons (Or.inl (y_m rfl)) ?_ | refine w_cons (Or.inr (by assumption)) ?_))
      refine c_number (d := d) (tx_s_fr s2 f rfl rfl) (fun r H2 f2 s3 => ⟨fun n e => (by cases e), ?_⟩)
      exact T61 (y_sq (y_sq e f rfl rfl) f2 rfl rfl) s3 (pr_rt_1 h58 ⟨by omega, hd2⟩)
    · have y1 : ¬ (cI.toInt ≠ ((Int8.ofInt 48).toInt32).toInt) := y_cif z
      rw [c48, hc] at y1
      have f : y_fr G H [] [] := y_st (y_rf e.1) hH (by repeat (first | exact w_nil | refine w_cons (Or.inl (y_m rfl)) ?_ | refine w_cons (Or.inr (by assumption)) ?_)) (by repeat (first | exact w_nil | refine w_cons (Or.inl (y_m rfl)) ?_ | refine w_cons (Or.inr (by assumption)) ?_))
      exact hK false _ H (y_mo (y_sq e f rfl rfl) rfl rfl) (tx_s_fr s2 f rfl rfl) (pr_rt_0 h58 (fun w => by have := w.1; omega))
  have T38 : ∀ {G : aH} (b : Bool), y_fr h G [1538] [41] → tx_s nd G sg t (pr_dq (y_N sg) t 8 p + 1) → pr_k (y_N sg) t (pr_dq (y_N sg) t 8 p) = 58 → (b = true → pr_dg (y_N sg) t (pr_dq (y_N sg) t 8 p + 1)) → (b = false → ¬ pr_dg (y_N sg) t (pr_dq (y_N sg) t 8 p + 1)) → aOK s_P X (d + 2) a_m84 38 [some (.ref 14), some (.ref 38), some (.int sI)] [.int (y_01 b)] G C S K0 := by
    intro G b e s2 h58 hy hn
    cases b with
    | true =>
      refine w_go z_hl [] [82] 30 e.1 ?_
      refine ⟨fun z => absurd z (by decide), fun _ => fun H hH => ?_⟩
      have f : y_fr G H [] [] := y_st (y_rf e.1) hH (by repeat (first | exact w_nil | refine w_cons (Or.inl (y_m rfl)) ?_ | refine w_cons (Or.inr (by assumption)) ?_)) (by repeat (first | exact w_nil | refine w_cons (Or.inl (y_m rfl)) ?_ | refine w_cons (Or.inr (by assumption)) ?_))
      refine c_lkT (tx_s_fr s2 f rfl rfl) (fun r H2 f2 er => ⟨fun n e => (by cases e), ?_⟩)
      exact T45 (y_sq (y_sq e f rfl rfl) f2 rfl rfl) (tx_s_fr (tx_s_fr s2 f rfl rfl) f2 rfl rfl) h58 (hy rfl) er
    | false =>
      refine w_go z_hl [] [82] 30 e.1 ?_
      refine ⟨fun _ => ⟨by decide, fun H hH => ?_⟩, fun z => absurd z (by decide)⟩
      have f : y_fr G H [] [] := y_st (y_rf e.1) hH (by repeat (first | exact w_nil | refine w_cons (Or.inl (y_m rfl)) ?_ | refine w_cons (Or.inr (by assumption)) ?_)) (by repeat (first | exact w_nil | refine w_cons (Or.inl (y_m rfl)) ?_ | refine w_cons (Or.inr (by assumption)) ?_))
      exact hK false _ H (y_mo (y_sq e f rfl rfl) rfl rfl) (tx_s_fr s2 f rfl rfl) (pr_rt_0 h58 (fun w => hn rfl ⟨by have := w.1; omega, w.2⟩))
  have T35 : ∀ {G : aH} {cI : Int32}, y_fr h G [1538] [41] → tx_s nd G sg t (pr_dq (y_N sg) t 8 p + 1) → pr_k (y_N sg) t (pr_dq (y_N sg) t 8 p) = 58 → cI.toInt = pr_k (y_N sg) t (pr_dq (y_N sg) t 8 p + 1) → aOK s_P X (d + 2) a_m84 35 [some (.ref 14), some (.ref 38), some (.int sI)] [.int cI] G C S K0 := by
    intro G cI e s2 h58 hc
    refine w_go z_hl [] [83] 20 e.1 ?_
    intro H hH
    have f : y_fr G H [] [] := y_st (y_rf e.1) hH (by repeat (first | exact w_nil | refine w_cons (Or.inl (y_m rfl)) ?_ | refine w_cons (Or.inr (by assumption)) ?_)) (by repeat (first | exact w_nil | refine w_cons (Or.inl (y_m rfl)) ?_ | refine w_cons (Or.inr (by assumption)) ?_))
    refine c_isDg (c := cI) f.1 (fun H2 f2 w => ⟨fun n e => (by cases e), ?_⟩) (fun H2 f2 w => ⟨fun n e => (by cases e), ?_⟩)
    · exact T38 true (y_sq (y_sq e f rfl rfl) f2 rfl rfl) (tx_s_fr (tx_s_fr s2 f rfl rfl) f2 rfl rfl) h58 (fun _ => ⟨by omega, by omega⟩) (fun z => absurd z (by decide))
    · exact T38 false (y_sq (y_sq e f rfl rfl) f2 rfl rfl) (tx_s_fr (tx_s_fr s2 f rfl rfl) f2 rfl rfl) h58 (fun z => absurd z (by decide)) (fun _ z => w ⟨by have := z.1; omega, by have := z.2; omega⟩)
  have T14 : ∀ {G : aH} {cI : Int32}, y_fr h G [1538] [41] → tx_s nd G sg t (pr_dq (y_N sg) t 8 p) → cI.toInt = pr_k (y_N sg) t (pr_dq (y_N sg) t 8 p) → aOK s_P X (d + 2) a_m84 14 [some (.ref 14), some (.ref 38), some (.int sI)] [.int cI] G C S K0 := by
    intro G cI e s2 hc
    obtain ⟨toJ, atJ, -, b1, b2, b3, b4, b5, b6, qt, -⟩ := id s2
    refine w_go z_hl [] [82] 40 e.1 ?_
    refine ⟨fun z => ?_, fun z => ⟨by decide, fun H hH => ?_⟩⟩
    · have y1 : cI.toInt = ((Int8.ofInt 58).toInt32).toInt := (y_ci .eq _ _).mp z
      rw [c58, hc] at y1
      have qt' := pr_k_t (by decide) y1
      have inc : (atJ + Int32.ofInt 1).toInt = ((pr_dq (y_N sg) t 8 p + 1 : Nat) : Int) := by rw [y_inc (by omega), b5]; rfl
      intro x hx _ _
      obtain rfl := y_fi b4 hx
      refine ⟨rfl, y_zini (by show 0 ≤ (atJ + Int32.ofInt 1).toInt; omega) (by show (atJ + Int32.ofInt 1).toInt ≤ 40; omega), fun H hH => ?_⟩
      have f : y_fr G H [1538] [] := y_st (y_mo (y_rf e.1) rfl rfl) hH (by repeat (first | exact w_nil | refine w_cons (Or.inl (y_m rfl)) ?_ | refine w_cons (Or.inr (by assumption)) ?_)) (by repeat (first | exact w_nil | refine w_cons (Or.inl (y_m rfl)) ?_ | refine w_cons (Or.inr (by assumption)) ?_))
      have s3 := tx_s_at s2 f rfl (hH.2.1 1538 _ rfl) inc (by omega)
      refine c_lkT s3 (fun r H2 f2 er => ⟨fun n e => (by cases e), ?_⟩)
      exact T35 (y_sq (y_sq e f rfl rfl) f2 rfl rfl) (tx_s_fr s3 f2 rfl rfl) y1 er
    · have y1 : ¬ (cI.toInt = ((Int8.ofInt 58).toInt32).toInt) := y_cif z
      rw [c58, hc] at y1
      have f : y_fr G H [] [] := y_st (y_rf e.1) hH (by repeat (first | exact w_nil | refine w_cons (Or.inl (y_m rfl)) ?_ | refine w_cons (Or.inr (by assumption)) ?_)) (by repeat (first | exact w_nil | refine w_cons (Or.inl (y_m rfl)) ?_ | refine w_cons (Or.inr (by assumption)) ?_))
      exact hK false _ H (y_mo (y_sq e f rfl rfl) rfl rfl) (tx_s_fr s2 f rfl rfl) (pr_rt_n y1)
  have T9 : ∀ {G : aH} {r : Int32}, y_fr h G [1538] [] → tx_s nd G sg t (pr_dq (y_N sg) t 8 p) → aOK s_P X (d + 2) a_m84 9 [some (.ref 14), some (.ref 38), some (.int sI)] [.int r, .int sI, .ref 43] G C S K0 := by
    intro G r e s2
    refine w_go z_hl [] [82] 30 e.1 ?_
    refine ⟨⟨by omega, by omega⟩, y_l32 _, fun l hl len bb => fun H hH => ?_⟩
    have f : y_fr G H [] [41] := y_st (y_mo (y_rf e.1) rfl rfl) hH (by repeat (first | exact w_nil | refine w_cons (Or.inl (y_m rfl)) ?_ | refine w_cons (Or.inr (by assumption)) ?_)) (by repeat (first | exact w_nil | refine w_cons (Or.inl (y_m rfl)) ?_ | refine w_cons (Or.inr (by assumption)) ?_))
    refine c_lkT (tx_s_fr s2 f rfl rfl) (fun r H2 f2 er => ⟨fun n e => (by cases e), ?_⟩)
    exact T14 (y_sq (y_sq (y_mo e rfl rfl) f rfl rfl) f2 rfl rfl) (tx_s_fr (tx_s_fr s2 f rfl rfl) f2 rfl rfl) er
  refine w_go z_hl [] [85] 30 hr ?_
  intro H hH
  have f : y_fr h H [] [] := y_st (y_rf hr) hH (by repeat (first | exact w_nil | refine w_cons (Or.inl (y_m rfl)) ?_ | refine w_cons (Or.inr (by assumption)) ?_)) (by repeat (first | exact w_nil | refine w_cons (Or.inl (y_m rfl)) ?_ | refine w_cons (Or.inr (by assumption)) ?_))
  refine c_number (d := d) (tx_s_fr s f rfl rfl) (fun r H2 f2 s3 => ⟨fun n e => (by cases e), ?_⟩)
  exact T9 (y_sq (y_mo f rfl rfl) f2 rfl rfl) s3
end PPT3
end PT33ibz
