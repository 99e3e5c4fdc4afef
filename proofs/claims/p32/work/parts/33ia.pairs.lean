section PT33i
/-! ===== v5: methods that leave what is held alike (laid by wip/tools/mk33i.py) ===== -/
theorem n_a28 {X : aX} : n_toldI X 200 a_m28 2 1 false := n_ctxW (n := 1) (m := 0) (b := false) (fun v => z_x10_p n_Wv_p n_h9) rfl rfl rfl (by decide +kernel) (by decide +kernel) rfl rfl (by decide +kernel) (by decide +kernel) (by decide +kernel)
theorem n_a33 {X : aX} : n_toldI X 200 a_m33 2 1 false := n_ctxW (n := 1) (m := 0) (b := false) (fun v => z_x18_p n_Wv_p n_h9) rfl rfl rfl (by decide +kernel) (by decide +kernel) rfl rfl (by decide +kernel) (by decide +kernel) (by decide +kernel)
theorem n_a46 {X : aX} : n_toldI X 200 a_m46 2 1 false := n_ctxW (n := 1) (m := 2) (b := false) (fun v => z_x19_p n_Wv_p n_h9) rfl rfl rfl (by decide +kernel) (by decide +kernel) rfl rfl (by decide +kernel) (by decide +kernel) (by decide +kernel)
theorem n_a47 {X : aX} : n_toldI X 200 a_m47 2 0 false := n_ctxW (n := 0) (m := 2) (b := false) (fun v => z_x21_p n_Wv_p n_h9) rfl rfl rfl (by decide +kernel) (by decide +kernel) rfl rfl (by decide +kernel) (by decide +kernel) (by decide +kernel)
theorem n_a49 {X : aX} : n_toldI X 200 a_m49 2 2 false := n_ctxW (n := 2) (m := 0) (b := false) (fun v => z_x23_p n_Wv_p n_h9) rfl rfl rfl (by decide +kernel) (by decide +kernel) rfl rfl (by decide +kernel) (by decide +kernel) (by decide +kernel)
theorem n_a52 {X : aX} : n_toldI X 200 a_m52 2 1 false := n_ctxW (n := 1) (m := 3) (b := false) (fun v => z_x28_p n_Wv_p n_h9) rfl rfl rfl (by decide +kernel) (by decide +kernel) rfl rfl (by decide +kernel) (by decide +kernel) (by decide +kernel)
theorem n_a54 {X : aX} : n_toldI X 200 a_m54 2 2 false := n_ctxW (n := 2) (m := 0) (b := false) (fun v => z_x30_p n_Wv_p n_h9) rfl rfl rfl (by decide +kernel) (by decide +kernel) rfl rfl (by decide +kernel) (by decide +kernel) (by decide +kernel)
theorem n_a57 {X : aX} : n_told X 200 a_m57 2 2 false := n_ctx0 (n := 2) (m := 1) (b := false) (z_x31_s (y_jx_l y_JA_x)) rfl rfl rfl (by decide +kernel) (by decide +kernel) rfl rfl (by decide +kernel) (by decide +kernel) (by decide +kernel)
theorem n_a58 {X : aX} : n_toldI X 200 a_m58 2 1 false := n_ctxW (n := 1) (m := 2) (b := false) (fun v => z_x32_p n_Wv_p n_h9) rfl rfl rfl (by decide +kernel) (by decide +kernel) rfl rfl (by decide +kernel) (by decide +kernel) (by decide +kernel)
theorem n_a61 {X : aX} : n_told X 200 a_m61 2 3 false := n_ctx0 (n := 3) (m := 0) (b := false) (z_x35_s (y_jx_l y_JA_x)) rfl rfl rfl (by decide +kernel) (by decide +kernel) rfl rfl (by decide +kernel) (by decide +kernel) (by decide +kernel)
theorem n_a66 {X : aX} : n_toldI X 200 a_m66 2 3 false := n_ctxW (n := 3) (m := 3) (b := false) (fun v => z_x37_p n_Wv_p n_h9) rfl rfl rfl (by decide +kernel) (by decide +kernel) rfl rfl (by decide +kernel) (by decide +kernel) (by decide +kernel)
theorem n_a68 {X : aX} : n_toldI X 200 a_m68 2 1 false := n_ctxW (n := 1) (m := 2) (b := false) (fun v => z_x39_p n_Wv_p n_h9) rfl rfl rfl (by decide +kernel) (by decide +kernel) rfl rfl (by decide +kernel) (by decide +kernel) (by decide +kernel)
theorem n_a71 {X : aX} : n_toldI X 200 a_m71 2 1 false := n_ctxW (n := 1) (m := 6) (b := false) (fun v => z_x40_p n_Wv_p n_h9) rfl rfl rfl (by decide +kernel) (by decide +kernel) rfl rfl (by decide +kernel) (by decide +kernel) (by decide +kernel)
theorem n_a92 {X : aX} : n_toldI X 200 a_m92 2 1 false := n_ctxW (n := 1) (m := 0) (b := false) (fun v => z_x463_p n_Wv_p n_h9) rfl rfl rfl (by decide +kernel) (by decide +kernel) rfl rfl (by decide +kernel) (by decide +kernel) (by decide +kernel)
theorem n_a112 {X : aX} : n_toldI X 200 a_m112 2 2 false := n_ctxW (n := 2) (m := 1) (b := false) (fun v => z_x464_p n_Wv_p n_h9) rfl rfl rfl (by decide +kernel) (by decide +kernel) rfl rfl (by decide +kernel) (by decide +kernel) (by decide +kernel)
theorem n_a113 {X : aX} : n_toldI X 200 a_m113 2 2 false := n_ctxW (n := 2) (m := 0) (b := false) (fun v => z_x465_p n_Wv_p n_h9) rfl rfl rfl (by decide +kernel) (by decide +kernel) rfl rfl (by decide +kernel) (by decide +kernel) (by decide +kernel)
theorem n_a114 {X : aX} : n_toldI X 200 a_m114 2 1 false := n_ctxW (n := 1) (m := 3) (b := false) (fun v => z_x466_p n_Wv_p n_h9) rfl rfl rfl (by decide +kernel) (by decide +kernel) rfl rfl (by decide +kernel) (by decide +kernel) (by decide +kernel)
theorem n_a115 {X : aX} : n_told X 200 a_m115 2 4 false := n_ctx0 (n := 4) (m := 1) (b := false) (z_x469_s (y_jx_l y_JA_x)) rfl rfl rfl (by decide +kernel) (by decide +kernel) rfl rfl (by decide +kernel) (by decide +kernel) (by decide +kernel)
theorem n_a128 {X : aX} : n_toldI X 200 a_m128 2 2 false := n_ctxW (n := 2) (m := 1) (b := false) (fun v => z_x491_p n_Wv_p n_h9) rfl rfl rfl (by decide +kernel) (by decide +kernel) rfl rfl (by decide +kernel) (by decide +kernel) (by decide +kernel)
theorem n_a137 {X : aX} : n_toldI X 200 a_m137 2 2 false := n_ctxW (n := 2) (m := 4) (b := false) (fun v => z_x493_p n_Wv_p n_h9) rfl rfl rfl (by decide +kernel) (by decide +kernel) rfl rfl (by decide +kernel) (by decide +kernel) (by decide +kernel)
theorem n_a139 {X : aX} : n_toldI X 200 a_m139 2 2 false := n_ctxW (n := 2) (m := 5) (b := false) (fun v => z_x496_p n_Wv_p n_h9) rfl rfl rfl (by decide +kernel) (by decide +kernel) rfl rfl (by decide +kernel) (by decide +kernel) (by decide +kernel)
theorem n_a143 {X : aX} : n_told X 200 a_m143 2 4 false := n_ctx0 (n := 4) (m := 0) (b := false) (z_x497_s (y_jx_l y_JA_x)) rfl rfl rfl (by decide +kernel) (by decide +kernel) rfl rfl (by decide +kernel) (by decide +kernel) (by decide +kernel)
theorem n_a145 {X : aX} : n_told X 200 a_m145 2 2 false := n_ctx0 (n := 2) (m := 3) (b := false) (z_x498_s (y_jx_l y_JA_x)) rfl rfl rfl (by decide +kernel) (by decide +kernel) rfl rfl (by decide +kernel) (by decide +kernel) (by decide +kernel)
theorem n_a146 {X : aX} : n_toldI X 200 a_m146 2 3 false := n_ctxW (n := 3) (m := 9) (b := false) (fun v => z_x500_p n_Wv_p n_h9) rfl rfl rfl (by decide +kernel) (by decide +kernel) rfl rfl (by decide +kernel) (by decide +kernel) (by decide +kernel)
theorem n_a149 {X : aX} : n_told X 200 a_m149 2 5 false := n_ctx0 (n := 5) (m := 2) (b := false) (z_x501_s (y_jx_l y_JA_x)) rfl rfl rfl (by decide +kernel) (by decide +kernel) rfl rfl (by decide +kernel) (by decide +kernel) (by decide +kernel)
theorem n_a153 {X : aX} : n_told X 200 a_m153 2 2 false := n_ctx0 (n := 2) (m := 0) (b := false) (z_x502_s (y_jx_l y_JA_x)) rfl rfl rfl (by decide +kernel) (by decide +kernel) rfl rfl (by decide +kernel) (by decide +kernel) (by decide +kernel)
theorem n_a156 {X : aX} : n_told X 200 a_m156 2 2 false := n_ctx0 (n := 2) (m := 3) (b := false) (z_x503_s (y_jx_l y_JA_x)) rfl rfl rfl (by decide +kernel) (by decide +kernel) rfl rfl (by decide +kernel) (by decide +kernel) (by decide +kernel)
theorem n_a159 {X : aX} : n_told X 200 a_m159 2 1 false := n_ctx0 (n := 1) (m := 2) (b := false) (z_x507_s (y_jx_l y_JA_x)) rfl rfl rfl (by decide +kernel) (by decide +kernel) rfl rfl (by decide +kernel) (by decide +kernel) (by decide +kernel)
theorem n_a162 {X : aX} : n_told X 200 a_m162 2 1 false := n_ctx0 (n := 1) (m := 5) (b := false) (z_x508_s (y_jx_l y_JA_x)) rfl rfl rfl (by decide +kernel) (by decide +kernel) rfl rfl (by decide +kernel) (by decide +kernel) (by decide +kernel)
theorem n_a168 {X : aX} : n_told X 200 a_m168 2 1 false := n_ctx0 (n := 1) (m := 0) (b := false) (z_x511_s (y_jx_l y_JA_x)) rfl rfl rfl (by decide +kernel) (by decide +kernel) rfl rfl (by decide +kernel) (by decide +kernel) (by decide +kernel)
theorem n_a183 {X : aX} : n_told X 200 a_m183 155 1 false := by
  intro us h C S K0 hl hb hI hk
  obtain ⟨hr, ⟨hJ, hS, hC⟩, hday⟩ := hI
  match us, hl with
  | [u0], _ => exact p_weight hr hJ (fun r H hf => hk r H ⟨hf.1, ⟨(y_J_fr hf rfl rfl hJ), (j_say_e hf rfl rfl hS), (j_cost_e hf rfl rfl hC)⟩, t_day_fr hf rfl hday⟩ (n_fk_c (ex := []) hf rfl) (n_fk_m hf rfl))
theorem n_a187 {X : aX} : n_told X 200 a_m187 155 1 false := by
  intro us h C S K0 hl hb hI hk
  obtain ⟨hr, ⟨hJ, hS, hC⟩, hday⟩ := hI
  match us, hl with
  | [u0], _ => exact p_chance hr hJ (fun r H hf q0 => hk r H ⟨hf.1, ⟨q0, (j_say_e hf rfl rfl hS), (j_cost_e hf rfl rfl hC)⟩, t_day_fr hf rfl hday⟩ (n_fk_c (ex := []) hf rfl) (n_fk_m hf rfl))
theorem n_a198 {X : aX} : n_told X 200 a_m198 155 1 false := by
  intro us h C S K0 hl hb hI hk
  obtain ⟨hr, ⟨hJ, hS, hC⟩, hday⟩ := hI
  match us, hl with
  | [u0], _ => exact p_odds hr hJ (fun r H hf q0 => hk r H ⟨hf.1, ⟨q0, (j_say_e hf rfl rfl hS), (j_cost_e hf rfl rfl hC)⟩, t_day_fr hf rfl hday⟩ (n_fk_c (ex := []) hf rfl) (n_fk_m hf rfl))
theorem n_a199 {X : aX} : n_told X 200 a_m199 155 0 false := by
  intro us h C S K0 hl hb hI hk
  obtain ⟨hr, ⟨hJ, hS, hC⟩, hday⟩ := hI
  match us, hl with
  | [], _ => exact p_likely hr hJ (fun r H hf q0 => hk r H ⟨hf.1, ⟨q0, (j_say_e hf rfl rfl hS), (j_cost_e hf rfl rfl hC)⟩, t_day_fr hf rfl hday⟩ (n_fk_c (ex := []) hf rfl) (n_fk_m hf rfl))
theorem n_a200 {X : aX} : n_told X 200 a_m200 155 2 false := by
  intro us h C S K0 hl hb hI hk
  obtain ⟨hr, ⟨hJ, hS, hC⟩, hday⟩ := hI
  match us, hl with
  | [u0, u1], _ => exact p_moves hr hJ (fun r H hf q0 => hk r H ⟨hf.1, ⟨q0, (j_say_e hf rfl rfl hS), (j_cost_e hf rfl rfl hC)⟩, t_day_fr hf rfl hday⟩ (n_fk_c (ex := []) hf rfl) (n_fk_m hf rfl))
theorem n_a202 {X : aX} : n_told X 200 a_m202 155 1 false := by
  intro us h C S K0 hl hb hI hk
  obtain ⟨hr, ⟨hJ, hS, hC⟩, hday⟩ := hI
  match us, hl with
  | [u0], _ => exact p_most hr hJ (fun r H hf q0 => hk r H ⟨hf.1, ⟨q0, (j_say_e hf rfl rfl hS), (j_cost_e hf rfl rfl hC)⟩, t_day_fr hf rfl hday⟩ (n_fk_c (ex := []) hf rfl) (n_fk_m hf rfl))
theorem n_a204 {X : aX} : n_told X 200 a_m204 155 2 false := by
  intro us h C S K0 hl hb hI hk
  obtain ⟨hr, ⟨hJ, hS, hC⟩, hday⟩ := hI
  match us, hl with
  | [u0, u1], _ => exact p_worth hr hJ (fun r H hf q0 => hk r H ⟨hf.1, ⟨q0, (j_say_e hf rfl rfl hS), (j_cost_e hf rfl rfl hC)⟩, t_day_fr hf rfl hday⟩ (n_fk_c (ex := []) hf rfl) (n_fk_m hf rfl))
theorem n_a206 {X : aX} : n_told X 200 a_m206 155 2 false := by
  intro us h C S K0 hl hb hI hk
  obtain ⟨hr, ⟨hJ, hS, hC⟩, hday⟩ := hI
  match us, hl with
  | [u0, u1], _ => exact p_cost hr hJ hC (fun r H hf q0 => hk r H ⟨hf.1, ⟨(t_J161 hf hJ), (j_say_e hf rfl rfl hS), q0⟩, t_day_fr hf rfl hday⟩ (n_fk_c (ex := []) hf rfl) (n_fk_m hf rfl))
theorem n_a207 {X : aX} : n_told X 200 a_m207 155 1 false := by
  intro us h C S K0 hl hb hI hk
  obtain ⟨hr, ⟨hJ, hS, hC⟩, hday⟩ := hI
  match us, hl with
  | [u0], _ => exact p_need hr hJ hC (fun r H hf q0 => hk r H ⟨hf.1, ⟨q0, (j_say_e hf rfl rfl hS), (j_cost_e hf rfl rfl hC)⟩, t_day_fr hf rfl hday⟩ (n_fk_c (ex := []) hf rfl) (n_fk_m hf rfl))
theorem n_a208 {X : aX} : n_told X 200 a_m208 155 3 false := by
  intro us h C S K0 hl hb hI hk
  obtain ⟨hr, ⟨hJ, hS, hC⟩, hday⟩ := hI
  match us, hl with
  | [u0, u1, u2], _ => exact p_apart hr hJ (fun r H hf q0 => hk r H ⟨hf.1, ⟨q0, (j_say_e hf rfl rfl hS), (j_cost_e hf rfl rfl hC)⟩, t_day_fr hf rfl hday⟩ (n_fk_c (ex := []) hf rfl) (n_fk_m hf rfl))
theorem n_a213 {X : aX} : n_told X 200 a_m213 155 3 false := by
  intro us h C S K0 hl hb hI hk
  obtain ⟨hr, ⟨hJ, hS, hC⟩, hday⟩ := hI
  match us, hl with
  | [u0, u1, u2], _ => exact p_even hr hJ (fun r H hf q0 => hk r H ⟨hf.1, ⟨q0, (j_say_e hf rfl rfl hS), (j_cost_e hf rfl rfl hC)⟩, t_day_fr hf rfl hday⟩ (n_fk_c (ex := []) hf rfl) (n_fk_m hf rfl))
theorem n_a214 {X : aX} : n_told X 200 a_m214 155 1 false := by
  intro us h C S K0 hl hb hI hk
  obtain ⟨hr, ⟨hJ, hS, hC⟩, hday⟩ := hI
  match us, hl with
  | [u0], _ => exact p_joined hr hJ (fun r H hf q0 => hk r H ⟨hf.1, ⟨q0, (j_say_e hf rfl rfl hS), (j_cost_e hf rfl rfl hC)⟩, t_day_fr hf rfl hday⟩ (n_fk_c (ex := []) hf rfl) (n_fk_m hf rfl))
theorem n_a217 {X : aX} : n_told X 200 a_m217 155 1 false := by
  intro us h C S K0 hl hb hI hk
  obtain ⟨hr, ⟨hJ, hS, hC⟩, hday⟩ := hI
  match us, hl with
  | [u0], _ => exact p_bounds hr hJ (fun r H hf q0 => hk r H ⟨hf.1, ⟨q0, (j_say_e hf rfl rfl hS), (j_cost_e hf rfl rfl hC)⟩, t_day_fr hf rfl hday⟩ (n_fk_c (ex := []) hf rfl) (n_fk_m hf rfl))
theorem n_a233 {X : aX} : n_told X 200 a_m233 155 1 false := by
  intro us h C S K0 hl hb hI hk
  obtain ⟨hr, ⟨hJ, hS, hC⟩, hday⟩ := hI
  match us, hl with
  | [u0], _ => exact p_so hr hJ hS (fun r H hf q0 q1 => hk r H ⟨hf.1, ⟨q0, q1, (j_cost_e hf rfl rfl hC)⟩, t_day_fr hf rfl hday⟩ (n_fk_c (ex := []) hf rfl) (n_fk_m hf rfl))
theorem n_a246 {X : aX} : n_told X 200 a_m246 155 2 false := by
  intro us h C S K0 hl hb hI hk
  obtain ⟨hr, ⟨hJ, hS, hC⟩, hday⟩ := hI
  match us, hl with
  | [u0, u1], _ => exact p_term hr hJ hS (fun r H hf q0 q1 => hk r H ⟨hf.1, ⟨q0, q1, (j_cost_e hf rfl rfl hC)⟩, t_day_fr hf rfl hday⟩ (n_fk_c (ex := []) hf rfl) (n_fk_m hf rfl))
theorem n_a247 {X : aX} : n_told X 200 a_m247 155 2 false := by
  intro us h C S K0 hl hb hI hk
  obtain ⟨hr, ⟨hJ, hS, hC⟩, hday⟩ := hI
  match us, hl with
  | [u0, u1], _ => exact p_slip hr hJ hS (fun r H hf q0 q1 => hk r H ⟨hf.1, ⟨q0, q1, (j_cost_e hf rfl rfl hC)⟩, t_day_fr hf rfl hday⟩ (n_fk_c (ex := []) hf rfl) (n_fk_m hf rfl))
theorem n_a248 {X : aX} : n_told X 200 a_m248 155 1 false := by
  intro us h C S K0 hl hb hI hk
  obtain ⟨hr, ⟨hJ, hS, hC⟩, hday⟩ := hI
  match us, hl with
  | [u0], _ => exact p_which hr hJ hS (fun r H hf q0 q1 => hk r H ⟨hf.1, ⟨q0, q1, (j_cost_e hf rfl rfl hC)⟩, t_day_fr hf rfl hday⟩ (n_fk_c (ex := []) hf rfl) (n_fk_m hf rfl))
theorem n_a249 {X : aX} : n_told X 200 a_m249 155 4 false := by
  intro us h C S K0 hl hb hI hk
  obtain ⟨hr, ⟨hJ, hS, hC⟩, hday⟩ := hI
  match us, hl with
  | [u0, u1, u2, u3], _ => exact p_span hr hJ (fun r H hf q0 => hk r H ⟨hf.1, ⟨q0, (j_say_e hf rfl rfl hS), (j_cost_e hf rfl rfl hC)⟩, t_day_fr hf rfl hday⟩ (n_fk_c (ex := []) hf rfl) (n_fk_m hf rfl))
theorem n_a256 {X : aX} : n_told X 200 a_m256 155 2 false := by
  intro us h C S K0 hl hb hI hk
  obtain ⟨hr, ⟨hJ, hS, hC⟩, hday⟩ := hI
  match us, hl with
  | [u0, u1], _ => exact p_hear hr hJ (fun r H hf q0 => hk r H ⟨hf.1, ⟨q0, (j_say_e hf rfl rfl hS), (j_cost_e hf rfl rfl hC)⟩, t_day_fr hf rfl hday⟩ (n_fk_c (ex := []) hf rfl) (n_fk_m hf rfl))
theorem n_a262 {X : aX} : n_told X 200 a_m262 155 2 false := by
  intro us h C S K0 hl hb hI hk
  obtain ⟨hr, ⟨hJ, hS, hC⟩, hday⟩ := hI
  match us, hl with
  | [u0, u1], _ => exact p_errs hr hJ (fun r H hf q0 => hk r H ⟨hf.1, ⟨q0, (j_say_e hf rfl rfl hS), (j_cost_e hf rfl rfl hC)⟩, t_day_fr hf rfl hday⟩ (n_fk_c (ex := []) hf rfl) (n_fk_m hf rfl))
theorem n_a263 {X : aX} : n_told X 200 a_m263 155 2 false := by
  intro us h C S K0 hl hb hI hk
  obtain ⟨hr, ⟨hJ, hS, hC⟩, hday⟩ := hI
  match us, hl with
  | [u0, u1], _ => exact p_order hr hJ (fun r H hf q0 => hk r H ⟨hf.1, ⟨q0, (j_say_e hf rfl rfl hS), (j_cost_e hf rfl rfl hC)⟩, t_day_fr hf rfl hday⟩ (n_fk_c (ex := []) hf rfl) (n_fk_m hf rfl))
theorem n_a265 {X : aX} : n_told X 200 a_m265 155 4 false := by
  intro us h C S K0 hl hb hI hk
  obtain ⟨hr, ⟨hJ, hS, hC⟩, hday⟩ := hI
  match us, hl with
  | [u0, u1, u2, u3], _ => exact p_list hr (fun r H hf => hk r H ⟨hf.1, ⟨(y_J_fr hf rfl rfl hJ), (j_say_e hf rfl rfl hS), (j_cost_e hf rfl rfl hC)⟩, t_day_fr hf rfl hday⟩ (n_fk_c (ex := []) hf rfl) (n_fk_m hf rfl))
theorem n_a267 {X : aX} : n_told X 200 a_m267 155 2 false := by
  intro us h C S K0 hl hb hI hk
  obtain ⟨hr, ⟨hJ, hS, hC⟩, hday⟩ := hI
  match us, hl with
  | [u0, u1], _ => exact p_many hr (fun H hf => hk _ H ⟨hf.1, ⟨(y_J_fr hf rfl rfl hJ), (j_say_e hf rfl rfl hS), (j_cost_e hf rfl rfl hC)⟩, t_day_fr hf rfl hday⟩ (n_fk_c (ex := []) hf rfl) (n_fk_m hf rfl))
theorem n_a268 {X : aX} : n_told X 200 a_m268 155 3 false := by
  intro us h C S K0 hl hb hI hk
  obtain ⟨hr, ⟨hJ, hS, hC⟩, hday⟩ := hI
  match us, hl with
  | [u0, u1, u2], _ => exact p_test hr hJ (fun r H hf q0 => hk r H ⟨hf.1, ⟨q0, (j_say_e hf rfl rfl hS), (j_cost_e hf rfl rfl hC)⟩, t_day_fr hf rfl hday⟩ (n_fk_c (ex := []) hf rfl) (n_fk_m hf rfl))
theorem n_a270 {X : aX} : n_told X 200 a_m270 155 5 false := by
  intro us h C S K0 hl hb hI hk
  obtain ⟨hr, ⟨hJ, hS, hC⟩, hday⟩ := hI
  match us, hl with
  | [u0, u1, u2, u3, u4], _ => exact p_land hr hJ (fun r H hf q0 => hk r H ⟨hf.1, ⟨q0, (j_say_e hf rfl rfl hS), (j_cost_e hf rfl rfl hC)⟩, t_day_fr hf rfl hday⟩ (n_fk_c (ex := []) hf rfl) (n_fk_m hf rfl))
theorem n_a271 {X : aX} : n_told X 200 a_m271 155 2 false := by
  intro us h C S K0 hl hb hI hk
  obtain ⟨hr, ⟨hJ, hS, hC⟩, hday⟩ := hI
  match us, hl with
  | [u0, u1], _ => exact p_mark hr hJ (fun r H hf q0 => hk r H ⟨hf.1, ⟨q0, (j_say_e hf rfl rfl hS), (j_cost_e hf rfl rfl hC)⟩, t_day_fr hf rfl hday⟩ (n_fk_c (ex := []) hf rfl) (n_fk_m hf rfl))
theorem n_a272 {X : aX} : n_told X 200 a_m272 155 2 false := by
  intro us h C S K0 hl hb hI hk
  obtain ⟨hr, ⟨hJ, hS, hC⟩, hday⟩ := hI
  match us, hl with
  | [u0, u1], _ => exact p_rare hr hJ (fun r H hf => hk r H ⟨hf.1, ⟨(y_J_fr hf rfl rfl hJ), (j_say_e hf rfl rfl hS), (j_cost_e hf rfl rfl hC)⟩, t_day_fr hf rfl hday⟩ (n_fk_c (ex := []) hf rfl) (n_fk_m hf rfl))
theorem n_a274 {X : aX} : n_told X 200 a_m274 155 1 false := by
  intro us h C S K0 hl hb hI hk
  obtain ⟨hr, ⟨hJ, hS, hC⟩, hday⟩ := hI
  match us, hl with
  | [u0], _ => exact p_shifts hr (fun r H hf => hk r H ⟨hf.1, ⟨(y_J_fr hf rfl rfl hJ), (j_say_e hf rfl rfl hS), (j_cost_e hf rfl rfl hC)⟩, t_day_fr hf rfl hday⟩ (n_fk_c (ex := []) hf rfl) (n_fk_m hf rfl))
theorem n_a278 {X : aX} : n_told X 200 a_m278 155 1 false := by
  intro us h C S K0 hl hb hI hk
  obtain ⟨hr, ⟨hJ, hS, hC⟩, hday⟩ := hI
  match us, hl with
  | [u0], _ => exact p_enough hr (fun r H hf => hk r H ⟨hf.1, ⟨(y_J_fr hf rfl rfl hJ), (j_say_e hf rfl rfl hS), (j_cost_e hf rfl rfl hC)⟩, t_day_fr hf rfl hday⟩ (n_fk_c (ex := []) hf rfl) (n_fk_m hf rfl))
theorem n_a281 {X : aX} : n_told X 200 a_m281 155 1 false := by
  intro us h C S K0 hl hb hI hk
  obtain ⟨hr, ⟨hJ, hS, hC⟩, hday⟩ := hI
  match us, hl with
  | [u0], _ => exact p_count hr hJ (fun r H hf => hk r H ⟨hf.1, ⟨(y_J_fr hf rfl rfl hJ), (j_say_e hf rfl rfl hS), (j_cost_e hf rfl rfl hC)⟩, t_day_fr hf rfl hday⟩ (n_fk_c (ex := []) hf rfl) (n_fk_m hf rfl))
theorem n_a283 {X : aX} : n_told X 200 a_m283 155 2 false := by
  intro us h C S K0 hl hb hI hk
  obtain ⟨hr, ⟨hJ, hS, hC⟩, hday⟩ := hI
  match us, hl with
  | [u0, u1], _ => exact p_of hr hJ (fun r H hf => hk r H ⟨hf.1, ⟨(y_J_fr hf rfl rfl hJ), (j_say_e hf rfl rfl hS), (j_cost_e hf rfl rfl hC)⟩, t_day_fr hf rfl hday⟩ (n_fk_c (ex := []) hf rfl) (n_fk_m hf rfl))
theorem n_a287 {X : aX} : n_toldL X 200 a_m287 155 1 false := by
  intro us h C S K0 hl hb hI hk
  obtain ⟨hr, ⟨hJ, hS, hC⟩, hday⟩ := hI
  match us, hl with
  | [u0], _ => exact p_row hr (fun r H hf => hk r H ⟨hf.1, ⟨(y_J_fr hf rfl rfl hJ), (j_say_e hf rfl rfl hS), (j_cost_e hf rfl rfl hC)⟩, t_day_fr hf rfl hday⟩ (n_fk_c (ex := []) hf rfl) (n_fk_m hf rfl))
theorem n_I_out {h H : aH} (e : y_fr h H [] [195]) (q : n_I h) : n_I H := n_same_I (n_fk_c (ex := []) e rfl) (n_fk_m e rfl) (t_I_out e q.1) q
theorem n_I_app {H l : aH} (q : n_I H) : n_I (H ++ l) := by
  have hr := q.1.1
  have hlen : 195 < H.length := by
    obtain ⟨e, h1, -⟩ := hr.1 195 _ rfl
    exact (List.getElem?_eq_some_iff.mp h1).1
  have hg : ∀ o, o < 196 → (H ++ l)[o]? = H[o]? := fun o ho => List.getElem?_append_left (by omega)
  have hf : ∀ k, k < 196 * 128 → w_f (H ++ l) k = w_f H k := by
    intro k hk
    unfold w_f
    rw [hg _ (by omega)]
  have ha : ∀ o, o < 196 → w_a (H ++ l) o = w_a H o := by
    intro o ho
    unfold w_a
    rw [hg _ ho]
  refine n_same_I ⟨fun k hk => hf k ?_, fun o ho => ha o ?_⟩ ⟨fun p hp => hf p.2 ?_, fun o ho => ha o ?_, hf 19600 (by decide)⟩ (t_I_app q.1) q
  · have : ∀ k ∈ nC, k < 196 * 128 := by decide
    exact this k hk
  · have : ∀ o ∈ nCA, o < 196 := by decide
    exact this o ho
  · have : ∀ p ∈ nM, p.2 < 196 * 128 := by decide
    exact this p hp
  · have : ∀ o ∈ nMA, o < 196 := by decide
    exact this o ho
theorem n_S169 {X : aX} : n_S X n_I 169 2 := by
  refine ⟨a_m169, rfl, rfl, rfl, fun us h C S K0 hl hI hk => ?_⟩
  match us, hl with
  | [a, b], _ =>
    have T8 : ∀ {G : aH} {r : Int32}, y_fr h G [] [] → aOK s_P X 201 a_m169 8 [some (.ref 2), some (.int a), some (.int b), some (.ref 197), none] [.int r, .int (Int32.ofInt 0), .ref 197] G C S K0 := by
      intro G r e
      refine w_go z_hl [] [] 30 e.1 ?_
      exact ⟨⟨by decide, by decide⟩, y_l64 _, fun l hl len bb => fun H hH => hk _ H C S (n_I_out (y_st (y_mo e rfl rfl) hH (by repeat (first | exact w_nil | refine w_cons (Or.inl (y_m rfl)) ?_ | refine w_cons (Or.inr (by assumption)) ?_)) (by repeat (first | exact w_nil | refine w_cons (Or.inl (y_m rfl)) ?_ | refine w_cons (Or.inr (by assumption)) ?_))) hI) (by omega) (by omega)⟩
    show aOK s_P X 201 a_m169 0 [some (.ref 2), some (.int a), some (.int b), some (.ref 197), none] [] h C S K0
    refine aOK_op rfl rfl ?_
    refine aOK_op rfl rfl ?_
    refine aOK_op rfl rfl ?_
    refine aOK_op rfl rfl ?_
    refine aOK_op rfl rfl ?_
    have hinv : a_inv s_P (.invokevirtual 7) (18, 170, 11, 1305159) [.int b, .int a, .ref 2, .int (Int32.ofInt 0), .ref 197] h = some (a_m170, [.ref 2, .int a, .int b], [.int (Int32.ofInt 0), .ref 197]) := by
      have hrc := l_recv hI.1.1 (r0 := 2) (ci := 11) rfl
      show (if a_recv h (.ref 2) 11 = true ∧ _ ∧ _ then some _ else none) = _
      rw [if_pos ⟨hrc, Nat.le_of_ble_eq_true rfl, Nat.le_of_ble_eq_true rfl⟩]
      rfl
    refine aOK_call rfl (by cases X <;> rfl) rfl hinv ?_
    show aOK s_P X (198 + 2) a_m170 0 [some (.ref 2), some (.int a), some (.int b)] [] h C S _
    refine c_of hI.1.1 (fun r H e => Or.inr ⟨fun n q => (by cases q), ?_⟩) (fun H e => Or.inl ⟨⟨0, rfl⟩, rfl, hk _ _ _ _ (n_I_app (n_I_out (y_mo e rfl rfl) hI)) (by omega) (by omega)⟩)
    exact T8 e
theorem n_S171 {X : aX} : n_S X n_I 171 1 := by
  refine ⟨a_m171, rfl, rfl, rfl, fun us h C S K0 hl hI hk => ?_⟩
  match us, hl with
  | [a], _ =>
    have T7 : ∀ {G : aH} {r : Int64}, y_fr h G [] [] → aOK s_P X 201 a_m171 7 [some (.ref 2), some (.int a), some (.ref 197), none] [.long r, .int (Int32.ofInt 0), .ref 197] G C S K0 := by
      intro G r e
      refine w_go z_hl [] [] 30 e.1 ?_
      exact ⟨⟨by decide, by decide⟩, y_l64 _, fun l hl len bb => fun H hH => hk _ H C S (n_I_out (y_st (y_mo e rfl rfl) hH (by repeat (first | exact w_nil | refine w_cons (Or.inl (y_m rfl)) ?_ | refine w_cons (Or.inr (by assumption)) ?_)) (by repeat (first | exact w_nil | refine w_cons (Or.inl (y_m rfl)) ?_ | refine w_cons (Or.inr (by assumption)) ?_))) hI) (by omega) (by omega)⟩
    show aOK s_P X 201 a_m171 0 [some (.ref 2), some (.int a), some (.ref 197), none] [] h C S K0
    refine aOK_op rfl rfl ?_
    refine aOK_op rfl rfl ?_
    refine aOK_op rfl rfl ?_
    refine aOK_op rfl rfl ?_
    have hinv : a_inv s_P (.invokevirtual 15) (18, 172, 11, 1105233) [.int a, .ref 2, .int (Int32.ofInt 0), .ref 197] h = some (a_m172, [.ref 2, .int a], [.int (Int32.ofInt 0), .ref 197]) := by
      have hrc := l_recv hI.1.1 (r0 := 2) (ci := 11) rfl
      show (if a_recv h (.ref 2) 11 = true ∧ _ ∧ _ then some _ else none) = _
      rw [if_pos ⟨hrc, Nat.le_of_ble_eq_true rfl, Nat.le_of_ble_eq_true rfl⟩]
      rfl
    refine aOK_call rfl (by cases X <;> rfl) rfl hinv ?_
    show aOK s_P X 200 a_m172 0 [some (.ref 2), some (.int a)] [] h C S _
    refine c_row hI.1.1 (fun r H e => Or.inr ⟨fun n q => (by cases q), ?_⟩) (fun H e => Or.inl ⟨⟨0, rfl⟩, rfl, hk _ _ _ _ (n_I_app (n_I_out (y_mo e rfl rfl) hI)) (by omega) (by omega)⟩)
    exact T7 e
noncomputable def n_st (j : Nat) (us : List Int32) (v : Nat → Int32) : (Nat → Int32) × Int32 := if j = 17 then n_s17 us v else if j = 12 then n_s12 us v else if j = 21 then n_s21 us v else if j = 24 then n_s24 us v else if j = 74 then n_s74 us v else if j = 76 then n_s76 us v else if j = 77 then n_s77 us v else if j = 127 then n_s127 us v else if j = 157 then n_s157 us v else if j = 159 then n_s159 us v else if j = 163 then n_s163 us v else n_s165 us v
def n_Md (j : Nat) (us : List Int32) (g : Int32) (H : aH) : Prop := t_I H ∧ ∃ v, n_cV H (n_st j us v).1 ∧ n_mV H v ∧ (j ≠ 77 → g = (n_st j us v).2)
section NL
variable {X : aX} {j n ty kd pr : Nat} {b : Bool} {M : aM}
theorem n_of1 {r0 : Nat} (h : n_told X 200 M r0 n b) (hM : s_P[j]? = some M) (ha : M.2.2.2.2.1 = n) (hl : Nat.ble (n + 1) M.2.2.1 = true) : n_G X n_I n_Md (j, r0, n, b, 1, 0, 0) :=
  ⟨M, hM, ha, hl, fun us h0 C S K0 h1 h2 h3 => h us h0 C S K0 h1 h2 h3.1.1 (fun x H hI c m => h3.2 _ H (n_same_I c m hI h3.1) (Or.inr ⟨(show (1 : Nat) ≠ 2 by decide), x, rfl⟩))⟩
theorem n_of1I {r0 : Nat} (h : n_toldI X 200 M r0 n b) (hM : s_P[j]? = some M) (ha : M.2.2.2.2.1 = n) (hl : Nat.ble (n + 1) M.2.2.1 = true) : n_G X n_I n_Md (j, r0, n, b, 1, 0, 0) :=
  ⟨M, hM, ha, hl, fun us h0 C S K0 h1 h2 h3 => h us h0 C S K0 h1 h2 h3.1 (fun x H hI => h3.2 _ H hI (Or.inr ⟨(show (1 : Nat) ≠ 2 by decide), x, rfl⟩))⟩
theorem n_of2 {r0 : Nat} (h : n_toldL X 200 M r0 n b) (hM : s_P[j]? = some M) (ha : M.2.2.2.2.1 = n) (hl : Nat.ble (n + 1) M.2.2.1 = true) : n_G X n_I n_Md (j, r0, n, b, 2, 0, 0) :=
  ⟨M, hM, ha, hl, fun us h0 C S K0 h1 h2 h3 => h us h0 C S K0 h1 h2 h3.1.1 (fun x H hI c m => h3.2 _ H (n_same_I c m hI h3.1) (Or.inl ⟨rfl, x, rfl⟩))⟩
theorem n_ofc (h : n_pc X M n b (n_st j)) (hM : s_P[j]? = some M) (ha : M.2.2.2.2.1 = n) (hl : Nat.ble (n + 1) M.2.2.1 = true) : n_G X n_I n_Md (j, 2, n, b, ty, 1, 0) :=
  ⟨M, hM, ha, hl, fun us h0 C S K0 h1 h2 h3 => by
    obtain ⟨⟨hI, v, c, m⟩, hk⟩ := h3
    exact h us h0 v C S K0 h1 h2 hI c m (fun H i1 c1 m1 => hk _ H ⟨i1, v, c1, m1, fun _ => rfl⟩)⟩
theorem n_ofr {j' : Nat} (hj : j ≠ 77) (h : n_pr X M n b (n_st j)) (hM : s_P[j']? = some M) (ha : M.2.2.2.2.1 = n) (hl : Nat.ble (n + 1) M.2.2.1 = true) : n_G X n_I n_Md (j', 155, n, b, ty, 2, j) :=
  ⟨M, hM, ha, hl, fun us h0 C S K0 h1 h2 h3 => by
    obtain ⟨g, ⟨hI, v, c, m, hg⟩, hk⟩ := h3
    exact h us h0 _ v C S K0 h1 h2 hI c m (fun H i1 c1 m1 => hk _ H ⟨i1, _, c1, m1⟩ (fun _ => (hg hj).symm))⟩
theorem n_ofcS (h : n_pcS X M n b n_s77) (hM : s_P[77]? = some M) (ha : M.2.2.2.2.1 = n) (hl : Nat.ble (n + 1) M.2.2.1 = true) : n_G X n_I n_Md (77, 2, n, b, 1, 1, 0) :=
  ⟨M, hM, ha, hl, fun us h0 C S K0 h1 h2 h3 => by
    obtain ⟨⟨hI, v, c, m⟩, hk⟩ := h3
    exact h us h0 v C S K0 h1 h2 hI c m (fun x H i1 c1 m1 => hk x H ⟨i1, v, c1, m1, fun q => absurd rfl q⟩)⟩
theorem n_ofrS {j' : Nat} (h : n_prS X M n b n_s77) (hM : s_P[j']? = some M) (ha : M.2.2.2.2.1 = n) (hl : Nat.ble (n + 1) M.2.2.1 = true) : n_G X n_I n_Md (j', 155, n, b, 1, 2, 77) :=
  ⟨M, hM, ha, hl, fun us h0 C S K0 h1 h2 h3 => by
    obtain ⟨g, ⟨hI, v, c, m, -⟩, hk⟩ := h3
    exact h us h0 _ v C S K0 h1 h2 hI c m (fun x H i1 c1 m1 => hk x H ⟨i1, _, c1, m1⟩ (fun q => absurd (show (1 : Nat) = 3 from q) (by decide)))⟩
end NL
end PT33i
section PT33ia
/-! ===== v12: two systems at once: a run that ends so and so ends so (laid by wip/tools/mk12a.py) ===== -/
theorem aOK_and {P : List aM} {X : aX} {d : Nat} {M : aM} {pc : Nat} {ls : aL} {st : List Value} {h : aH} {C S : Nat} {K1 K2 : Option Value → aH → Nat → Nat → Prop} (q1 : aOK P X d M pc ls st h C S K1) (q2 : aOK P X d M pc ls st h C S K2) : aOK P X d M pc ls st h C S (fun v H C' S' => K1 v H C' S' ∧ K2 v H C' S') := by
  obtain ⟨f1, v1, h1, c1, s1, e1, k1⟩ := q1
  obtain ⟨f2, v2, h2, c2, s2, e2, k2⟩ := q2
  have m1 := aexec_mono (Nat.le_max_left f1 f2) e1
  have m2 := aexec_mono (Nat.le_max_right f1 f2) e2
  rw [m1] at m2
  injection m2 with m2
  injection m2 with a1 m2
  injection m2 with a2 m2
  injection m2 with a3 a4
  subst a1
  subst a2
  subst a3
  subst a4
  exact ⟨max f1 f2, v1, h1, c1, s1, m1, k1, k2⟩
section NPD
variable {X : aX} {I1 I2 : aH → Prop} {M1 M2 M3 : Nat → List Int32 → Int32 → aH → Prop} {j r0 n ty pr : Nat} {b : Bool}
theorem n_G_and0 (g1 : n_G X I1 M1 (j, r0, n, b, ty, 0, 0)) (g2 : n_G X I2 M2 (j, r0, n, b, ty, 0, 0)) : n_G X (fun h => I1 h ∧ I2 h) M3 (j, r0, n, b, ty, 0, 0) := by
  obtain ⟨M, a1, a2, a3, a4⟩ := g1
  obtain ⟨M', b1, b2, b3, b4⟩ := g2
  have eM : M = M' := Option.some.inj (a1.symm.trans b1)
  subst eM
  refine ⟨M, a1, a2, a3, fun us h C S K0 hl hb hk => ?_⟩
  have q1 := a4 us h C S (fun w H C' S' => C' = C ∧ S' = S ∧ ∃ x : Value, w = some x ∧ I1 H ∧ (ty = 2 ∧ (∃ y : Int64, x = .long y) ∨ ty ≠ 2 ∧ ∃ y : Int32, x = .int y)) hl hb (And.intro hk.1.1 (fun w H hI hs => ⟨rfl, rfl, w, rfl, hI, hs⟩))
  have q2 := b4 us h C S (fun w H C' S' => C' = C ∧ S' = S ∧ ∃ x : Value, w = some x ∧ I2 H ∧ (ty = 2 ∧ (∃ y : Int64, x = .long y) ∨ ty ≠ 2 ∧ ∃ y : Int32, x = .int y)) hl hb (And.intro hk.1.2 (fun w H hI hs => ⟨rfl, rfl, w, rfl, hI, hs⟩))
  refine aOK_imp (fun w H C' S' k => ?_) (aOK_and q1 q2)
  obtain ⟨⟨e1, e2, x, e3, i1, s1⟩, ⟨-, -, x', e4, i2, -⟩⟩ := k
  rw [e1, e2, e3]
  exact hk.2 x H ⟨i1, i2⟩ s1
theorem n_G_and1 (g1 : n_G X I1 M1 (j, r0, n, b, ty, 1, 0)) (g2 : n_G X I2 M2 (j, r0, n, b, ty, 1, 0)) (hM : ∀ us x H, M1 j us x H → M2 j us x H → M3 j us x H) : n_G X (fun h => I1 h ∧ I2 h) M3 (j, r0, n, b, ty, 1, 0) := by
  obtain ⟨M, a1, a2, a3, a4⟩ := g1
  obtain ⟨M', b1, b2, b3, b4⟩ := g2
  have eM : M = M' := Option.some.inj (a1.symm.trans b1)
  subst eM
  refine ⟨M, a1, a2, a3, fun us h C S K0 hl hb hk => ?_⟩
  have q1 := a4 us h C S (fun w H C' S' => C' = C ∧ S' = S ∧ ∃ x : Int32, w = some (.int x) ∧ M1 j us x H) hl hb (And.intro hk.1.1 (fun x H m => ⟨rfl, rfl, x, rfl, m⟩))
  have q2 := b4 us h C S (fun w H C' S' => C' = C ∧ S' = S ∧ ∃ x : Int32, w = some (.int x) ∧ M2 j us x H) hl hb (And.intro hk.1.2 (fun x H m => ⟨rfl, rfl, x, rfl, m⟩))
  refine aOK_imp (fun w H C' S' k => ?_) (aOK_and q1 q2)
  obtain ⟨⟨e1, e2, x, e3, i1⟩, ⟨-, -, x', e4, i2⟩⟩ := k
  rw [e3] at e4
  injection e4 with e4
  injection e4 with e4
  subst e4
  rw [e1, e2, e3]
  exact hk.2 x H (hM us x H i1 i2)
theorem n_G_and2 (g1 : n_G X I1 M1 (j, r0, n, b, ty, 2, pr)) (g2 : n_G X I2 M2 (j, r0, n, b, ty, 2, pr)) (hM : ∀ us x H, M3 pr us x H → M1 pr us x H ∧ M2 pr us x H) : n_G X (fun h => I1 h ∧ I2 h) M3 (j, r0, n, b, ty, 2, pr) := by
  obtain ⟨M, a1, a2, a3, a4⟩ := g1
  obtain ⟨M', b1, b2, b3, b4⟩ := g2
  have eM : M = M' := Option.some.inj (a1.symm.trans b1)
  subst eM
  refine ⟨M, a1, a2, a3, fun us h C S K0 hl hb hk => ?_⟩
  have hk : ∃ g, M3 pr us g h ∧ ∀ (x : Int32) (H : aH), (I1 H ∧ I2 H) → (ty = 3 → x = g) → K0 (some (.int x)) H C S := hk
  obtain ⟨g, m, hk⟩ := hk
  obtain ⟨m1, m2⟩ := hM us g h m
  have q1 := a4 us h C S (fun w H C' S' => C' = C ∧ S' = S ∧ ∃ x : Int32, w = some (.int x) ∧ I1 H ∧ (ty = 3 → x = g)) hl hb (Exists.intro g (And.intro m1 (fun x H i hx => ⟨rfl, rfl, x, rfl, i, hx⟩)))
  have q2 := b4 us h C S (fun w H C' S' => C' = C ∧ S' = S ∧ ∃ x : Int32, w = some (.int x) ∧ I2 H ∧ (ty = 3 → x = g)) hl hb (Exists.intro g (And.intro m2 (fun x H i hx => ⟨rfl, rfl, x, rfl, i, hx⟩)))
  refine aOK_imp (fun w H C' S' k => ?_) (aOK_and q1 q2)
  obtain ⟨⟨e1, e2, x, e3, i1, s1⟩, ⟨-, -, x', e4, i2, -⟩⟩ := k
  rw [e1, e2, e3]
  exact hk x H ⟨i1, i2⟩ s1
/-- one that is alone stands for the first of a pair, and for the second -/
theorem n_G_l1 (g : n_G X I1 M1 (j, r0, n, b, 1, 0, 0)) (hM : ∀ us x H, I1 H → M3 j us x H) : n_G X I1 M3 (j, r0, n, b, 1, 1, 0) := by
  obtain ⟨M, a1, a2, a3, a4⟩ := g
  refine ⟨M, a1, a2, a3, fun us h C S K0 hl hb hk => a4 us h C S K0 hl hb (And.intro hk.1 (fun w H hI hs => ?_))⟩
  rcases hs with ⟨z, -⟩ | ⟨-, x, e⟩
  · exact absurd (show (1 : Nat) = 2 from z) (by decide)
  · rw [e]
    exact hk.2 x H (hM us x H hI)
theorem n_G_l2 (g : n_G X I1 M1 (j, r0, n, b, 1, 0, 0)) (hM : ∀ us x H, M3 pr us x H → I1 H) : n_G X I1 M3 (j, r0, n, b, 1, 2, pr) := by
  obtain ⟨M, a1, a2, a3, a4⟩ := g
  refine ⟨M, a1, a2, a3, fun us h C S K0 hl hb hk => ?_⟩
  have hk : ∃ g, M3 pr us g h ∧ ∀ (x : Int32) (H : aH), I1 H → ((1 : Nat) = 3 → x = g) → K0 (some (.int x)) H C S := hk
  obtain ⟨g, m, hk⟩ := hk
  refine a4 us h C S K0 hl hb (And.intro (hM us g h m) (fun w H hI hs => ?_))
  rcases hs with ⟨z, -⟩ | ⟨-, x, e⟩
  · exact absurd (show (1 : Nat) = 2 from z) (by decide)
  · rw [e]
    exact hk x H hI (fun z => absurd z (by decide))
theorem n_S_and {m : Nat} (g1 : n_S X I1 j m) (g2 : n_S X I2 j m) : n_S X (fun h => I1 h ∧ I2 h) j m := by
  obtain ⟨M, a1, a2, a3, a4⟩ := g1
  obtain ⟨M', b1, b2, b3, b4⟩ := g2
  have eM : M = M' := Option.some.inj (a1.symm.trans b1)
  subst eM
  refine ⟨M, a1, a2, a3, fun us h C S K0 hl hI hk => ?_⟩
  have q1 := a4 us h C S (fun w H C' S' => C' ≤ C + 1 ∧ S' ≤ S + 6 ∧ ∃ x : Int32, w = some (.int x) ∧ I1 H) hl hI.1 (fun x H C' S' i h1 h2 => ⟨h1, h2, x, rfl, i⟩)
  have q2 := b4 us h C S (fun w H C' S' => C' ≤ C + 1 ∧ S' ≤ S + 6 ∧ ∃ x : Int32, w = some (.int x) ∧ I2 H) hl hI.2 (fun x H C' S' i h1 h2 => ⟨h1, h2, x, rfl, i⟩)
  refine aOK_imp (fun w H C' S' k => ?_) (aOK_and q1 q2)
  obtain ⟨⟨e1, e2, x, e3, i1⟩, ⟨-, -, x', e4, i2⟩⟩ := k
  rw [e3]
  exact hk x H C' S' ⟨i1, i2⟩ e1 e2
end NPD
/-- what stands between the two calls of a pair, of both systems: what a pair's first leaves, or what is held -/
def n_M12 (p : Nat → Bool) (I : aH → Prop) (Md : Nat → List Int32 → Int32 → aH → Prop) (j : Nat) (us : List Int32) (g : Int32) (H : aH) : Prop := if p j = true then Md j us g H else I H
section NPE
variable {X : aX} {I1 I2 : aH → Prop} {M1 M2 : Nat → List Int32 → Int32 → aH → Prop} {p1 p2 : Nat → Bool} {Mc : List Int32 → Int32 → aH → Prop} {j r0 n pr jc : Nat} {b : Bool}
def n_MP (p1 p2 : Nat → Bool) (I1 I2 : aH → Prop) (M1 M2 : Nat → List Int32 → Int32 → aH → Prop) (jc : Nat) (Mc : List Int32 → Int32 → aH → Prop) (j : Nat) (us : List Int32) (g : Int32) (H : aH) : Prop := if j = jc then Mc us g H else n_M12 p1 I1 M1 j us g H ∧ n_M12 p2 I2 M2 j us g H
theorem n_M12_1 (g : n_G X I1 M1 (j, r0, n, b, 1, 1, 0) ∧ p1 j = true ∨ n_G X I1 M1 (j, r0, n, b, 1, 0, 0) ∧ p1 j = false) : n_G X I1 (n_M12 p1 I1 M1) (j, r0, n, b, 1, 1, 0) := by
  rcases g with ⟨g, z⟩ | ⟨g, z⟩
  · obtain ⟨M, a1, a2, a3, a4⟩ := g
    exact ⟨M, a1, a2, a3, fun us h C S K0 hl hb hk => a4 us h C S K0 hl hb (And.intro hk.1 (fun x H m => hk.2 x H (by
      unfold n_M12
      rw [if_pos z]
      exact m)))⟩
  · exact n_G_l1 g (fun us x H i => by
      unfold n_M12
      rw [if_neg (by rw [z]; decide)]
      exact i)
theorem n_M12_2 (g : n_G X I1 M1 (j, r0, n, b, 1, 2, pr) ∧ p1 pr = true ∨ n_G X I1 M1 (j, r0, n, b, 1, 0, 0) ∧ p1 pr = false) : n_G X I1 (n_M12 p1 I1 M1) (j, r0, n, b, 1, 2, pr) := by
  rcases g with ⟨g, z⟩ | ⟨g, z⟩
  · obtain ⟨M, a1, a2, a3, a4⟩ := g
    refine ⟨M, a1, a2, a3, fun us h C S K0 hl hb hk => ?_⟩
    have hk : ∃ g, n_M12 p1 I1 M1 pr us g h ∧ ∀ (x : Int32) (H : aH), I1 H → ((1 : Nat) = 3 → x = g) → K0 (some (.int x)) H C S := hk
    obtain ⟨g, m, hk⟩ := hk
    unfold n_M12 at m
    rw [if_pos z] at m
    exact a4 us h C S K0 hl hb (Exists.intro g (And.intro m hk))
  · exact n_G_l2 g (fun us x H i => by
      unfold n_M12 at i
      rw [if_neg (by rw [z]; decide)] at i
      exact i)
theorem n_P1 (hj : Nat.beq j jc = false) (g1 : n_G X I1 M1 (j, r0, n, b, 1, 1, 0) ∧ p1 j = true ∨ n_G X I1 M1 (j, r0, n, b, 1, 0, 0) ∧ p1 j = false) (g2 : n_G X I2 M2 (j, r0, n, b, 1, 1, 0) ∧ p2 j = true ∨ n_G X I2 M2 (j, r0, n, b, 1, 0, 0) ∧ p2 j = false) : n_G X (fun h => I1 h ∧ I2 h) (n_MP p1 p2 I1 I2 M1 M2 jc Mc) (j, r0, n, b, 1, 1, 0) := n_G_and1 (n_M12_1 g1) (n_M12_1 g2) (fun us x H m1 m2 => by
  unfold n_MP
  rw [if_neg (Nat.ne_of_beq_eq_false hj)]
  exact ⟨m1, m2⟩)
theorem n_P2 (hj : Nat.beq pr jc = false) (g1 : n_G X I1 M1 (j, r0, n, b, 1, 2, pr) ∧ p1 pr = true ∨ n_G X I1 M1 (j, r0, n, b, 1, 0, 0) ∧ p1 pr = false) (g2 : n_G X I2 M2 (j, r0, n, b, 1, 2, pr) ∧ p2 pr = true ∨ n_G X I2 M2 (j, r0, n, b, 1, 0, 0) ∧ p2 pr = false) : n_G X (fun h => I1 h ∧ I2 h) (n_MP p1 p2 I1 I2 M1 M2 jc Mc) (j, r0, n, b, 1, 2, pr) := n_G_and2 (n_M12_2 g1) (n_M12_2 g2) (fun us x H m => by
  unfold n_MP at m
  rw [if_neg (Nat.ne_of_beq_eq_false hj)] at m
  exact m)
end NPE
end PT33ia
section PT33ib
/-! ===== v15: what a method leaves, for any places (laid by wip/tools/mk15a.py) ===== -/
def g_mk (F A ms : List Nat) : Bool := F.all (fun k => (t_dk k).isSome && !ms.elem k) && A.all (fun o => n_isA o && !ms.elem (o * 128))
def g_fk (F A fs as : List Nat) : Bool := F.all (fun k => !fs.elem k) && A.all (fun o => !as.elem o)
/-- places that are as they were -/
def g_sm (F A : List Nat) (h H : aH) : Prop := (∀ k ∈ F, w_f H k = w_f h k) ∧ ∀ o ∈ A, w_a H o = w_a h o
section GF
variable {F A : List Nat} {h H : aH} {X : aX}
theorem g_mk_ok {ms : List Nat} (hr : w_hr z_D h) (hf : z_frm z_D ms h H) (hm : g_mk F A ms = true) : g_sm F A h H := by
  unfold g_mk at hm
  rw [Bool.and_eq_true] at hm
  refine ⟨fun k hk => ?_, fun o ho => ?_⟩
  · have := List.all_eq_true.mp hm.1 k hk
    simp only [Bool.and_eq_true, Bool.not_eq_true'] at this
    exact n_dk hr hf this.1 this.2
  · have := List.all_eq_true.mp hm.2 o ho
    simp only [Bool.and_eq_true, Bool.not_eq_true'] at this
    exact n_da hf this.1 this.2
theorem g_fk_ok {fs as : List Nat} (e : y_fr h H fs as) (hm : g_fk F A fs as = true) : g_sm F A h H := by
  unfold g_fk at hm
  rw [Bool.and_eq_true] at hm
  refine ⟨fun k hk => e.2.1 k (n_nel ?_), fun o ho => e.2.2 o (n_nel ?_)⟩
  · have := List.all_eq_true.mp hm.1 k hk
    rw [Bool.not_eq_true'] at this
    exact this
  · have := List.all_eq_true.mp hm.2 o ho
    rw [Bool.not_eq_true'] at this
    exact this
theorem g_sm_tr {G : aH} (a : g_sm F A h G) (b : g_sm F A G H) : g_sm F A h H := ⟨fun k hk => (b.1 k hk).trans (a.1 k hk), fun o ho => (b.2 o ho).trans (a.2 o ho)⟩
def g_told (F A : List Nat) (X : aX) (d : Nat) (M : aM) (r n : Nat) (b : Bool) : Prop := ∀ (us : List Int32) (h : aH) (C S : Nat) (K0 : Option Value → aH → Nat → Nat → Prop), us.length = n → (b = true → ∀ u ∈ us, 0 ≤ u.toInt ∧ u.toInt ≤ 1) → t_I h →
  (∀ (x : Int32) (H : aH), t_I H → g_sm F A h H → K0 (some (.int x)) H C S) → aOK s_P X d M 0 (a_ent (.ref r :: us.map .int) M.2.2.1) [] h C S K0
def g_toldL (F A : List Nat) (X : aX) (d : Nat) (M : aM) (r n : Nat) (b : Bool) : Prop := ∀ (us : List Int32) (h : aH) (C S : Nat) (K0 : Option Value → aH → Nat → Nat → Prop), us.length = n → (b = true → ∀ u ∈ us, 0 ≤ u.toInt ∧ u.toInt ≤ 1) → t_I h →
  (∀ (x : Int64) (H : aH), t_I H → g_sm F A h H → K0 (some (.long x)) H C S) → aOK s_P X d M 0 (a_ent (.ref r :: us.map .int) M.2.2.1) [] h C S K0
theorem g_ctx {Q : zQ} {M : aM} {n m : Nat} {b : Bool} {T0 : zT} {m0 : zMs} {cs : List zCut} (h6 : g_mk F A Q.2.2.2 = true) (hs : z_spec y_JA z_D s_P X Q) (hM : s_P[Q.1.1]? = some M) (hd : Nat.ble Q.1.2.1 200 = true) (hQ : Q.2.1 = (0, T0, m0) :: cs) (h1 : t_s n b 0 T0.1 T0.2.1 = true) (h2 : T0.2.2.1.all (t_r T0.1) = true)
    (h3 : T0.2.2.2 = some (.inl (.ref 2)) :: ((List.range n).map (fun j => some (.inr (j, 0))) ++ List.replicate m none)) (hn : M.2.2.1 = n + 1 + m) (h4 : Q.2.2.1.all t_x = true) (h5 : (Q.2.2.2.all (fun k => !decide (k / 128 = 134)) || Q.2.2.1.all t_rx) = true) : g_told F A X 200 M 2 n b := by
  intro us h C S K0 hl hb hI hk
  subst hl
  obtain ⟨hr, hJ, hday⟩ := hI
  obtain ⟨ρ, hρ⟩ := t_entry (ms := Q.2.2.2) y_JA_x hb hr hJ hday h1 h2 h3
  rw [Nat.ble_eq] at hd
  rw [hn]
  refine aOK_deep hd (hs M hM C S ρ h _ T0 m0 (by rw [hQ]; exact List.mem_cons_self) hρ K0 (fun T hT ρX H' v htm _ _ => ?_))
  obtain ⟨r1, r2, x, rfl⟩ := t_exit htm (List.all_eq_true.mp h4 T hT)
  have hf := htm.2.2.2.2.2.1
  refine hk x H' ⟨r1, r2, ?_⟩ (g_mk_ok hr hf h6)
  rw [Bool.or_eq_true] at h5
  rcases h5 with q | q
  · exact t_day_frm hr hf q hday
  · exact t_day_rx htm (List.all_eq_true.mp q T hT)
end GF
theorem g_c12 {X : aX} {F A : List Nat} (h6 : g_mk F A z_x1.2.2.2 = true) : g_told F A X 200 a_m12 2 2 false := g_ctx (n := 2) (m := 0) (b := false) h6 (z_x1_s (y_jx_l y_JA_x)) rfl rfl rfl (by decide +kernel) (by decide +kernel) rfl rfl (by decide +kernel) (by decide +kernel)
theorem g_c17 {X : aX} {F A : List Nat} (h6 : g_mk F A z_x2.2.2.2 = true) : g_told F A X 200 a_m17 2 3 false := g_ctx (n := 3) (m := 0) (b := false) h6 (z_x2_s (y_jx_l y_JA_x)) rfl rfl rfl (by decide +kernel) (by decide +kernel) rfl rfl (by decide +kernel) (by decide +kernel)
theorem g_c21 {X : aX} {F A : List Nat} (h6 : g_mk F A z_x3.2.2.2 = true) : g_told F A X 200 a_m21 2 2 false := g_ctx (n := 2) (m := 0) (b := false) h6 (z_x3_s (y_jx_l y_JA_x)) rfl rfl rfl (by decide +kernel) (by decide +kernel) rfl rfl (by decide +kernel) (by decide +kernel)
theorem g_c24 {X : aX} {F A : List Nat} (h6 : g_mk F A z_x6.2.2.2 = true) : g_told F A X 200 a_m24 2 2 false := g_ctx (n := 2) (m := 0) (b := false) h6 (z_x6_s (y_jx_l y_JA_x)) rfl rfl rfl (by decide +kernel) (by decide +kernel) rfl rfl (by decide +kernel) (by decide +kernel)
theorem g_c28 {X : aX} {F A : List Nat} (h6 : g_mk F A z_x10.2.2.2 = true) : g_told F A X 200 a_m28 2 1 false := g_ctx (n := 1) (m := 0) (b := false) h6 (z_x10_s (y_jx_l y_JA_x)) rfl rfl rfl (by decide +kernel) (by decide +kernel) rfl rfl (by decide +kernel) (by decide +kernel)
theorem g_c33 {X : aX} {F A : List Nat} (h6 : g_mk F A z_x18.2.2.2 = true) : g_told F A X 200 a_m33 2 1 false := g_ctx (n := 1) (m := 0) (b := false) h6 (z_x18_s (y_jx_l y_JA_x)) rfl rfl rfl (by decide +kernel) (by decide +kernel) rfl rfl (by decide +kernel) (by decide +kernel)
theorem g_c46 {X : aX} {F A : List Nat} (h6 : g_mk F A z_x19.2.2.2 = true) : g_told F A X 200 a_m46 2 1 false := g_ctx (n := 1) (m := 2) (b := false) h6 (z_x19_s (y_jx_l y_JA_x)) rfl rfl rfl (by decide +kernel) (by decide +kernel) rfl rfl (by decide +kernel) (by decide +kernel)
theorem g_c47 {X : aX} {F A : List Nat} (h6 : g_mk F A z_x21.2.2.2 = true) : g_told F A X 200 a_m47 2 0 false := g_ctx (n := 0) (m := 2) (b := false) h6 (z_x21_s (y_jx_l y_JA_x)) rfl rfl rfl (by decide +kernel) (by decide +kernel) rfl rfl (by decide +kernel) (by decide +kernel)
theorem g_c49 {X : aX} {F A : List Nat} (h6 : g_mk F A z_x23.2.2.2 = true) : g_told F A X 200 a_m49 2 2 false := g_ctx (n := 2) (m := 0) (b := false) h6 (z_x23_s (y_jx_l y_JA_x)) rfl rfl rfl (by decide +kernel) (by decide +kernel) rfl rfl (by decide +kernel) (by decide +kernel)
theorem g_c52 {X : aX} {F A : List Nat} (h6 : g_mk F A z_x28.2.2.2 = true) : g_told F A X 200 a_m52 2 1 false := g_ctx (n := 1) (m := 3) (b := false) h6 (z_x28_s (y_jx_l y_JA_x)) rfl rfl rfl (by decide +kernel) (by decide +kernel) rfl rfl (by decide +kernel) (by decide +kernel)
theorem g_c54 {X : aX} {F A : List Nat} (h6 : g_mk F A z_x30.2.2.2 = true) : g_told F A X 200 a_m54 2 2 false := g_ctx (n := 2) (m := 0) (b := false) h6 (z_x30_s (y_jx_l y_JA_x)) rfl rfl rfl (by decide +kernel) (by decide +kernel) rfl rfl (by decide +kernel) (by decide +kernel)
theorem g_c57 {X : aX} {F A : List Nat} (h6 : g_mk F A z_x31.2.2.2 = true) : g_told F A X 200 a_m57 2 2 false := g_ctx (n := 2) (m := 1) (b := false) h6 (z_x31_s (y_jx_l y_JA_x)) rfl rfl rfl (by decide +kernel) (by decide +kernel) rfl rfl (by decide +kernel) (by decide +kernel)
theorem g_c58 {X : aX} {F A : List Nat} (h6 : g_mk F A z_x32.2.2.2 = true) : g_told F A X 200 a_m58 2 1 false := g_ctx (n := 1) (m := 2) (b := false) h6 (z_x32_s (y_jx_l y_JA_x)) rfl rfl rfl (by decide +kernel) (by decide +kernel) rfl rfl (by decide +kernel) (by decide +kernel)
theorem g_c61 {X : aX} {F A : List Nat} (h6 : g_mk F A z_x35.2.2.2 = true) : g_told F A X 200 a_m61 2 3 false := g_ctx (n := 3) (m := 0) (b := false) h6 (z_x35_s (y_jx_l y_JA_x)) rfl rfl rfl (by decide +kernel) (by decide +kernel) rfl rfl (by decide +kernel) (by decide +kernel)
theorem g_c66 {X : aX} {F A : List Nat} (h6 : g_mk F A z_x37.2.2.2 = true) : g_told F A X 200 a_m66 2 3 false := g_ctx (n := 3) (m := 3) (b := false) h6 (z_x37_s (y_jx_l y_JA_x)) rfl rfl rfl (by decide +kernel) (by decide +kernel) rfl rfl (by decide +kernel) (by decide +kernel)
theorem g_c68 {X : aX} {F A : List Nat} (h6 : g_mk F A z_x39.2.2.2 = true) : g_told F A X 200 a_m68 2 1 false := g_ctx (n := 1) (m := 2) (b := false) h6 (z_x39_s (y_jx_l y_JA_x)) rfl rfl rfl (by decide +kernel) (by decide +kernel) rfl rfl (by decide +kernel) (by decide +kernel)
theorem g_c71 {X : aX} {F A : List Nat} (h6 : g_mk F A z_x40.2.2.2 = true) : g_told F A X 200 a_m71 2 1 false := g_ctx (n := 1) (m := 6) (b := false) h6 (z_x40_s (y_jx_l y_JA_x)) rfl rfl rfl (by decide +kernel) (by decide +kernel) rfl rfl (by decide +kernel) (by decide +kernel)
theorem g_c74 {X : aX} {F A : List Nat} (h6 : g_mk F A z_x42.2.2.2 = true) : g_told F A X 200 a_m74 2 1 false := g_ctx (n := 1) (m := 0) (b := false) h6 (z_x42_s (y_jx_l y_JA_x)) rfl rfl rfl (by decide +kernel) (by decide +kernel) rfl rfl (by decide +kernel) (by decide +kernel)
theorem g_c76 {X : aX} {F A : List Nat} (h6 : g_mk F A z_x43.2.2.2 = true) : g_told F A X 200 a_m76 2 1 false := g_ctx (n := 1) (m := 0) (b := false) h6 (z_x43_s (y_jx_l y_JA_x)) rfl rfl rfl (by decide +kernel) (by decide +kernel) rfl rfl (by decide +kernel) (by decide +kernel)
theorem g_c77 {X : aX} {F A : List Nat} (h6 : g_mk F A z_x142.2.2.2 = true) : g_told F A X 200 a_m77 2 0 false := g_ctx (n := 0) (m := 2) (b := false) h6 (z_x142_s (y_jx_l y_JA_x)) rfl rfl rfl (by decide +kernel) (by decide +kernel) rfl rfl (by decide +kernel) (by decide +kernel)
theorem g_c92 {X : aX} {F A : List Nat} (h6 : g_mk F A z_x463.2.2.2 = true) : g_told F A X 200 a_m92 2 1 false := g_ctx (n := 1) (m := 0) (b := false) h6 (z_x463_s (y_jx_l y_JA_x)) rfl rfl rfl (by decide +kernel) (by decide +kernel) rfl rfl (by decide +kernel) (by decide +kernel)
theorem g_c112 {X : aX} {F A : List Nat} (h6 : g_mk F A z_x464.2.2.2 = true) : g_told F A X 200 a_m112 2 2 false := g_ctx (n := 2) (m := 1) (b := false) h6 (z_x464_s (y_jx_l y_JA_x)) rfl rfl rfl (by decide +kernel) (by decide +kernel) rfl rfl (by decide +kernel) (by decide +kernel)
theorem g_c113 {X : aX} {F A : List Nat} (h6 : g_mk F A z_x465.2.2.2 = true) : g_told F A X 200 a_m113 2 2 false := g_ctx (n := 2) (m := 0) (b := false) h6 (z_x465_s (y_jx_l y_JA_x)) rfl rfl rfl (by decide +kernel) (by decide +kernel) rfl rfl (by decide +kernel) (by decide +kernel)
theorem g_c114 {X : aX} {F A : List Nat} (h6 : g_mk F A z_x466.2.2.2 = true) : g_told F A X 200 a_m114 2 1 false := g_ctx (n := 1) (m := 3) (b := false) h6 (z_x466_s (y_jx_l y_JA_x)) rfl rfl rfl (by decide +kernel) (by decide +kernel) rfl rfl (by decide +kernel) (by decide +kernel)
theorem g_c115 {X : aX} {F A : List Nat} (h6 : g_mk F A z_x469.2.2.2 = true) : g_told F A X 200 a_m115 2 4 false := g_ctx (n := 4) (m := 1) (b := false) h6 (z_x469_s (y_jx_l y_JA_x)) rfl rfl rfl (by decide +kernel) (by decide +kernel) rfl rfl (by decide +kernel) (by decide +kernel)
theorem g_c119 {X : aX} {F A : List Nat} (h6 : g_mk F A z_x475.2.2.2 = true) : g_told F A X 200 a_m119 2 2 false := g_ctx (n := 2) (m := 0) (b := false) h6 (z_x475_s (y_jx_l y_JA_x)) rfl rfl rfl (by decide +kernel) (by decide +kernel) rfl rfl (by decide +kernel) (by decide +kernel)
theorem g_c125 {X : aX} {F A : List Nat} (h6 : g_mk F A z_x476.2.2.2 = true) : g_told F A X 200 a_m125 2 1 false := g_ctx (n := 1) (m := 2) (b := false) h6 (z_x476_s (y_jx_l y_JA_x)) rfl rfl rfl (by decide +kernel) (by decide +kernel) rfl rfl (by decide +kernel) (by decide +kernel)
theorem g_c127 {X : aX} {F A : List Nat} (h6 : g_mk F A z_x477.2.2.2 = true) : g_told F A X 200 a_m127 2 2 false := g_ctx (n := 2) (m := 0) (b := false) h6 (z_x477_s (y_jx_l y_JA_x)) rfl rfl rfl (by decide +kernel) (by decide +kernel) rfl rfl (by decide +kernel) (by decide +kernel)
theorem g_c128 {X : aX} {F A : List Nat} (h6 : g_mk F A z_x491.2.2.2 = true) : g_told F A X 200 a_m128 2 2 false := g_ctx (n := 2) (m := 1) (b := false) h6 (z_x491_s (y_jx_l y_JA_x)) rfl rfl rfl (by decide +kernel) (by decide +kernel) rfl rfl (by decide +kernel) (by decide +kernel)
theorem g_c137 {X : aX} {F A : List Nat} (h6 : g_mk F A z_x493.2.2.2 = true) : g_told F A X 200 a_m137 2 2 false := g_ctx (n := 2) (m := 4) (b := false) h6 (z_x493_s (y_jx_l y_JA_x)) rfl rfl rfl (by decide +kernel) (by decide +kernel) rfl rfl (by decide +kernel) (by decide +kernel)
theorem g_c139 {X : aX} {F A : List Nat} (h6 : g_mk F A z_x496.2.2.2 = true) : g_told F A X 200 a_m139 2 2 false := g_ctx (n := 2) (m := 5) (b := false) h6 (z_x496_s (y_jx_l y_JA_x)) rfl rfl rfl (by decide +kernel) (by decide +kernel) rfl rfl (by decide +kernel) (by decide +kernel)
theorem g_c143 {X : aX} {F A : List Nat} (h6 : g_mk F A z_x497.2.2.2 = true) : g_told F A X 200 a_m143 2 4 false := g_ctx (n := 4) (m := 0) (b := false) h6 (z_x497_s (y_jx_l y_JA_x)) rfl rfl rfl (by decide +kernel) (by decide +kernel) rfl rfl (by decide +kernel) (by decide +kernel)
theorem g_c145 {X : aX} {F A : List Nat} (h6 : g_mk F A z_x498.2.2.2 = true) : g_told F A X 200 a_m145 2 2 false := g_ctx (n := 2) (m := 3) (b := false) h6 (z_x498_s (y_jx_l y_JA_x)) rfl rfl rfl (by decide +kernel) (by decide +kernel) rfl rfl (by decide +kernel) (by decide +kernel)
theorem g_c146 {X : aX} {F A : List Nat} (h6 : g_mk F A z_x500.2.2.2 = true) : g_told F A X 200 a_m146 2 3 false := g_ctx (n := 3) (m := 9) (b := false) h6 (z_x500_s (y_jx_l y_JA_x)) rfl rfl rfl (by decide +kernel) (by decide +kernel) rfl rfl (by decide +kernel) (by decide +kernel)
theorem g_c149 {X : aX} {F A : List Nat} (h6 : g_mk F A z_x501.2.2.2 = true) : g_told F A X 200 a_m149 2 5 false := g_ctx (n := 5) (m := 2) (b := false) h6 (z_x501_s (y_jx_l y_JA_x)) rfl rfl rfl (by decide +kernel) (by decide +kernel) rfl rfl (by decide +kernel) (by decide +kernel)
theorem g_c153 {X : aX} {F A : List Nat} (h6 : g_mk F A z_x502.2.2.2 = true) : g_told F A X 200 a_m153 2 2 false := g_ctx (n := 2) (m := 0) (b := false) h6 (z_x502_s (y_jx_l y_JA_x)) rfl rfl rfl (by decide +kernel) (by decide +kernel) rfl rfl (by decide +kernel) (by decide +kernel)
theorem g_c156 {X : aX} {F A : List Nat} (h6 : g_mk F A z_x503.2.2.2 = true) : g_told F A X 200 a_m156 2 2 false := g_ctx (n := 2) (m := 3) (b := false) h6 (z_x503_s (y_jx_l y_JA_x)) rfl rfl rfl (by decide +kernel) (by decide +kernel) rfl rfl (by decide +kernel) (by decide +kernel)
theorem g_c157 {X : aX} {F A : List Nat} (h6 : g_mk F A z_x504.2.2.2 = true) : g_told F A X 200 a_m157 2 3 true := g_ctx (n := 3) (m := 0) (b := true) h6 (z_x504_s (y_jx_l y_JA_x)) rfl rfl rfl (by decide +kernel) (by decide +kernel) rfl rfl (by decide +kernel) (by decide +kernel)
theorem g_c159 {X : aX} {F A : List Nat} (h6 : g_mk F A z_x507.2.2.2 = true) : g_told F A X 200 a_m159 2 1 false := g_ctx (n := 1) (m := 2) (b := false) h6 (z_x507_s (y_jx_l y_JA_x)) rfl rfl rfl (by decide +kernel) (by decide +kernel) rfl rfl (by decide +kernel) (by decide +kernel)
theorem g_c162 {X : aX} {F A : List Nat} (h6 : g_mk F A z_x508.2.2.2 = true) : g_told F A X 200 a_m162 2 1 false := g_ctx (n := 1) (m := 5) (b := false) h6 (z_x508_s (y_jx_l y_JA_x)) rfl rfl rfl (by decide +kernel) (by decide +kernel) rfl rfl (by decide +kernel) (by decide +kernel)
theorem g_c163 {X : aX} {F A : List Nat} (h6 : g_mk F A z_x509.2.2.2 = true) : g_told F A X 200 a_m163 2 1 false := g_ctx (n := 1) (m := 0) (b := false) h6 (z_x509_s (y_jx_l y_JA_x)) rfl rfl rfl (by decide +kernel) (by decide +kernel) rfl rfl (by decide +kernel) (by decide +kernel)
theorem g_c165 {X : aX} {F A : List Nat} (h6 : g_mk F A z_x510.2.2.2 = true) : g_told F A X 200 a_m165 2 1 false := g_ctx (n := 1) (m := 0) (b := false) h6 (z_x510_s (y_jx_l y_JA_x)) rfl rfl rfl (by decide +kernel) (by decide +kernel) rfl rfl (by decide +kernel) (by decide +kernel)
theorem g_c168 {X : aX} {F A : List Nat} (h6 : g_mk F A z_x511.2.2.2 = true) : g_told F A X 200 a_m168 2 1 false := g_ctx (n := 1) (m := 0) (b := false) h6 (z_x511_s (y_jx_l y_JA_x)) rfl rfl rfl (by decide +kernel) (by decide +kernel) rfl rfl (by decide +kernel) (by decide +kernel)
theorem g_r173 {X : aX} {F A : List Nat} (h6 : g_fk F A [19584, 19591, 19600] [156, 157, 159, 160, 161] = true) : g_told F A X 200 a_m173 155 2 false := by
  intro us h C S K0 hl hb hI hk
  obtain ⟨hr, ⟨hJ, hS, hC⟩, hday⟩ := hI
  match us, hl with
  | [u0, u1], _ => exact p_node hr hJ hC (fun r H hf q0 q1 => hk r H ⟨hf.1, ⟨q0, (j_say_e hf rfl rfl hS), q1⟩, t_day_fr hf rfl hday⟩ (g_fk_ok hf h6))
theorem g_r177 {X : aX} {F A : List Nat} (h6 : g_fk F A [19584] [158] = true) : g_told F A X 200 a_m177 155 3 false := by
  intro us h C S K0 hl hb hI hk
  obtain ⟨hr, ⟨hJ, hS, hC⟩, hday⟩ := hI
  match us, hl with
  | [u0, u1, u2], _ => exact p_set hr hJ (fun r H hf q0 => hk r H ⟨hf.1, ⟨q0, (j_say_e hf rfl rfl hS), (j_cost_e hf rfl rfl hC)⟩, t_day_fr hf rfl hday⟩ (g_fk_ok hf h6))
theorem g_r180 {X : aX} {F A : List Nat} (h6 : g_fk F A [19584] [159] = true) : g_told F A X 200 a_m180 155 2 false := by
  intro us h C S K0 hl hb hI hk
  obtain ⟨hr, ⟨hJ, hS, hC⟩, hday⟩ := hI
  match us, hl with
  | [u0, u1], _ => exact p_force hr hJ (fun r H hf q0 q1 => hk r H ⟨hf.1, ⟨(y_J_fr hf rfl rfl hJ), (j_say_e hf rfl rfl hS), (j_cost_e hf rfl rfl hC)⟩, t_day_fr hf rfl hday⟩ (g_fk_ok hf h6))
theorem g_r181 {X : aX} {F A : List Nat} (h6 : g_fk F A [19584, 19598] [160, 162] = true) : g_told F A X 200 a_m181 155 2 false := by
  intro us h C S K0 hl hb hI hk
  obtain ⟨hr, ⟨hJ, hS, hC⟩, hday⟩ := hI
  match us, hl with
  | [u0, u1], _ => exact p_see hr hJ (fun r H hf q0 q1 => hk r H ⟨hf.1, ⟨q0, (j_say_e hf rfl rfl hS), (j_cost_e hf rfl rfl hC)⟩, t_day_fr hf rfl hday⟩ (g_fk_ok hf h6))
theorem g_r183 {X : aX} {F A : List Nat} (h6 : g_fk F A [19584] [] = true) : g_told F A X 200 a_m183 155 1 false := by
  intro us h C S K0 hl hb hI hk
  obtain ⟨hr, ⟨hJ, hS, hC⟩, hday⟩ := hI
  match us, hl with
  | [u0], _ => exact p_weight hr hJ (fun r H hf => hk r H ⟨hf.1, ⟨(y_J_fr hf rfl rfl hJ), (j_say_e hf rfl rfl hS), (j_cost_e hf rfl rfl hC)⟩, t_day_fr hf rfl hday⟩ (g_fk_ok hf h6))
theorem g_r187 {X : aX} {F A : List Nat} (h6 : g_fk F A [19584, 19585, 19587, 19588] [154, 163] = true) : g_told F A X 200 a_m187 155 1 false := by
  intro us h C S K0 hl hb hI hk
  obtain ⟨hr, ⟨hJ, hS, hC⟩, hday⟩ := hI
  match us, hl with
  | [u0], _ => exact p_chance hr hJ (fun r H hf q0 => hk r H ⟨hf.1, ⟨q0, (j_say_e hf rfl rfl hS), (j_cost_e hf rfl rfl hC)⟩, t_day_fr hf rfl hday⟩ (g_fk_ok hf h6))
theorem g_r198 {X : aX} {F A : List Nat} (h6 : g_fk F A [19584, 19585, 19587, 19588] [154, 163] = true) : g_told F A X 200 a_m198 155 1 false := by
  intro us h C S K0 hl hb hI hk
  obtain ⟨hr, ⟨hJ, hS, hC⟩, hday⟩ := hI
  match us, hl with
  | [u0], _ => exact p_odds hr hJ (fun r H hf q0 => hk r H ⟨hf.1, ⟨q0, (j_say_e hf rfl rfl hS), (j_cost_e hf rfl rfl hC)⟩, t_day_fr hf rfl hday⟩ (g_fk_ok hf h6))
theorem g_r199 {X : aX} {F A : List Nat} (h6 : g_fk F A [19584, 19585, 19587, 19588] [154, 163] = true) : g_told F A X 200 a_m199 155 0 false := by
  intro us h C S K0 hl hb hI hk
  obtain ⟨hr, ⟨hJ, hS, hC⟩, hday⟩ := hI
  match us, hl with
  | [], _ => exact p_likely hr hJ (fun r H hf q0 => hk r H ⟨hf.1, ⟨q0, (j_say_e hf rfl rfl hS), (j_cost_e hf rfl rfl hC)⟩, t_day_fr hf rfl hday⟩ (g_fk_ok hf h6))
theorem g_r200 {X : aX} {F A : List Nat} (h6 : g_fk F A [19584, 19585, 19587, 19588] [154, 163] = true) : g_told F A X 200 a_m200 155 2 false := by
  intro us h C S K0 hl hb hI hk
  obtain ⟨hr, ⟨hJ, hS, hC⟩, hday⟩ := hI
  match us, hl with
  | [u0, u1], _ => exact p_moves hr hJ (fun r H hf q0 => hk r H ⟨hf.1, ⟨q0, (j_say_e hf rfl rfl hS), (j_cost_e hf rfl rfl hC)⟩, t_day_fr hf rfl hday⟩ (g_fk_ok hf h6))
theorem g_r202 {X : aX} {F A : List Nat} (h6 : g_fk F A [19584, 19585, 19587, 19588] [154, 155, 163] = true) : g_told F A X 200 a_m202 155 1 false := by
  intro us h C S K0 hl hb hI hk
  obtain ⟨hr, ⟨hJ, hS, hC⟩, hday⟩ := hI
  match us, hl with
  | [u0], _ => exact p_most hr hJ (fun r H hf q0 => hk r H ⟨hf.1, ⟨q0, (j_say_e hf rfl rfl hS), (j_cost_e hf rfl rfl hC)⟩, t_day_fr hf rfl hday⟩ (g_fk_ok hf h6))
theorem g_r204 {X : aX} {F A : List Nat} (h6 : g_fk F A [19584, 19585, 19587, 19588] [154, 163] = true) : g_told F A X 200 a_m204 155 2 false := by
  intro us h C S K0 hl hb hI hk
  obtain ⟨hr, ⟨hJ, hS, hC⟩, hday⟩ := hI
  match us, hl with
  | [u0, u1], _ => exact p_worth hr hJ (fun r H hf q0 => hk r H ⟨hf.1, ⟨q0, (j_say_e hf rfl rfl hS), (j_cost_e hf rfl rfl hC)⟩, t_day_fr hf rfl hday⟩ (g_fk_ok hf h6))
theorem g_r206 {X : aX} {F A : List Nat} (h6 : g_fk F A [19584] [161] = true) : g_told F A X 200 a_m206 155 2 false := by
  intro us h C S K0 hl hb hI hk
  obtain ⟨hr, ⟨hJ, hS, hC⟩, hday⟩ := hI
  match us, hl with
  | [u0, u1], _ => exact p_cost hr hJ hC (fun r H hf q0 => hk r H ⟨hf.1, ⟨(t_J161 hf hJ), (j_say_e hf rfl rfl hS), q0⟩, t_day_fr hf rfl hday⟩ (g_fk_ok hf h6))
theorem g_r207 {X : aX} {F A : List Nat} (h6 : g_fk F A [19584, 19585, 19587, 19588] [154, 163] = true) : g_told F A X 200 a_m207 155 1 false := by
  intro us h C S K0 hl hb hI hk
  obtain ⟨hr, ⟨hJ, hS, hC⟩, hday⟩ := hI
  match us, hl with
  | [u0], _ => exact p_need hr hJ hC (fun r H hf q0 => hk r H ⟨hf.1, ⟨q0, (j_say_e hf rfl rfl hS), (j_cost_e hf rfl rfl hC)⟩, t_day_fr hf rfl hday⟩ (g_fk_ok hf h6))
theorem g_r208 {X : aX} {F A : List Nat} (h6 : g_fk F A [19584] [164] = true) : g_told F A X 200 a_m208 155 3 false := by
  intro us h C S K0 hl hb hI hk
  obtain ⟨hr, ⟨hJ, hS, hC⟩, hday⟩ := hI
  match us, hl with
  | [u0, u1, u2], _ => exact p_apart hr hJ (fun r H hf q0 => hk r H ⟨hf.1, ⟨q0, (j_say_e hf rfl rfl hS), (j_cost_e hf rfl rfl hC)⟩, t_day_fr hf rfl hday⟩ (g_fk_ok hf h6))
theorem g_r213 {X : aX} {F A : List Nat} (h6 : g_fk F A [19584] [163] = true) : g_told F A X 200 a_m213 155 3 false := by
  intro us h C S K0 hl hb hI hk
  obtain ⟨hr, ⟨hJ, hS, hC⟩, hday⟩ := hI
  match us, hl with
  | [u0, u1, u2], _ => exact p_even hr hJ (fun r H hf q0 => hk r H ⟨hf.1, ⟨q0, (j_say_e hf rfl rfl hS), (j_cost_e hf rfl rfl hC)⟩, t_day_fr hf rfl hday⟩ (g_fk_ok hf h6))
theorem g_r214 {X : aX} {F A : List Nat} (h6 : g_fk F A [19584, 19585, 19587, 19588, 19589] [154, 163] = true) : g_told F A X 200 a_m214 155 1 false := by
  intro us h C S K0 hl hb hI hk
  obtain ⟨hr, ⟨hJ, hS, hC⟩, hday⟩ := hI
  match us, hl with
  | [u0], _ => exact p_joined hr hJ (fun r H hf q0 => hk r H ⟨hf.1, ⟨q0, (j_say_e hf rfl rfl hS), (j_cost_e hf rfl rfl hC)⟩, t_day_fr hf rfl hday⟩ (g_fk_ok hf h6))
theorem g_r217 {X : aX} {F A : List Nat} (h6 : g_fk F A [19584, 19585, 19587, 19588] [154, 163] = true) : g_told F A X 200 a_m217 155 1 false := by
  intro us h C S K0 hl hb hI hk
  obtain ⟨hr, ⟨hJ, hS, hC⟩, hday⟩ := hI
  match us, hl with
  | [u0], _ => exact p_bounds hr hJ (fun r H hf q0 => hk r H ⟨hf.1, ⟨q0, (j_say_e hf rfl rfl hS), (j_cost_e hf rfl rfl hC)⟩, t_day_fr hf rfl hday⟩ (g_fk_ok hf h6))
theorem g_r219 {X : aX} {F A : List Nat} (h6 : g_fk F A [19584, 19612] [171] = true) : g_told F A X 200 a_m219 155 1 false := by
  intro us h C S K0 hl hb hI hk
  obtain ⟨hr, ⟨hJ, hS, hC⟩, hday⟩ := hI
  match us, hl with
  | [u0], _ => exact p_sign hr (fun r H hf => hk r H ⟨hf.1, ⟨(y_J_fr hf rfl rfl hJ), (j_say_e hf rfl rfl hS), (j_cost_e hf rfl rfl hC)⟩, t_day_fr hf rfl hday⟩ (g_fk_ok hf h6))
theorem g_r220 {X : aX} {F A : List Nat} (h6 : g_fk F A [19584, 19612] [] = true) : g_told F A X 200 a_m220 155 1 false := by
  intro us h C S K0 hl hb hI hk
  obtain ⟨hr, ⟨hJ, hS, hC⟩, hday⟩ := hI
  match us, hl with
  | [u0], _ => exact p_end hr (fun r H hf q0 q1 => hk r H ⟨hf.1, ⟨(y_J_fr hf rfl rfl hJ), (j_say_e hf rfl rfl hS), (j_cost_e hf rfl rfl hC)⟩, t_day_fr hf rfl hday⟩ (g_fk_ok hf h6))
theorem g_r221 {X : aX} {F A : List Nat} (h6 : g_fk F A [19584, 19603, 19610, 19612, 19613, 19614, 19615] [165, 166, 167, 168, 169, 170] = true) : g_told F A X 200 a_m221 155 0 false := by
  intro us h C S K0 hl hb hI hk
  obtain ⟨hr, ⟨hJ, hS, hC⟩, hday⟩ := hI
  match us, hl with
  | [], _ => exact p_say hr hJ hS (fun r H hf q0 q1 => hk r H ⟨hf.1, ⟨q0, q1, (j_cost_e hf rfl rfl hC)⟩, t_day_fr hf rfl hday⟩ (g_fk_ok hf h6))
theorem g_r233 {X : aX} {F A : List Nat} (h6 : g_fk F A [19584, 19587, 19588, 19589, 19616, 19617, 19618] [155, 163] = true) : g_told F A X 200 a_m233 155 1 false := by
  intro us h C S K0 hl hb hI hk
  obtain ⟨hr, ⟨hJ, hS, hC⟩, hday⟩ := hI
  match us, hl with
  | [u0], _ => exact p_so hr hJ hS (fun r H hf q0 q1 => hk r H ⟨hf.1, ⟨q0, q1, (j_cost_e hf rfl rfl hC)⟩, t_day_fr hf rfl hday⟩ (g_fk_ok hf h6))
theorem g_r246 {X : aX} {F A : List Nat} (h6 : g_fk F A [19584, 19585, 19587, 19588, 19589, 19616, 19617, 19618] [154, 163] = true) : g_told F A X 200 a_m246 155 2 false := by
  intro us h C S K0 hl hb hI hk
  obtain ⟨hr, ⟨hJ, hS, hC⟩, hday⟩ := hI
  match us, hl with
  | [u0, u1], _ => exact p_term hr hJ hS (fun r H hf q0 q1 => hk r H ⟨hf.1, ⟨q0, q1, (j_cost_e hf rfl rfl hC)⟩, t_day_fr hf rfl hday⟩ (g_fk_ok hf h6))
theorem g_r247 {X : aX} {F A : List Nat} (h6 : g_fk F A [19584, 19587, 19588, 19589, 19616, 19617, 19618] [155, 163] = true) : g_told F A X 200 a_m247 155 2 false := by
  intro us h C S K0 hl hb hI hk
  obtain ⟨hr, ⟨hJ, hS, hC⟩, hday⟩ := hI
  match us, hl with
  | [u0, u1], _ => exact p_slip hr hJ hS (fun r H hf q0 q1 => hk r H ⟨hf.1, ⟨q0, q1, (j_cost_e hf rfl rfl hC)⟩, t_day_fr hf rfl hday⟩ (g_fk_ok hf h6))
theorem g_r248 {X : aX} {F A : List Nat} (h6 : g_fk F A [19584, 19587, 19588, 19589, 19616, 19617, 19618] [155, 163] = true) : g_told F A X 200 a_m248 155 1 false := by
  intro us h C S K0 hl hb hI hk
  obtain ⟨hr, ⟨hJ, hS, hC⟩, hday⟩ := hI
  match us, hl with
  | [u0], _ => exact p_which hr hJ hS (fun r H hf q0 q1 => hk r H ⟨hf.1, ⟨q0, q1, (j_cost_e hf rfl rfl hC)⟩, t_day_fr hf rfl hday⟩ (g_fk_ok hf h6))
theorem g_r249 {X : aX} {F A : List Nat} (h6 : g_fk F A [19584, 19619] [172, 173, 174, 175] = true) : g_told F A X 200 a_m249 155 4 false := by
  intro us h C S K0 hl hb hI hk
  obtain ⟨hr, ⟨hJ, hS, hC⟩, hday⟩ := hI
  match us, hl with
  | [u0, u1, u2, u3], _ => exact p_span hr hJ (fun r H hf q0 => hk r H ⟨hf.1, ⟨q0, (j_say_e hf rfl rfl hS), (j_cost_e hf rfl rfl hC)⟩, t_day_fr hf rfl hday⟩ (g_fk_ok hf h6))
theorem g_r250 {X : aX} {F A : List Nat} (h6 : g_fk F A [19584, 19585, 19587, 19588] [154, 155, 158, 163, 176] = true) : g_told F A X 200 a_m250 155 2 false := by
  intro us h C S K0 hl hb hI hk
  obtain ⟨hr, ⟨hJ, hS, hC⟩, hday⟩ := hI
  match us, hl with
  | [u0, u1], _ => exact p_reach hr hJ (fun r H hf q0 => hk r H ⟨hf.1, ⟨q0, (j_say_e hf rfl rfl hS), (j_cost_e hf rfl rfl hC)⟩, t_day_fr hf rfl hday⟩ (g_fk_ok hf h6))
theorem g_r254 {X : aX} {F A : List Nat} (h6 : g_fk F A [19584, 19585, 19587, 19588] [154, 155, 158, 163, 176] = true) : g_told F A X 200 a_m254 155 1 false := by
  intro us h C S K0 hl hb hI hk
  obtain ⟨hr, ⟨hJ, hS, hC⟩, hday⟩ := hI
  match us, hl with
  | [u0], _ => exact p_leans hr hJ (fun r H hf q0 => hk r H ⟨hf.1, ⟨q0, (j_say_e hf rfl rfl hS), (j_cost_e hf rfl rfl hC)⟩, t_day_fr hf rfl hday⟩ (g_fk_ok hf h6))
theorem g_r255 {X : aX} {F A : List Nat} (h6 : g_fk F A [19584, 19625] [177, 178] = true) : g_told F A X 200 a_m255 155 2 false := by
  intro us h C S K0 hl hb hI hk
  obtain ⟨hr, ⟨hJ, hS, hC⟩, hday⟩ := hI
  match us, hl with
  | [u0, u1], _ => exact p_head hr (fun r H hf => hk r H ⟨hf.1, ⟨(y_J_fr hf rfl rfl hJ), (j_say_e hf rfl rfl hS), (j_cost_e hf rfl rfl hC)⟩, t_day_fr hf rfl hday⟩ (g_fk_ok hf h6))
theorem g_r256 {X : aX} {F A : List Nat} (h6 : g_fk F A [19584, 19585, 19587, 19588, 19589, 19629, 19630, 19631, 19632, 19633] [154, 163, 179] = true) : g_told F A X 200 a_m256 155 2 false := by
  intro us h C S K0 hl hb hI hk
  obtain ⟨hr, ⟨hJ, hS, hC⟩, hday⟩ := hI
  match us, hl with
  | [u0, u1], _ => exact p_hear hr hJ (fun r H hf q0 => hk r H ⟨hf.1, ⟨q0, (j_say_e hf rfl rfl hS), (j_cost_e hf rfl rfl hC)⟩, t_day_fr hf rfl hday⟩ (g_fk_ok hf h6))
theorem g_r262 {X : aX} {F A : List Nat} (h6 : g_fk F A [19584, 19587, 19588, 19589, 19629, 19630, 19631, 19632, 19633] [155, 163, 179] = true) : g_told F A X 200 a_m262 155 2 false := by
  intro us h C S K0 hl hb hI hk
  obtain ⟨hr, ⟨hJ, hS, hC⟩, hday⟩ := hI
  match us, hl with
  | [u0, u1], _ => exact p_errs hr hJ (fun r H hf q0 => hk r H ⟨hf.1, ⟨q0, (j_say_e hf rfl rfl hS), (j_cost_e hf rfl rfl hC)⟩, t_day_fr hf rfl hday⟩ (g_fk_ok hf h6))
theorem g_r263 {X : aX} {F A : List Nat} (h6 : g_fk F A [19584, 19585, 19587, 19588, 19589, 19629, 19630, 19631, 19632, 19633, 19636, 19637, 19638, 19639] [154, 155, 163, 179, 180, 181] = true) : g_told F A X 200 a_m263 155 2 false := by
  intro us h C S K0 hl hb hI hk
  obtain ⟨hr, ⟨hJ, hS, hC⟩, hday⟩ := hI
  match us, hl with
  | [u0, u1], _ => exact p_order hr hJ (fun r H hf q0 => hk r H ⟨hf.1, ⟨q0, (j_say_e hf rfl rfl hS), (j_cost_e hf rfl rfl hC)⟩, t_day_fr hf rfl hday⟩ (g_fk_ok hf h6))
theorem g_r265 {X : aX} {F A : List Nat} (h6 : g_fk F A [19584, 19585, 19587, 19588] [154] = true) : g_told F A X 200 a_m265 155 4 false := by
  intro us h C S K0 hl hb hI hk
  obtain ⟨hr, ⟨hJ, hS, hC⟩, hday⟩ := hI
  match us, hl with
  | [u0, u1, u2, u3], _ => exact p_list hr (fun r H hf => hk r H ⟨hf.1, ⟨(y_J_fr hf rfl rfl hJ), (j_say_e hf rfl rfl hS), (j_cost_e hf rfl rfl hC)⟩, t_day_fr hf rfl hday⟩ (g_fk_ok hf h6))
theorem g_r267 {X : aX} {F A : List Nat} (h6 : g_fk F A [19584] [] = true) : g_told F A X 200 a_m267 155 2 false := by
  intro us h C S K0 hl hb hI hk
  obtain ⟨hr, ⟨hJ, hS, hC⟩, hday⟩ := hI
  match us, hl with
  | [u0, u1], _ => exact p_many hr (fun H hf => hk _ H ⟨hf.1, ⟨(y_J_fr hf rfl rfl hJ), (j_say_e hf rfl rfl hS), (j_cost_e hf rfl rfl hC)⟩, t_day_fr hf rfl hday⟩ (g_fk_ok hf h6))
theorem g_r268 {X : aX} {F A : List Nat} (h6 : g_fk F A [19584, 19585, 19587, 19588, 19589] [154, 163] = true) : g_told F A X 200 a_m268 155 3 false := by
  intro us h C S K0 hl hb hI hk
  obtain ⟨hr, ⟨hJ, hS, hC⟩, hday⟩ := hI
  match us, hl with
  | [u0, u1, u2], _ => exact p_test hr hJ (fun r H hf q0 => hk r H ⟨hf.1, ⟨q0, (j_say_e hf rfl rfl hS), (j_cost_e hf rfl rfl hC)⟩, t_day_fr hf rfl hday⟩ (g_fk_ok hf h6))
theorem g_r270 {X : aX} {F A : List Nat} (h6 : g_fk F A [19584, 19640] [182, 183] = true) : g_told F A X 200 a_m270 155 5 false := by
  intro us h C S K0 hl hb hI hk
  obtain ⟨hr, ⟨hJ, hS, hC⟩, hday⟩ := hI
  match us, hl with
  | [u0, u1, u2, u3, u4], _ => exact p_land hr hJ (fun r H hf q0 => hk r H ⟨hf.1, ⟨q0, (j_say_e hf rfl rfl hS), (j_cost_e hf rfl rfl hC)⟩, t_day_fr hf rfl hday⟩ (g_fk_ok hf h6))
theorem g_r271 {X : aX} {F A : List Nat} (h6 : g_fk F A [19584, 19585, 19587, 19588] [154] = true) : g_told F A X 200 a_m271 155 2 false := by
  intro us h C S K0 hl hb hI hk
  obtain ⟨hr, ⟨hJ, hS, hC⟩, hday⟩ := hI
  match us, hl with
  | [u0, u1], _ => exact p_mark hr hJ (fun r H hf q0 => hk r H ⟨hf.1, ⟨q0, (j_say_e hf rfl rfl hS), (j_cost_e hf rfl rfl hC)⟩, t_day_fr hf rfl hday⟩ (g_fk_ok hf h6))
theorem g_r272 {X : aX} {F A : List Nat} (h6 : g_fk F A [19584] [] = true) : g_told F A X 200 a_m272 155 2 false := by
  intro us h C S K0 hl hb hI hk
  obtain ⟨hr, ⟨hJ, hS, hC⟩, hday⟩ := hI
  match us, hl with
  | [u0, u1], _ => exact p_rare hr hJ (fun r H hf => hk r H ⟨hf.1, ⟨(y_J_fr hf rfl rfl hJ), (j_say_e hf rfl rfl hS), (j_cost_e hf rfl rfl hC)⟩, t_day_fr hf rfl hday⟩ (g_fk_ok hf h6))
theorem g_r273 {X : aX} {F A : List Nat} (h6 : g_fk F A [19584, 19643] [184, 185, 186] = true) : g_told F A X 200 a_m273 155 3 true := by
  intro us h C S K0 hl hb hI hk
  obtain ⟨hr, ⟨hJ, hS, hC⟩, hday⟩ := hI
  match us, hl with
  | [u0, u1, u2], _ => exact p_day hr (hb rfl u0 (by simp)).1 (hb rfl u0 (by simp)).2 (hb rfl u1 (by simp)).1 (hb rfl u1 (by simp)).2 (hb rfl u2 (by simp)).1 (hb rfl u2 (by simp)).2 (fun r H hf => hk r H ⟨hf.1, ⟨(y_J_fr hf rfl rfl hJ), (j_say_e hf rfl rfl hS), (j_cost_e hf rfl rfl hC)⟩, t_day_fr hf rfl hday⟩ (g_fk_ok hf h6))
theorem g_r274 {X : aX} {F A : List Nat} (h6 : g_fk F A [19584, 19585, 19587, 19588] [154] = true) : g_told F A X 200 a_m274 155 1 false := by
  intro us h C S K0 hl hb hI hk
  obtain ⟨hr, ⟨hJ, hS, hC⟩, hday⟩ := hI
  match us, hl with
  | [u0], _ => exact p_shifts hr (fun r H hf => hk r H ⟨hf.1, ⟨(y_J_fr hf rfl rfl hJ), (j_say_e hf rfl rfl hS), (j_cost_e hf rfl rfl hC)⟩, t_day_fr hf rfl hday⟩ (g_fk_ok hf h6))
theorem g_r278 {X : aX} {F A : List Nat} (h6 : g_fk F A [19584, 19587, 19588] [] = true) : g_told F A X 200 a_m278 155 1 false := by
  intro us h C S K0 hl hb hI hk
  obtain ⟨hr, ⟨hJ, hS, hC⟩, hday⟩ := hI
  match us, hl with
  | [u0], _ => exact p_enough hr (fun r H hf => hk r H ⟨hf.1, ⟨(y_J_fr hf rfl rfl hJ), (j_say_e hf rfl rfl hS), (j_cost_e hf rfl rfl hC)⟩, t_day_fr hf rfl hday⟩ (g_fk_ok hf h6))
theorem g_r279 {X : aX} {F A : List Nat} (h6 : g_fk F A [19584] [187, 188, 189, 190, 191, 192, 193, 194] = true) : g_told F A X 200 a_m279 155 1 false := by
  intro us h C S K0 hl hb hI hk
  obtain ⟨hr, ⟨hJ, hS, hC⟩, hday⟩ := hI
  match us, hl with
  | [u0], _ => exact p_keep hr hJ hC (fun r H hf q0 q1 q2 => hk r H ⟨hf.1, ⟨q0, (j_say_e hf rfl rfl hS), q1⟩, t_day_fr hf rfl hday⟩ (g_fk_ok hf h6))
theorem g_r280 {X : aX} {F A : List Nat} (h6 : g_fk F A [19584, 19598] [158, 159, 160, 161, 162] = true) : g_told F A X 200 a_m280 155 1 false := by
  intro us h C S K0 hl hb hI hk
  obtain ⟨hr, ⟨hJ, hS, hC⟩, hday⟩ := hI
  match us, hl with
  | [u0], _ => exact p_again hr hJ hC (fun r H hf q0 q1 q2 => hk r H ⟨hf.1, ⟨q0, (j_say_e hf rfl rfl hS), q1⟩, t_day_fr hf rfl hday⟩ (g_fk_ok hf h6))
theorem g_r281 {X : aX} {F A : List Nat} (h6 : g_fk F A [19584] [] = true) : g_told F A X 200 a_m281 155 1 false := by
  intro us h C S K0 hl hb hI hk
  obtain ⟨hr, ⟨hJ, hS, hC⟩, hday⟩ := hI
  match us, hl with
  | [u0], _ => exact p_count hr hJ (fun r H hf => hk r H ⟨hf.1, ⟨(y_J_fr hf rfl rfl hJ), (j_say_e hf rfl rfl hS), (j_cost_e hf rfl rfl hC)⟩, t_day_fr hf rfl hday⟩ (g_fk_ok hf h6))
theorem g_r283 {X : aX} {F A : List Nat} (h6 : g_fk F A [19584] [] = true) : g_told F A X 200 a_m283 155 2 false := by
  intro us h C S K0 hl hb hI hk
  obtain ⟨hr, ⟨hJ, hS, hC⟩, hday⟩ := hI
  match us, hl with
  | [u0, u1], _ => exact p_of hr hJ (fun r H hf => hk r H ⟨hf.1, ⟨(y_J_fr hf rfl rfl hJ), (j_say_e hf rfl rfl hS), (j_cost_e hf rfl rfl hC)⟩, t_day_fr hf rfl hday⟩ (g_fk_ok hf h6))
theorem g_r287 {X : aX} {F A : List Nat} (h6 : g_fk F A [19584] [] = true) : g_toldL F A X 200 a_m287 155 1 false := by
  intro us h C S K0 hl hb hI hk
  obtain ⟨hr, ⟨hJ, hS, hC⟩, hday⟩ := hI
  match us, hl with
  | [u0], _ => exact p_row hr (fun r H hf => hk r H ⟨hf.1, ⟨(y_J_fr hf rfl rfl hJ), (j_say_e hf rfl rfl hS), (j_cost_e hf rfl rfl hC)⟩, t_day_fr hf rfl hday⟩ (g_fk_ok hf h6))
/-- what rests on those places alone -/
def g_sup (I : aH → Prop) (F A : List Nat) : Prop := ∀ h H, t_I H → g_sm F A h H → I h → I H
section GO
variable {X : aX} {j n r0 : Nat} {b : Bool} {M : aM} {I : aH → Prop} {Md : Nat → List Int32 → Int32 → aH → Prop} {F A : List Nat}
theorem g_of1 (hs : g_sup I F A) (hi : ∀ h, I h → t_I h) (g : g_told F A X 200 M r0 n b) (hM : s_P[j]? = some M) (ha : M.2.2.2.2.1 = n) (hl : Nat.ble (n + 1) M.2.2.1 = true) : n_G X I Md (j, r0, n, b, 1, 0, 0) :=
  ⟨M, hM, ha, hl, fun us h0 C S K0 h1 h2 h3 => g us h0 C S K0 h1 h2 (hi _ h3.1) (fun x H hI s => h3.2 _ H (hs h0 H hI s h3.1) (Or.inr ⟨(show (1 : Nat) ≠ 2 by decide), x, rfl⟩))⟩
theorem g_of2 (hs : g_sup I F A) (hi : ∀ h, I h → t_I h) (g : g_toldL F A X 200 M r0 n b) (hM : s_P[j]? = some M) (ha : M.2.2.2.2.1 = n) (hl : Nat.ble (n + 1) M.2.2.1 = true) : n_G X I Md (j, r0, n, b, 2, 0, 0) :=
  ⟨M, hM, ha, hl, fun us h0 C S K0 h1 h2 h3 => g us h0 C S K0 h1 h2 (hi _ h3.1) (fun x H hI s => h3.2 _ H (hs h0 H hI s h3.1) (Or.inl ⟨rfl, x, rfl⟩))⟩
def g_low (F A : List Nat) : Bool := F.all (fun k => Nat.blt k 24960) && A.all (fun o => Nat.blt o 195)
theorem g_I_out {h H : aH} (hs : g_sup I F A) (hi : ∀ h, I h → t_I h) (hw : g_low F A = true) (e : y_fr h H [] [195]) (q : I h) : I H := by
  unfold g_low at hw
  rw [Bool.and_eq_true] at hw
  refine hs h H (t_I_out e (hi _ q)) ⟨fun k _ => e.2.1 k List.not_mem_nil, fun o ho => e.2.2 o (fun w => ?_)⟩ q
  have := List.all_eq_true.mp hw.2 o ho
  rw [Nat.blt_eq] at this
  have w := List.mem_singleton.mp w
  omega
theorem g_I_app {H l : aH} (hs : g_sup I F A) (hi : ∀ h, I h → t_I h) (hw : g_low F A = true) (q : I H) : I (H ++ l) := by
  unfold g_low at hw
  rw [Bool.and_eq_true] at hw
  have hr := (hi _ q).1
  have hlen : 195 < H.length := by
    obtain ⟨e, h1, -⟩ := hr.1 195 _ rfl
    exact (List.getElem?_eq_some_iff.mp h1).1
  have hg : ∀ o, o < 196 → (H ++ l)[o]? = H[o]? := fun o ho => List.getElem?_append_left (by omega)
  refine hs H _ (t_I_app (hi _ q)) ⟨fun k hk => ?_, fun o ho => ?_⟩ q
  · have := List.all_eq_true.mp hw.1 k hk
    rw [Nat.blt_eq] at this
    unfold w_f
    rw [hg _ (by omega)]
  · have := List.all_eq_true.mp hw.2 o ho
    rw [Nat.blt_eq] at this
    unfold w_a
    rw [hg _ (by omega)]
end GO
theorem g_S169 {X : aX} {I : aH → Prop} {F A : List Nat} (hs : g_sup I F A) (hi : ∀ h, I h → t_I h) (hw : g_low F A = true) : n_S X I 169 2 := by
  refine ⟨a_m169, rfl, rfl, rfl, fun us h C S K0 hl hI hk => ?_⟩
  match us, hl with
  | [a, b], _ =>
    have T8 : ∀ {G : aH} {r : Int32}, y_fr h G [] [] → aOK s_P X 201 a_m169 8 [some (.ref 2), some (.int a), some (.int b), some (.ref 197), none] [.int r, .int (Int32.ofInt 0), .ref 197] G C S K0 := by
      intro G r e
      refine w_go z_hl [] [] 30 e.1 ?_
      exact ⟨⟨by decide, by decide⟩, y_l64 _, fun l hl len bb => fun H hH => hk _ H C S (g_I_out hs hi hw (y_st (y_mo e rfl rfl) hH (by repeat (first | exact w_nil | refine w_cons (Or.inl (y_m rfl)) ?_ | refine w_cons (Or.inr (by assumption)) ?_)) (by repeat (first | exact w_nil | refine w_cons (Or.inl (y_m rfl)) ?_ | refine w_cons (Or.inr (by assumption)) ?_))) hI) (by omega) (by omega)⟩
    show aOK s_P X 201 a_m169 0 [some (.ref 2), some (.int a), some (.int b), some (.ref 197), none] [] h C S K0
    refine aOK_op rfl rfl ?_
    refine aOK_op rfl rfl ?_
    refine aOK_op rfl rfl ?_
    refine aOK_op rfl rfl ?_
    refine aOK_op rfl rfl ?_
    have hinv : a_inv s_P (.invokevirtual 7) (18, 170, 11, 1305159) [.int b, .int a, .ref 2, .int (Int32.ofInt 0), .ref 197] h = some (a_m170, [.ref 2, .int a, .int b], [.int (Int32.ofInt 0), .ref 197]) := by
      have hrc := l_recv (hi _ hI).1 (r0 := 2) (ci := 11) rfl
      show (if a_recv h (.ref 2) 11 = true ∧ _ ∧ _ then some _ else none) = _
      rw [if_pos ⟨hrc, Nat.le_of_ble_eq_true rfl, Nat.le_of_ble_eq_true rfl⟩]
      rfl
    refine aOK_call rfl (by cases X <;> rfl) rfl hinv ?_
    show aOK s_P X (198 + 2) a_m170 0 [some (.ref 2), some (.int a), some (.int b)] [] h C S _
    refine c_of (hi _ hI).1 (fun r H e => Or.inr ⟨fun n q => (by cases q), ?_⟩) (fun H e => Or.inl ⟨⟨0, rfl⟩, rfl, hk _ _ _ _ (g_I_app hs hi hw (g_I_out hs hi hw (y_mo e rfl rfl) hI)) (by omega) (by omega)⟩)
    exact T8 e
theorem g_S171 {X : aX} {I : aH → Prop} {F A : List Nat} (hs : g_sup I F A) (hi : ∀ h, I h → t_I h) (hw : g_low F A = true) : n_S X I 171 1 := by
  refine ⟨a_m171, rfl, rfl, rfl, fun us h C S K0 hl hI hk => ?_⟩
  match us, hl with
  | [a], _ =>
    have T7 : ∀ {G : aH} {r : Int64}, y_fr h G [] [] → aOK s_P X 201 a_m171 7 [some (.ref 2), some (.int a), some (.ref 197), none] [.long r, .int (Int32.ofInt 0), .ref 197] G C S K0 := by
      intro G r e
      refine w_go z_hl [] [] 30 e.1 ?_
      exact ⟨⟨by decide, by decide⟩, y_l64 _, fun l hl len bb => fun H hH => hk _ H C S (g_I_out hs hi hw (y_st (y_mo e rfl rfl) hH (by repeat (first | exact w_nil | refine w_cons (Or.inl (y_m rfl)) ?_ | refine w_cons (Or.inr (by assumption)) ?_)) (by repeat (first | exact w_nil | refine w_cons (Or.inl (y_m rfl)) ?_ | refine w_cons (Or.inr (by assumption)) ?_))) hI) (by omega) (by omega)⟩
    show aOK s_P X 201 a_m171 0 [some (.ref 2), some (.int a), some (.ref 197), none] [] h C S K0
    refine aOK_op rfl rfl ?_
    refine aOK_op rfl rfl ?_
    refine aOK_op rfl rfl ?_
    refine aOK_op rfl rfl ?_
    have hinv : a_inv s_P (.invokevirtual 15) (18, 172, 11, 1105233) [.int a, .ref 2, .int (Int32.ofInt 0), .ref 197] h = some (a_m172, [.ref 2, .int a], [.int (Int32.ofInt 0), .ref 197]) := by
      have hrc := l_recv (hi _ hI).1 (r0 := 2) (ci := 11) rfl
      show (if a_recv h (.ref 2) 11 = true ∧ _ ∧ _ then some _ else none) = _
      rw [if_pos ⟨hrc, Nat.le_of_ble_eq_true rfl, Nat.le_of_ble_eq_true rfl⟩]
      rfl
    refine aOK_call rfl (by cases X <;> rfl) rfl hinv ?_
    show aOK s_P X 200 a_m172 0 [some (.ref 2), some (.int a)] [] h C S _
    refine c_row (hi _ hI).1 (fun r H e => Or.inr ⟨fun n q => (by cases q), ?_⟩) (fun H e => Or.inl ⟨⟨0, rfl⟩, rfl, hk _ _ _ _ (g_I_app hs hi hw (g_I_out hs hi hw (y_mo e rfl rfl) hI)) (by omega) (by omega)⟩)
    exact T7 e
end PT33ib
