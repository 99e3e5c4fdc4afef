section PT33i
/-! ===== v5: methods that leave what is held alike (laid by wip/tools/mk33i.py) ===== -/
theorem n_a28 {X : aX} : n_toldI X 200 a_m28 2 1 false := n_ctxW (n := 1) (m := 0) (b := false) (fun v => z_x10_p n_Wv_p n_h9) rfl rfl rfl (by decide +kernel) (by decide +kernel) rfl rfl (by decide +kernel) (by decide +kernel) (by decide +kernel)
theorem n_a33 {X : aX} : n_toldI X 200 a_m33 2 1 false := n_ctxW (n := 1) (m := 0) (b := false) (fun v => z_x18_p n_Wv_p n_h9) rfl rfl rfl (by decide +kernel) (by decide +kernel) rfl rfl (by decide +kernel) (by decide +kernel) (by decide +kernel)
theorem n_a46 {X : aX} : n_toldI X 200 a_m46 2 1 false := n_ctxW (n := 1) (m := 2) (b := false) (fun v => z_x19_p n_Wv_p n_h9) rfl rfl rfl (by decide +kernel) (by decide +kernel) rfl rfl (by decide +kernel) (by decide +kernel) (by decide +kernel)
theorem n_a47 {X : aX} : n_toldI X 200 a_m47 2 0 false := n_ctxW (n := 0) (m := 2) (b := false) (fun v => z_x21_p n_Wv_p n_h9) rfl rfl rfl (by decide +kernel) (by decide +kernel) rfl rfl (by decide +kernel) (by decide +kernel) (by decide +kernel)
theorem n_a49 {X : aX} : n_toldI X 200 a_m49 2 2 false := n_ctxW (n := 2) (m := 0) (b := false) (fun v => z_x23_p n_Wv_p n_h9) rfl rfl rfl (by decide +kernel) (by decide +kernel) rfl rfl (by decide +kernel) (by decide +kernel) (by decide +kernel)
theorem n_a52 {X : aX} : n_toldI X 200 a_m52 2 1 false := n_ctxW (n := 1) (m := 3) (b := false) (fun v => z_x28_p n_Wv_p n_h9) rfl rfl rfl (by decide +kernel) (by decide +kernel) rfl rfl (by decide +kernel) (by decide +kernel) (by decide +kernel)
theorem n_a54 {X : aX} : n_toldI X 200 a_m54 2 2 false := n_ctxW (n := 2) (m := 0) (b := false) (fun v => z_x30_p n_Wv_p n_h9) rfl rfl rfl (by decide +kernel) (by decide +kernel) rfl rfl (by decide +kernel) (by decide +kernel) (by decide +kernel)
theorem n_a57 {X : aX} : n_told X 200 a_m57 2 2 false := n_ctx0 (n := 2) (m := 1) (b := false) (z_x31_s (y_jx_l y_JA_x)) rfl rfl rfl (by decide +kernel) (by decide +kernel) rfl rfl (by decide +kernel) (by decide +kernel) (by decide +kernel)
theorem n_a58 {X : aX} : n_toldI X 200 a_m58 2 1 false := n_ctxW (n := 1) (m := 2) (b := false) (fun v => z_x32_p n_Wv_p n_h9) rfl rfl rfl (by decide +kernel) (by decide +kernel) rfl rfl (by decide +kernel) (by decide +kernel) (by decide +kernel)
theorem n_a61 {X : aX} : n_told X 200 a_m61 2 3 false := n_ctx0 (n := 3) (m := 0) (b := false) (z_x35_s (y_jx_l y_JA_x)) rfl rfl rfl (by decide +kernel) (by decide +kernel) rfl rfl (by decide +kernel) (by decide +kernel) (by decide +kernel)
theorem n_a66 {X : aX} : n_toldI X 200 a_m66 2 3 false := n_ctxW (n := 3) (m := 3) (b := false) (fun v => z_x37_p n_Wv_p n_h9) rfl rfl rfl (by decide +kernel) (by decide +kernel) rfl rfl (by decide +kernel) (by decide +kernel) (by decide +kernel)
theorem n_a68 {X : aX} : n_toldI X 200 a_m68 2 1 false := n_ctxW (n := 1) (m := 2) (b := false) (fun v => z_x39_p n_Wv_p n_h9) rfl rfl rfl (by decide +kernel) (by decide +kernel) rfl rfl (by decide +kernel) (by decide +kernel) (by decide +kernel)
theorem n_a71 {X : aX} : n_toldI X 200 a_m71 2 1 false := n_ctxW (n := 1) (m := 6) (b := false) (fun v => z_x40_p n_Wv_p n_h9) rfl rfl rfl (by decide +kernel) (by decide +kernel) rfl rfl (by decide +kernel) (by decide +kernel) (by decide +kernel)
theorem n_a92 {X : aX} : n_toldI X 200 a_m92 2 1 false := n_ctxW (n := 1) (m := 0) (b := false) (fun v => z_x463_p n_Wv_p n_h9) rfl rfl rfl (by decide +kernel) (by decide +kernel) rfl rfl (by decide +kernel) (by decide +kernel) (by decide +kernel)
theorem n_a112 {X : aX} : n_toldI X 200 a_m112 2 2 false := n_ctxW (n := 2) (m := 1) (b := false) (fun v => z_x464_p n_Wv_p n_h9) rfl rfl rfl (by decide +kernel) (by decide +kernel) rfl rfl (by decide +kernel) (by decide +kernel) (by decide +kernel)
theorem n_a113 {X : aX} : n_toldI X 200 a_m113 2 2 false := n_ctxW (n := 2) (m := 0) (b := false) (fun v => z_x465_p n_Wv_p n_h9) rfl rfl rfl (by decide +kernel) (by decide +kernel) rfl rfl (by decide +kernel) (by decide +kernel) (by decide +kernel)
theorem n_a114 {X : aX} : n_toldI X 200 a_m114 2 1 false := n_ctxW (n := 1) (m := 3) (b := false) (fun v => z_x466_p n_Wv_p n_h9) rfl rfl rfl (by decide +kernel) (by decide +kernel) rfl rfl (by decide +kernel) (by decide +kernel) (by decide +kernel)
theorem n_a115 {X : aX} : n_told X 200 a_m115 2 4 false := n_ctx0 (n := 4) (m := 1) (b := false) (z_x469_s (y_jx_l y_JA_x)) rfl rfl rfl (by decide +kernel) (by decide +kernel) rfl rfl (by decide +kernel) (by decide +kernel) (by decide +kernel)
theorem n_a128 {X : aX} : n_toldI X 200 a_m128 2 2 false := n_ctxW (n := 2) (m := 1) (b := false) (fun v => z_x491_p n_Wv_p n_h9) rfl rfl rfl (by decide +kernel) (by decide +kernel) rfl rfl (by decide +kernel) (by decide +kernel) (by decide +kernel)
theorem n_a137 {X : aX} : n_toldI X 200 a_m137 2 2 false := n_ctxW (n := 2) (m := 4) (b := false) (fun v => z_x493_p n_Wv_p n_h9) rfl rfl rfl (by decide +kernel) (by decide +kernel) rfl rfl (by decide +kernel) (by decide +kernel) (by decide +kernel)
theorem n_a139 {X : aX} : n_toldI X 200 a_m139 2 2 false := n_ctxW (n := 2) (m := 5) (b := false) (fun v => z_x496_p n_Wv_p n_h9) rfl rfl rfl (by decide +kernel) (by decide +kernel) rfl rfl (by decide +kernel) (by decide +kernel) (by decide +kernel)
theorem n_a143 {X : aX} : n_told X 200 a_m143 2 4 false := n_ctx0 (n := 4) (m := 0) (b := false) (z_x497_s (y_jx_l y_JA_x)) rfl rfl rfl (by decide +kernel) (by decide +kernel) rfl rfl (by decide +kernel) (by decide +kernel) (by decide +kernel)
theorem n_a145 {X : aX} : n_told X 200 a_m145 2 2 false := n_ctx0 (n := 2) (m := 3) (b := false) (z_x498_s (y_jx_l y_JA_x)) rfl rfl rfl (by decide +kernel) (by decide +kernel) rfl rfl (by decide +kernel) (by decide +kernel) (by decide +kernel)
theorem n_a146 {X : aX} : n_toldI X 200 a_m146 2 3 false := n_ctxW (n := 3) (m := 9) (b := false) (fun v => z_x500_p n_Wv_p n_h9) rfl rfl rfl (by decide +kernel) (by decide +kernel) rfl rfl (by decide +kernel) (by decide +kernel) (by decide +kernel)
theorem n_a149 {X : aX} : n_told X 200 a_m149 2 5 false := n_ctx0 (n := 5) (m := 2) (b := false) (z_x501_s (y_jx_l y_JA_x)) rfl rfl rfl (by decide +kernel) (by decide +kernel) rfl rfl (by decide +kernel) (by decide +kernel) (by decide +kernel)
theorem n_a153 {X : aX} : n_told X 200 a_m153 2 2 false := n_ctx0 (n := 2) (m := 0) (b := false) (z_x502_s (y_jx_l y_JA_x)) rfl rfl rfl (by decide +kernel) (by decide +kernel) rfl rfl (by decide +kernel) (by decide +kernel) (by decide +kernel)
theorem n_a156 {X : aX} : n_told X 200 a_m156 2 2 false := n_ctx0 (n := 2) (m := 3) (b := false) (z_x503_s (y_jx_l y_JA_x)) rfl rfl rfl (by decide +kernel) (by decide +kernel) rfl rfl (by decide +kernel) (by decide +kernel) (by decide +kernel)
theorem n_a159 {X : aX} : n_told X 200 a_m159 2 1 false := n_ctx0 (n := 1) (m := 2) (b := false) (z_x507_s (y_jx_l y_JA_x)) rfl rfl rfl (by decide +kernel) (by decide +kernel) rfl rfl (by decide +kernel) (by decide +kernel) (by decide +kernel)
theorem n_a162 {X : aX} : n_told X 200 a_m162 2 1 false := n_ctx0 (n := 1) (m := 5) (b := false) (z_x508_s (y_jx_l y_JA_x)) rfl rfl rfl (by decide +kernel) (by decide +kernel) rfl rfl (by decide +kernel) (by decide +kernel) (by decide +kernel)
theorem n_a168 {X : aX} : n_told X 200 a_m168 2 1 false := n_ctx0 (n := 1) (m := 0) (b := false) (z_x511_s (y_jx_l y_JA_x)) rfl rfl rfl (by decide +kernel) (by decide +kernel) rfl rfl (by decide +kernel) (by decide +kernel) (by decide +kernel)
theorem n_a183 {X : aX} : n_told X 200 a_m183 155 1 false := by
  intro us h C S K0 hl hb hI hk
  obtain ⟨hr, ⟨hJ, hS, hC⟩, hday⟩ := hI
  match us, hl with
  | [u0], _ => exact p_weight hr hJ (fun r H hf => hk r H ⟨hf.1, ⟨(y_J_fr hf rfl rfl hJ), (j_say_e hf rfl rfl hS), (j_cost_e hf rfl rfl hC)⟩, t_day_fr hf rfl hday⟩ (n_fk_c (ex := []) hf rfl) (n_fk_m hf rfl))
theorem n_a187 {X : aX} : n_told X 200 a_m187 155 1 false := by
  intro us h C S K0 hl hb hI hk
  obtain ⟨hr, ⟨hJ, hS, hC⟩, hday⟩ := hI
  match us, hl with
  | [u0], _ => exact p_chance hr hJ (fun r H hf q0 => hk r H ⟨hf.1, ⟨q0, (j_say_e hf rfl rfl hS), (j_cost_e hf rfl rfl hC)⟩, t_day_fr hf rfl hday⟩ (n_fk_c (ex := []) hf rfl) (n_fk_m hf rfl))
theorem n_a198 {X : aX} : n_told X 200 a_m198 155 1 false := by
  intro us h C S K0 hl hb hI hk
  obtain ⟨hr, ⟨hJ, hS, hC⟩, hday⟩ := hI
  match us, hl with
  | [u0], _ => exact p_odds hr hJ (fun r H hf q0 => hk r H ⟨hf.1, ⟨q0, (j_say_e hf rfl rfl hS), (j_cost_e hf rfl rfl hC)⟩, t_day_fr hf rfl hday⟩ (n_fk_c (ex := []) hf rfl) (n_fk_m hf rfl))
theorem n_a199 {X : aX} : n_told X 200 a_m199 155 0 false := by
  intro us h C S K0 hl hb hI hk
  obtain ⟨hr, ⟨hJ, hS, hC⟩, hday⟩ := hI
  match us, hl with
  | [], _ => exact p_likely hr hJ (fun r H hf q0 => hk r H ⟨hf.1, ⟨q0, (j_say_e hf rfl rfl hS), (j_cost_e hf rfl rfl hC)⟩, t_day_fr hf rfl hday⟩ (n_fk_c (ex := []) hf rfl) (n_fk_m hf rfl))
theorem n_a200 {X : aX} : n_told X 200 a_m200 155 2 false := by
  intro us h C S K0 hl hb hI hk
  obtain ⟨hr, ⟨hJ, hS, hC⟩, hday⟩ := hI
  match us, hl with
  | [u0, u1], _ => exact p_moves hr hJ (fun r H hf q0 => hk r H ⟨hf.1, ⟨q0, (j_say_e hf rfl rfl hS), (j_cost_e hf rfl rfl hC)⟩, t_day_fr hf rfl hday⟩ (n_fk_c (ex := []) hf rfl) (n_fk_m hf rfl))
theorem n_a202 {X : aX} : n_told X 200 a_m202 155 1 false := by
  intro us h C S K0 hl hb hI hk
  obtain ⟨hr, ⟨hJ, hS, hC⟩, hday⟩ := hI
  match us, hl with
  | [u0], _ => exact p_most hr hJ (fun r H hf q0 => hk r H ⟨hf.1, ⟨q0, (j_say_e hf rfl rfl hS), (j_cost_e hf rfl rfl hC)⟩, t_day_fr hf rfl hday⟩ (n_fk_c (ex := []) hf rfl) (n_fk_m hf rfl))
theorem n_a204 {X : aX} : n_told X 200 a_m204 155 2 false := by
  intro us h C S K0 hl hb hI hk
  obtain ⟨hr, ⟨hJ, hS, hC⟩, hday⟩ := hI
  match us, hl with
  | [u0, u1], _ => exact p_worth hr hJ (fun r H hf q0 => hk r H ⟨hf.1, ⟨q0, (j_say_e hf rfl rfl hS), (j_cost_e hf rfl rfl hC)⟩, t_day_fr hf rfl hday⟩ (n_fk_c (ex := []) hf rfl) (n_fk_m hf rfl))
theorem n_a206 {X : aX} : n_told X 200 a_m206 155 2 false := by
  intro us h C S K0 hl hb hI hk
  obtain ⟨hr, ⟨hJ, hS, hC⟩, hday⟩ := hI
  match us, hl with
  | [u0, u1], _ => exact p_cost hr hJ hC (fun r H hf q0 => hk r H ⟨hf.1, ⟨(t_J161 hf hJ), (j_say_e hf rfl rfl hS), q0⟩, t_day_fr hf rfl hday⟩ (n_fk_c (ex := []) hf rfl) (n_fk_m hf rfl))
theorem n_a207 {X : aX} : n_told X 200 a_m207 155 1 false := by
  intro us h C S K0 hl hb hI hk
  obtain ⟨hr, ⟨hJ, hS, hC⟩, hday⟩ := hI
  match us, hl with
  | [u0], _ => exact p_need hr hJ hC (fun r H hf q0 => hk r H ⟨hf.1, ⟨q0, (j_say_e hf rfl rfl hS), (j_cost_e hf rfl rfl hC)⟩, t_day_fr hf rfl hday⟩ (n_fk_c (ex := []) hf rfl) (n_fk_m hf rfl))
theorem n_a208 {X : aX} : n_told X 200 a_m208 155 3 false := by
  intro us h C S K0 hl hb hI hk
  obtain ⟨hr, ⟨hJ, hS, hC⟩, hday⟩ := hI
  match us, hl with
  | [u0, u1, u2], _ => exact p_apart hr hJ (fun r H hf q0 => hk r H ⟨hf.1, ⟨q0, (j_say_e hf rfl rfl hS), (j_cost_e hf rfl rfl hC)⟩, t_day_fr hf rfl hday⟩ (n_fk_c (ex := []) hf rfl) (n_fk_m hf rfl))
theorem n_a213 {X : aX} : n_told X 200 a_m213 155 3 false := by
  intro us h C S K0 hl hb hI hk
  obtain ⟨hr, ⟨hJ, hS, hC⟩, hday⟩ := hI
  match us, hl with
  | [u0, u1, u2], _ => exact p_even hr hJ (fun r H hf q0 => hk r H ⟨hf.1, ⟨q0, (j_say_e hf rfl rfl hS), (j_cost_e hf rfl rfl hC)⟩, t_day_fr hf rfl hday⟩ (n_fk_c (ex := []) hf rfl) (n_fk_m hf rfl))
theorem n_a214 {X : aX} : n_told X 200 a_m214 155 1 false := by
  intro us h C S K0 hl hb hI hk
  obtain ⟨hr, ⟨hJ, hS, hC⟩, hday⟩ := hI
  match us, hl with
  | [u0], _ => exact p_joined hr hJ (fun r H hf q0 => hk r H ⟨hf.1, ⟨q0, (j_say_e hf rfl rfl hS), (j_cost_e hf rfl rfl hC)⟩, t_day_fr hf rfl hday⟩ (n_fk_c (ex := []) hf rfl) (n_fk_m hf rfl))
theorem n_a217 {X : aX} : n_told X 200 a_m217 155 1 false := by
  intro us h C S K0 hl hb hI hk
  obtain ⟨hr, ⟨hJ, hS, hC⟩, hday⟩ := hI
  match us, hl with
  | [u0], _ => exact p_bounds hr hJ (fun r H hf q0 => hk r H ⟨hf.1, ⟨q0, (j_say_e hf rfl rfl hS), (j_cost_e hf rfl rfl hC)⟩, t_day_fr hf rfl hday⟩ (n_fk_c (ex := []) hf rfl) (n_fk_m hf rfl))
theorem n_a233 {X : aX} : n_told X 200 a_m233 155 1 false := by
  intro us h C S K0 hl hb hI hk
  obtain ⟨hr, ⟨hJ, hS, hC⟩, hday⟩ := hI
  match us, hl with
  | [u0], _ => exact p_so hr hJ hS (fun r H hf q0 q1 => hk r H ⟨hf.1, ⟨q0, q1, (j_cost_e hf rfl rfl hC)⟩, t_day_fr hf rfl hday⟩ (n_fk_c (ex := []) hf rfl) (n_fk_m hf rfl))
theorem n_a246 {X : aX} : n_told X 200 a_m246 155 2 false := by
  intro us h C S K0 hl hb hI hk
  obtain ⟨hr, ⟨hJ, hS, hC⟩, hday⟩ := hI
  match us, hl with
  | [u0, u1], _ => exact p_term hr hJ hS (fun r H hf q0 q1 => hk r H ⟨hf.1, ⟨q0, q1, (j_cost_e hf rfl rfl hC)⟩, t_day_fr hf rfl hday⟩ (n_fk_c (ex := []) hf rfl) (n_fk_m hf rfl))
theorem n_a247 {X : aX} : n_told X 200 a_m247 155 2 false := by
  intro us h C S K0 hl hb hI hk
  obtain ⟨hr, ⟨hJ, hS, hC⟩, hday⟩ := hI
  match us, hl with
  | [u0, u1], _ => exact p_slip hr hJ hS (fun r H hf q0 q1 => hk r H ⟨hf.1, ⟨q0, q1, (j_cost_e hf rfl rfl hC)⟩, t_day_fr hf rfl hday⟩ (n_fk_c (ex := []) hf rfl) (n_fk_m hf rfl))
theorem n_a248 {X : aX} : n_told X 200 a_m248 155 1 false := by
  intro us h C S K0 hl hb hI hk
  obtain ⟨hr, ⟨hJ, hS, hC⟩, hday⟩ := hI
  match us, hl with
  | [u0], _ => exact p_which hr hJ hS (fun r H hf q0 q1 => hk r H ⟨hf.1, ⟨q0, q1, (j_cost_e hf rfl rfl hC)⟩, t_day_fr hf rfl hday⟩ (n_fk_c (ex := []) hf rfl) (n_fk_m hf rfl))
theorem n_a249 {X : aX} : n_told X 200 a_m249 155 4 false := by
  intro us h C S K0 hl hb hI hk
  obtain ⟨hr, ⟨hJ, hS, hC⟩, hday⟩ := hI
  match us, hl with
  | [u0, u1, u2, u3], _ => exact p_span hr hJ (fun r H hf q0 => hk r H ⟨hf.1, ⟨q0, (j_say_e hf rfl rfl hS), (j_cost_e hf rfl rfl hC)⟩, t_day_fr hf rfl hday⟩ (n_fk_c (ex := []) hf rfl) (n_fk_m hf rfl))
theorem n_a256 {X : aX} : n_told X 200 a_m256 155 2 false := by
  intro us h C S K0 hl hb hI hk
  obtain ⟨hr, ⟨hJ, hS, hC⟩, hday⟩ := hI
  match us, hl with
  | [u0, u1], _ => exact p_hear hr hJ (fun r H hf q0 => hk r H ⟨hf.1, ⟨q0, (j_say_e hf rfl rfl hS), (j_cost_e hf rfl rfl hC)⟩, t_day_fr hf rfl hday⟩ (n_fk_c (ex := []) hf rfl) (n_fk_m hf rfl))
theorem n_a262 {X : aX} : n_told X 200 a_m262 155 2 false := by
  intro us h C S K0 hl hb hI hk
  obtain ⟨hr, ⟨hJ, hS, hC⟩, hday⟩ := hI
  match us, hl with
  | [u0, u1], _ => exact p_errs hr hJ (fun r H hf q0 => hk r H ⟨hf.1, ⟨q0, (j_say_e hf rfl rfl hS), (j_cost_e hf rfl rfl hC)⟩, t_day_fr hf rfl hday⟩ (n_fk_c (ex := []) hf rfl) (n_fk_m hf rfl))
theorem n_a263 {X : aX} : n_told X 200 a_m263 155 2 false := by
  intro us h C S K0 hl hb hI hk
  obtain ⟨hr, ⟨hJ, hS, hC⟩, hday⟩ := hI
  match us, hl with
  | [u0, u1], _ => exact p_order hr hJ (fun r H hf q0 => hk r H ⟨hf.1, ⟨q0, (j_say_e hf rfl rfl hS), (j_cost_e hf rfl rfl hC)⟩, t_day_fr hf rfl hday⟩ (n_fk_c (ex := []) hf rfl) (n_fk_m hf rfl))
theorem n_a265 {X : aX} : n_told X 200 a_m265 155 4 false := by
  intro us h C S K0 hl hb hI hk
  obtain ⟨hr, ⟨hJ, hS, hC⟩, hday⟩ := hI
  match us, hl with
  | [u0, u1, u2, u3], _ => exact p_list hr (fun r H hf => hk r H ⟨hf.1, ⟨(y_J_fr hf rfl rfl hJ), (j_say_e hf rfl rfl hS), (j_cost_e hf rfl rfl hC)⟩, t_day_fr hf rfl hday⟩ (n_fk_c (ex := []) hf rfl) (n_fk_m hf rfl))
theorem n_a267 {X : aX} : n_told X 200 a_m267 155 2 false := by
  intro us h C S K0 hl hb hI hk
  obtain ⟨hr, ⟨hJ, hS, hC⟩, hday⟩ := hI
  match us, hl with
  | [u0, u1], _ => exact p_many hr (fun H hf => hk _ H ⟨hf.1, ⟨(y_J_fr hf rfl rfl hJ), (j_say_e hf rfl rfl hS), (j_cost_e hf rfl rfl hC)⟩, t_day_fr hf rfl hday⟩ (n_fk_c (ex := []) hf rfl) (n_fk_m hf rfl))
theorem n_a268 {X : aX} : n_told X 200 a_m268 155 3 false := by
  intro us h C S K0 hl hb hI hk
  obtain ⟨hr, ⟨hJ, hS, hC⟩, hday⟩ := hI
  match us, hl with
  | [u0, u1, u2], _ => exact p_test hr hJ (fun r H hf q0 => hk r H ⟨hf.1, ⟨q0, (j_say_e hf rfl rfl hS), (j_cost_e hf rfl rfl hC)⟩, t_day_fr hf rfl hday⟩ (n_fk_c (ex := []) hf rfl) (n_fk_m hf rfl))
theorem n_a270 {X : aX} : n_told X 200 a_m270 155 5 false := by
  intro us h C S K0 hl hb hI hk
  obtain ⟨hr, ⟨hJ, hS, hC⟩, hday⟩ := hI
  match us, hl with
  | [u0, u1, u2, u3, u4], _ => exact p_land hr hJ (fun r H hf q0 => hk r H ⟨hf.1, ⟨q0, (j_say_e hf rfl rfl hS), (j_cost_e hf rfl rfl hC)⟩, t_day_fr hf rfl hday⟩ (n_fk_c (ex := []) hf rfl) (n_fk_m hf rfl))
theorem n_a271 {X : aX} : n_told X 200 a_m271 155 2 false := by
  intro us h C S K0 hl hb hI hk
  obtain ⟨hr, ⟨hJ, hS, hC⟩, hday⟩ := hI
  match us, hl with
  | [u0, u1], _ => exact p_mark hr hJ (fun r H hf q0 => hk r H ⟨hf.1, ⟨q0, (j_say_e hf rfl rfl hS), (j_cost_e hf rfl rfl hC)⟩, t_day_fr hf rfl hday⟩ (n_fk_c (ex := []) hf rfl) (n_fk_m hf rfl))
theorem n_a272 {X : aX} : n_told X 200 a_m272 155 2 false := by
  intro us h C S K0 hl hb hI hk
  obtain ⟨hr, ⟨hJ, hS, hC⟩, hday⟩ := hI
  match us, hl with
  | [u0, u1], _ => exact p_rare hr hJ (fun r H hf => hk r H ⟨hf.1, ⟨(y_J_fr hf rfl rfl hJ), (j_say_e hf rfl rfl hS), (j_cost_e hf rfl rfl hC)⟩, t_day_fr hf rfl hday⟩ (n_fk_c (ex := []) hf rfl) (n_fk_m hf rfl))
theorem n_a274 {X : aX} : n_told X 200 a_m274 155 1 false := by
  intro us h C S K0 hl hb hI hk
  obtain ⟨hr, ⟨hJ, hS, hC⟩, hday⟩ := hI
  match us, hl with
  | [u0], _ => exact p_shifts hr (fun r H hf => hk r H ⟨hf.1, ⟨(y_J_fr hf rfl rfl hJ), (j_say_e hf rfl rfl hS), (j_cost_e hf rfl rfl hC)⟩, t_day_fr hf rfl hday⟩ (n_fk_c (ex := []) hf rfl) (n_fk_m hf rfl))
theorem n_a278 {X : aX} : n_told X 200 a_m278 155 1 false := by
  intro us h C S K0 hl hb hI hk
  obtain ⟨hr, ⟨hJ, hS, hC⟩, hday⟩ := hI
  match us, hl with
  | [u0], _ => exact p_enough hr (fun r H hf => hk r H ⟨hf.1, ⟨(y_J_fr hf rfl rfl hJ), (j_say_e hf rfl rfl hS), (j_cost_e hf rfl rfl hC)⟩, t_day_fr hf rfl hday⟩ (n_fk_c (ex := []) hf rfl) (n_fk_m hf rfl))
theorem n_a281 {X : aX} : n_told X 200 a_m281 155 1 false := by
  intro us h C S K0 hl hb hI hk
  obtain ⟨hr, ⟨hJ, hS, hC⟩, hday⟩ := hI
  match us, hl with
  | [u0], _ => exact p_count hr hJ (fun r H hf => hk r H ⟨hf.1, ⟨(y_J_fr hf rfl rfl hJ), (j_say_e hf rfl rfl hS), (j_cost_e hf rfl rfl hC)⟩, t_day_fr hf rfl hday⟩ (n_fk_c (ex := []) hf rfl) (n_fk_m hf rfl))
theorem n_a283 {X : aX} : n_told X 200 a_m283 155 2 false := by
  intro us h C S K0 hl hb hI hk
  obtain ⟨hr, ⟨hJ, hS, hC⟩, hday⟩ := hI
  match us, hl with
  | [u0, u1], _ => exact p_of hr hJ (fun r H hf => hk r H ⟨hf.1, ⟨(y_J_fr hf rfl rfl hJ), (j_say_e hf rfl rfl hS), (j_cost_e hf rfl rfl hC)⟩, t_day_fr hf rfl hday⟩ (n_fk_c (ex := []) hf rfl) (n_fk_m hf rfl))
theorem n_a287 {X : aX} : n_toldL X 200 a_m287 155 1 false := by
  intro us h C S K0 hl hb hI hk
  obtain ⟨hr, ⟨hJ, hS, hC⟩, hday⟩ := hI
  match us, hl with
  | [u0], _ => exact p_row hr (fun r H hf => hk r H ⟨hf.1, ⟨(y_J_fr hf rfl rfl hJ), (j_say_e hf rfl rfl hS), (j_cost_e hf rfl rfl hC)⟩, t_day_fr hf rfl hday⟩ (n_fk_c (ex := []) hf rfl) (n_fk_m hf rfl))
theorem n_I_out {h H : aH} (e : y_fr h H [] [195]) (q : n_I h) : n_I H := n_same_I (n_fk_c (ex := []) e rfl) (n_fk_m e rfl) (t_I_out e q.1) q
theorem n_I_app {H l : aH} (q : n_I H) : n_I (H ++ l) := by
  have hr := q.1.1
  have hlen : 195 < H.length := by
    obtain ⟨e, h1, -⟩ := hr.1 195 _ rfl
    exact (List.getElem?_eq_some_iff.mp h1).1
  have hg : ∀ o, o < 196 → (H ++ l)[o]? = H[o]? := fun o ho => List.getElem?_append_left (by omega)
  have hf : ∀ k, k < 196 * 128 → w_f (H ++ l) k = w_f H k := by
    intro k hk
    unfold w_f
    rw [hg _ (by omega)]
  have ha : ∀ o, o < 196 → w_a (H ++ l) o = w_a H o := by
    intro o ho
    unfold w_a
    rw [hg _ ho]
  refine n_same_I ⟨fun k hk => hf k ?_, fun o ho => ha o ?_⟩ ⟨fun p hp => hf p.2 ?_, fun o ho => ha o ?_, hf 19600 (by decide)⟩ (t_I_app q.1) q
  · have : ∀ k ∈ nC, k < 196 * 128 := by decide
    exact this k hk
  · have : ∀ o ∈ nCA, o < 196 := by decide
    exact this o ho
  · have : ∀ p ∈ nM, p.2 < 196 * 128 := by decide
    exact this p hp
  · have : ∀ o ∈ nMA, o < 196 := by decide
    exact this o ho
theorem n_S169 {X : aX} : n_S X n_I 169 2 := by
  refine ⟨a_m169, rfl, rfl, rfl, fun us h C S K0 hl hI hk => ?_⟩
  match us, hl with
  | [a, b], _ =>
    have T8 : ∀ {G : aH} {r : Int32}, y_fr h G [] [] → aOK s_P X 201 a_m169 8 [some (.ref 2), some (.int a), some (.int b), some (.ref 197), none] [.int r, .int (Int32.ofInt 0), .ref 197] G C S K0 := by
      intro G r e
      refine w_go z_hl [] [] 30 e.1 ?_
      exact ⟨⟨by decide, by decide⟩, y_l64 _, fun l hl len bb => fun H hH => hk _ H C S (n_I_out (y_st (y_mo e rfl rfl) hH (by repeat (first | exact w_nil | refine w_cons (Or.inl (y_m rfl)) ?_ | refine w_cons (Or.inr (by assumption)) ?_)) (by repeat (first | exact w_nil | refine w_cons (Or.inl (y_m rfl)) ?_ | refine w_cons (Or.inr (by assumption)) ?_))) hI) (by omega) (by omega)⟩
    show aOK s_P X 201 a_m169 0 [some (.ref 2), some (.int a), some (.int b), some (.ref 197), none] [] h C S K0
    refine aOK_op rfl rfl ?_
    refine aOK_op rfl rfl ?_
    refine aOK_op rfl rfl ?_
    refine aOK_op rfl rfl ?_
    refine aOK_op rfl rfl ?_
    have hinv : a_inv s_P (.invokevirtual 7) (18, 170, 11, 1305159) [.int b, .int a, .ref 2, .int (Int32.ofInt 0), .ref 197] h = some (a_m170, [.ref 2, .int a, .int b], [.int (Int32.ofInt 0), .ref 197]) := by
      have hrc := l_recv hI.1.1 (r0 := 2) (ci := 11) rfl
      show (if a_recv h (.ref 2) 11 = true ∧ _ ∧ _ then some _ else none) = _
      rw [if_pos ⟨hrc, Nat.le_of_ble_eq_true rfl, Nat.le_of_ble_eq_true rfl⟩]
      rfl
    refine aOK_call rfl (by cases X <;> rfl) rfl hinv ?_
    show aOK s_P X (198 + 2) a_m170 0 [some (.ref 2), some (.int a), some (.int b)] [] h C S _
    refine c_of hI.1.1 (fun r H e => Or.inr ⟨fun n q => (by cases q), ?_⟩) (fun H e => Or.inl ⟨⟨0, rfl⟩, rfl, hk _ _ _ _ (n_I_app (n_I_out (y_mo e rfl rfl) hI)) (by omega) (by omega)⟩)
    exact T8 e
theorem n_S171 {X : aX} : n_S X n_I 171 1 := by
  refine ⟨a_m171, rfl, rfl, rfl, fun us h C S K0 hl hI hk => ?_⟩
  match us, hl with
  | [a], _ =>
    have T7 : ∀ {G : aH} {r : Int64}, y_fr h G [] [] → aOK s_P X 201 a_m171 7 [some (.ref 2), some (.int a), some (.ref 197), none] [.long r, .int (Int32.ofInt 0), .ref 197] G C S K0 := by
      intro G r e
      refine w_go z_hl [] [] 30 e.1 ?_
      exact ⟨⟨by decide, by decide⟩, y_l64 _, fun l hl len bb => fun H hH => hk _ H C S (n_I_out (y_st (y_mo e rfl rfl) hH (by repeat (first | exact w_nil | refine w_cons (Or.inl (y_m rfl)) ?_ | refine w_cons (Or.inr (by assumption)) ?_)) (by repeat (first | exact w_nil | refine w_cons (Or.inl (y_m rfl)) ?_ | refine w_cons (Or.inr (by assumption)) ?_))) hI) (by omega) (by omega)⟩
    show aOK s_P X 201 a_m171 0 [some (.ref 2), some (.int a), some (.ref 197), none] [] h C S K0
    refine aOK_op rfl rfl ?_
    refine aOK_op rfl rfl ?_
    refine aOK_op rfl rfl ?_
    refine aOK_op rfl rfl ?_
    have hinv : a_inv s_P (.invokevirtual 15) (18, 172, 11, 1105233) [.int a, .ref 2, .int (Int32.ofInt 0), .ref 197] h = some (a_m172, [.ref 2, .int a], [.int (Int32.ofInt 0), .ref 197]) := by
      have hrc := l_recv hI.1.1 (r0 := 2) (ci := 11) rfl
      show (if a_recv h (.ref 2) 11 = true ∧ _ ∧ _ then some _ else none) = _
      rw [if_pos ⟨hrc, Nat.le_of_ble_eq_true rfl, Nat.le_of_ble_eq_true rfl⟩]
      rfl
    refine aOK_call rfl (by cases X <;> rfl) rfl hinv ?_
    show aOK s_P X 200 a_m172 0 [some (.ref 2), some (.int a)] [] h C S _
    refine c_row hI.1.1 (fun r H e => Or.inr ⟨fun n q => (by cases q), ?_⟩) (fun H e => Or.inl ⟨⟨0, rfl⟩, rfl, hk _ _ _ _ (n_I_app (n_I_out (y_mo e rfl rfl) hI)) (by omega) (by omega)⟩)
    exact T7 e
noncomputable def n_st (j : Nat) (us : List Int32) (v : Nat → Int32) : (Nat → Int32) × Int32 := if j = 17 then n_s17 us v else if j = 12 then n_s12 us v else if j = 21 then n_s21 us v else if j = 24 then n_s24 us v else if j = 74 then n_s74 us v else if j = 76 then n_s76 us v else if j = 77 then n_s77 us v else if j = 127 then n_s127 us v else if j = 157 then n_s157 us v else if j = 159 then n_s159 us v else if j = 163 then n_s163 us v else n_s165 us v
def n_Md (j : Nat) (us : List Int32) (g : Int32) (H : aH) : Prop := t_I H ∧ ∃ v, n_cV H (n_st j us v).1 ∧ n_mV H v ∧ (j ≠ 77 → g = (n_st j us v).2)
section NL
variable {X : aX} {j n ty kd pr : Nat} {b : Bool} {M : aM}
theorem n_of1 {r0 : Nat} (h : n_told X 200 M r0 n b) (hM : s_P[j]? = some M) (ha : M.2.2.2.2.1 = n) (hl : Nat.ble (n + 1) M.2.2.1 = true) : n_G X n_I n_Md (j, r0, n, b, 1, 0, 0) :=
  ⟨M, hM, ha, hl, fun us h0 C S K0 h1 h2 h3 => h us h0 C S K0 h1 h2 h3.1.1 (fun x H hI c m => h3.2 _ H (n_same_I c m hI h3.1) (Or.inr ⟨(show (1 : Nat) ≠ 2 by decide), x, rfl⟩))⟩
theorem n_of1I {r0 : Nat} (h : n_toldI X 200 M r0 n b) (hM : s_P[j]? = some M) (ha : M.2.2.2.2.1 = n) (hl : Nat.ble (n + 1) M.2.2.1 = true) : n_G X n_I n_Md (j, r0, n, b, 1, 0, 0) :=
  ⟨M, hM, ha, hl, fun us h0 C S K0 h1 h2 h3 => h us h0 C S K0 h1 h2 h3.1 (fun x H hI => h3.2 _ H hI (Or.inr ⟨(show (1 : Nat) ≠ 2 by decide), x, rfl⟩))⟩
theorem n_of2 {r0 : Nat} (h : n_toldL X 200 M r0 n b) (hM : s_P[j]? = some M) (ha : M.2.2.2.2.1 = n) (hl : Nat.ble (n + 1) M.2.2.1 = true) : n_G X n_I n_Md (j, r0, n, b, 2, 0, 0) :=
  ⟨M, hM, ha, hl, fun us h0 C S K0 h1 h2 h3 => h us h0 C S K0 h1 h2 h3.1.1 (fun x H hI c m => h3.2 _ H (n_same_I c m hI h3.1) (Or.inl ⟨rfl, x, rfl⟩))⟩
theorem n_ofc (h : n_pc X M n b (n_st j)) (hM : s_P[j]? = some M) (ha : M.2.2.2.2.1 = n) (hl : Nat.ble (n + 1) M.2.2.1 = true) : n_G X n_I n_Md (j, 2, n, b, ty, 1, 0) :=
  ⟨M, hM, ha, hl, fun us h0 C S K0 h1 h2 h3 => by
    obtain ⟨⟨hI, v, c, m⟩, hk⟩ := h3
    exact h us h0 v C S K0 h1 h2 hI c m (fun H i1 c1 m1 => hk _ H ⟨i1, v, c1, m1, fun _ => rfl⟩)⟩
theorem n_ofr {j' : Nat} (hj : j ≠ 77) (h : n_pr X M n b (n_st j)) (hM : s_P[j']? = some M) (ha : M.2.2.2.2.1 = n) (hl : Nat.ble (n + 1) M.2.2.1 = true) : n_G X n_I n_Md (j', 155, n, b, ty, 2, j) :=
  ⟨M, hM, ha, hl, fun us h0 C S K0 h1 h2 h3 => by
    obtain ⟨g, ⟨hI, v, c, m, hg⟩, hk⟩ := h3
    exact h us h0 _ v C S K0 h1 h2 hI c m (fun H i1 c1 m1 => hk _ H ⟨i1, _, c1, m1⟩ (fun _ => (hg hj).symm))⟩
theorem n_ofcS (h : n_pcS X M n b n_s77) (hM : s_P[77]? = some M) (ha : M.2.2.2.2.1 = n) (hl : Nat.ble (n + 1) M.2.2.1 = true) : n_G X n_I n_Md (77, 2, n, b, 1, 1, 0) :=
  ⟨M, hM, ha, hl, fun us h0 C S K0 h1 h2 h3 => by
    obtain ⟨⟨hI, v, c, m⟩, hk⟩ := h3
    exact h us h0 v C S K0 h1 h2 hI c m (fun x H i1 c1 m1 => hk x H ⟨i1, v, c1, m1, fun q => absurd rfl q⟩)⟩
theorem n_ofrS {j' : Nat} (h : n_prS X M n b n_s77) (hM : s_P[j']? = some M) (ha : M.2.2.2.2.1 = n) (hl : Nat.ble (n + 1) M.2.2.1 = true) : n_G X n_I n_Md (j', 155, n, b, 1, 2, 77) :=
  ⟨M, hM, ha, hl, fun us h0 C S K0 h1 h2 h3 => by
    obtain ⟨g, ⟨hI, v, c, m, -⟩, hk⟩ := h3
    exact h us h0 _ v C S K0 h1 h2 hI c m (fun x H i1 c1 m1 => hk x H ⟨i1, _, c1, m1⟩ (fun q => absurd (show (1 : Nat) = 3 from q) (by decide)))⟩
end NL
end PT33i
section PT33ia
/-! ===== v5: what class and reference hold alike ===== -/
/-- fields of the class; the reference's beside them; rows of both; what is told of the rows -/
def nCB : List Nat := [16, 128, 129, 1537, 17152, 17408, 17409, 17920, 17921, 18432, 18433]
def nMB : List (Nat × Nat) := [(16, 19625), (128, 19591), (1537, 19612), (17152, 19643)]
def nCAB : List Nat := [7, 139, 143, 147]
def nMAB : List Nat := [161, 187, 188, 191]
def n_upB (v : Nat → Int32) (k : Nat) (x : Int32) : Nat → Int32 := fun k' => if k' = k then x else v k'
/-- prices, and those that are kept, up to the nodes that are kept -/
def n_l7B (v : Nat → Int32) : List Int32 := (List.range 10).map (fun j => v (700000 + j))
def n_cQB (h : aH) (v : Nat → Int32) (s o : Nat) : Prop := ∃ kp : List Int32, w_a h o = some (0, .inl kp) ∧ kp.length = 10 ∧ ∀ j : Nat, j < 10 → (j : Int) < (v (17409 + 512 * s)).toInt → kp.getD j 0 = v (710000 + 100 * s + j)
def n_cAB (h : aH) (v : Nat → Int32) : Prop := w_a h 7 = some (0, .inl (n_l7B v)) ∧ n_cQB h v 0 139 ∧ n_cQB h v 1 143 ∧ n_cQB h v 2 147
def n_mKB (h : aH) (v : Nat → Int32) : Prop := w_a h 188 = some (2, .inl [v 17408, v 17920, v 18432])
def n_mQB (h : aH) (v : Nat → Int32) : Prop := ∃ kc : List Int32, w_a h 191 = some (0, .inl kc) ∧ kc.length = 30 ∧ ∀ s : Nat, s < 3 → ∀ j : Nat, j < 10 → (j : Int) < (v (17409 + 512 * s)).toInt → kc.getD (10 * s + j) 0 = v (710000 + 100 * s + j)
def n_mAB (h : aH) (v : Nat → Int32) : Prop := n_mKB h v ∧ w_a h 187 = some (0, .inl [v 17409, v 17921, v 18433]) ∧ w_a h 161 = some (0, .inl (n_l7B v)) ∧ n_mQB h v
/-- fields on which the rows' words do not rest -/
def n_fr0B (k : Nat) : Bool := !([17408, 17409, 17920, 17921, 18432, 18433] : List Nat).elem k && Nat.blt k 700000
def n_agrB (v v' : Nat → Int32) : Prop := ∀ k, n_fr0B k = false → v' k = v k
theorem n_fr_bigB {k : Nat} (h : 700000 ≤ k) : n_fr0B k = false := by
  unfold n_fr0B
  have : Nat.blt k 700000 = false := by
    cases e : Nat.blt k 700000 with
    | false => rfl
    | true =>
      rw [Nat.blt_eq] at e
      omega
  rw [this, Bool.and_false]
theorem n_fr_knB {s : Nat} (h : s < 3) : n_fr0B (17409 + 512 * s) = false := by
  rcases (show s = 0 ∨ s = 1 ∨ s = 2 by omega) with rfl | rfl | rfl <;> rfl
theorem n_l7_cB {v v' : Nat → Int32} (a : n_agrB v v') : n_l7B v' = n_l7B v := by
  unfold n_l7B
  exact List.map_congr_left (fun j _ => a _ (n_fr_bigB (by omega)))
theorem n_cQ_cB {h : aH} {v v' : Nat → Int32} {s o : Nat} (hs : s < 3) (a : n_agrB v v') (q : n_cQB h v s o) : n_cQB h v' s o := by
  obtain ⟨kp, q1, q2, q3⟩ := q
  refine ⟨kp, q1, q2, fun j h10 hj => ?_⟩
  rw [a _ (n_fr_knB hs)] at hj
  rw [a _ (n_fr_bigB (by omega))]
  exact q3 j h10 hj
theorem n_cA_cB {h : aH} {v v' : Nat → Int32} (a : n_agrB v v') (q : n_cAB h v) : n_cAB h v' := ⟨by rw [n_l7_cB a]; exact q.1, n_cQ_cB (by decide) a q.2.1, n_cQ_cB (by decide) a q.2.2.1, n_cQ_cB (by decide) a q.2.2.2⟩
theorem n_mQ_cB {h : aH} {v v' : Nat → Int32} (a : n_agrB v v') (q : n_mQB h v) : n_mQB h v' := by
  obtain ⟨kc, q1, q2, q3⟩ := q
  refine ⟨kc, q1, q2, fun s hs j h10 hj => ?_⟩
  rw [a _ (n_fr_knB hs)] at hj
  rw [a _ (n_fr_bigB (by omega))]
  exact q3 s hs j h10 hj
theorem n_mA_cB {h : aH} {v v' : Nat → Int32} (a : n_agrB v v') (q : n_mAB h v) : n_mAB h v' := by
  obtain ⟨q1, q2, q3, q4⟩ := q
  refine ⟨?_, ?_, ?_, n_mQ_cB a q4⟩
  · unfold n_mKB
    rw [a 17408 rfl, a 17920 rfl, a 18432 rfl]
    exact q1
  · rw [a 17409 rfl, a 17921 rfl, a 18433 rfl]
    exact q2
  · rw [n_l7_cB a]
    exact q3
theorem n_agr_upB {v : Nat → Int32} {k : Nat} {x : Int32} (hk : n_fr0B k = true) : n_agrB v (n_upB v k x) := by
  intro k' hk'
  unfold n_upB
  rw [if_neg (fun e => by rw [e, hk] at hk'; cases hk')]
theorem n_cQ_SB {h H : aH} {v : Nat → Int32} {s o : Nat} (e : w_a H o = w_a h o) (q : n_cQB h v s o) : n_cQB H v s o := by
  obtain ⟨kp, q1, q2⟩ := q
  exact ⟨kp, e.trans q1, q2⟩
theorem n_cA_SB {h H : aH} {v : Nat → Int32} (s : ∀ o ∈ nCAB, w_a H o = w_a h o) (q : n_cAB h v) : n_cAB H v := ⟨(s 7 (by decide)).trans q.1, n_cQ_SB (s 139 (by decide)) q.2.1, n_cQ_SB (s 143 (by decide)) q.2.2.1, n_cQ_SB (s 147 (by decide)) q.2.2.2⟩
theorem n_mQ_SB {h H : aH} {v : Nat → Int32} (e : w_a H 191 = w_a h 191) (q : n_mQB h v) : n_mQB H v := by
  obtain ⟨kc, q1, q2⟩ := q
  exact ⟨kc, e.trans q1, q2⟩
theorem n_mA_SB {h H : aH} {v : Nat → Int32} (s : ∀ o ∈ nMAB, w_a H o = w_a h o) (q : n_mAB h v) : n_mAB H v := ⟨(s 188 (by decide)).trans q.1, (s 187 (by decide)).trans q.2.1, (s 161 (by decide)).trans q.2.2.1, n_mQ_SB (s 191 (by decide)) q.2.2.2⟩
theorem n_cA_upB {h : aH} {v : Nat → Int32} {k : Nat} {x : Int32} (hk : n_fr0B k = true) (q : n_cAB h v) : n_cAB h (n_upB v k x) := n_cA_cB (n_agr_upB hk) q
theorem n_mA_upB {h : aH} {v : Nat → Int32} {k : Nat} {x : Int32} (hk : n_fr0B k = true) (q : n_mAB h v) : n_mAB h (n_upB v k x) := n_mA_cB (n_agr_upB hk) q
theorem n_mA_KB {h : aH} {v : Nat → Int32} (q : n_mAB h v) : n_mKB h v := q.1
def n_cVB (h : aH) (v : Nat → Int32) : Prop := (∀ k ∈ nCB, w_f h k = some (.int (v k))) ∧ n_cAB h v
def n_mVB (h : aH) (v : Nat → Int32) : Prop := (∀ p ∈ nMB, w_f h p.2 = some (.int (v p.1))) ∧ n_mAB h v ∧ w_f h 19600 = some (.long (v 129).toInt64)
def n_IB (h : aH) : Prop := t_I h ∧ ∃ v, n_cVB h v ∧ n_mVB h v
def n_cSB (h H : aH) : Prop := (∀ k ∈ nCB, w_f H k = w_f h k) ∧ ∀ o ∈ nCAB, w_a H o = w_a h o
def n_mSB (h H : aH) : Prop := (∀ p ∈ nMB, w_f H p.2 = w_f h p.2) ∧ (∀ o ∈ nMAB, w_a H o = w_a h o) ∧ w_f H 19600 = w_f h 19600
section NA
variable {h H : aH} {v : Nat → Int32} {X : aX}
theorem n_cS_VB (s : n_cSB h H) (q : n_cVB h v) : n_cVB H v := ⟨fun k hk => (s.1 k hk).trans (q.1 k hk), n_cA_SB s.2 q.2⟩
theorem n_mS_VB (s : n_mSB h H) (q : n_mVB h v) : n_mVB H v := ⟨fun p hp => (s.1 p hp).trans (q.1 p hp), n_mA_SB s.2.1 q.2.1, s.2.2.trans q.2.2⟩
theorem n_same_IB (s : n_cSB h H) (s' : n_mSB h H) (hI : t_I H) (q : n_IB h) : n_IB H := by
  obtain ⟨-, v, q1, q2⟩ := q
  exact ⟨hI, v, n_cS_VB s q1, n_mS_VB s' q2⟩
theorem n_dkB {ms : List Nat} {key : Nat} (hr : w_hr z_D h) (hf : z_frm z_D ms h H) (hd : (t_dk key).isSome = true) (hm : ms.elem key = false) : w_f H key = w_f h key := by
  cases hdk : t_dk key with
  | none => rw [hdk] at hd; cases hd
  | some d =>
    unfold t_dk at hdk
    split at hdk
    · rename_i ci ks hD
      split at hdk
      · rename_i d' hd'
        have hk : key % 128 < ks.length := (List.getElem?_eq_some_iff.mp hd').1
        have := n_frm (o := key / 128) (k := key % 128) hr hf hD (by rw [Nat.blt_eq]; exact hk) (Nat.mod_lt _ (by decide)) (by rw [show key / 128 * 128 + key % 128 = key by omega]; exact hm)
        rw [show key / 128 * 128 + key % 128 = key by omega] at this
        exact this
      · cases hdk
    · cases hdk
def n_isAB (o : Nat) : Bool := match z_D o with
  | some (.inl _) => true
  | _ => false
theorem n_daB {ms : List Nat} {o : Nat} (hf : z_frm z_D ms h H) (ho : n_isAB o = true) (hm : ms.elem (o * 128) = false) : w_a H o = w_a h o := by
  unfold n_isAB at ho
  split at ho
  · rename_i a hD
    have := hf.2 o _ hD (fun q => by rw [List.elem_iff.mpr q] at hm; cases hm)
    unfold w_a
    rw [this]
  · cases ho
theorem n_nelB {l : List Nat} {a : Nat} (h : l.elem a = false) : a ∉ l := fun q => by
  rw [List.elem_iff.mpr q] at h
  cases h
/-- what a frame of the class leaves: all but ex (rows by their cell times 128) -/
def n_mkB (ms ex : List Nat) : Bool := (nCB.all (fun k => ex.elem k || (t_dk k).isSome && !ms.elem k) && nCAB.all (fun o => ex.elem (o * 128) || n_isAB o && !ms.elem (o * 128))) && (nMB.all (fun p => (t_dk p.2).isSome && !ms.elem p.2) && (nMAB.all (fun o => n_isAB o && !ms.elem (o * 128)) && ((t_dk 19600).isSome && !ms.elem 19600)))
theorem n_mk_cB {ms ex : List Nat} (hr : w_hr z_D h) (hf : z_frm z_D ms h H) (hm : n_mkB ms ex = true) : ∀ k ∈ nCB, k ∉ ex → w_f H k = w_f h k := by
  intro k hk hx
  unfold n_mkB at hm
  rw [Bool.and_eq_true, Bool.and_eq_true] at hm
  have := List.all_eq_true.mp hm.1.1 k hk
  simp only [Bool.or_eq_true, Bool.and_eq_true, Bool.not_eq_true'] at this
  rcases this with q | ⟨q1, q2⟩
  · exact absurd (List.elem_iff.mp q) hx
  · exact n_dkB hr hf q1 q2
theorem n_mk_aB {ms ex : List Nat} (hf : z_frm z_D ms h H) (hm : n_mkB ms ex = true) : ∀ o ∈ nCAB, o * 128 ∉ ex → w_a H o = w_a h o := by
  intro o ho hx
  unfold n_mkB at hm
  rw [Bool.and_eq_true, Bool.and_eq_true] at hm
  have := List.all_eq_true.mp hm.1.2 o ho
  simp only [Bool.or_eq_true, Bool.and_eq_true, Bool.not_eq_true'] at this
  rcases this with q | ⟨q1, q2⟩
  · exact absurd (List.elem_iff.mp q) hx
  · exact n_daB hf q1 q2
theorem n_mk_mB {ms ex : List Nat} (hr : w_hr z_D h) (hf : z_frm z_D ms h H) (hm : n_mkB ms ex = true) : n_mSB h H := by
  unfold n_mkB at hm
  rw [Bool.and_eq_true] at hm
  have hm := hm.2
  rw [Bool.and_eq_true, Bool.and_eq_true] at hm
  refine ⟨fun p hp => ?_, fun o ho => ?_, ?_⟩
  · have := List.all_eq_true.mp hm.1 p hp
    simp only [Bool.and_eq_true, Bool.not_eq_true'] at this
    exact n_dkB hr hf this.1 this.2
  · have := List.all_eq_true.mp hm.2.1 o ho
    simp only [Bool.and_eq_true, Bool.not_eq_true'] at this
    exact n_daB hf this.1 this.2
  · have := hm.2.2
    simp only [Bool.and_eq_true, Bool.not_eq_true'] at this
    exact n_dkB hr hf this.1 this.2
theorem n_sCB {ms : List Nat} (hr : w_hr z_D h) (hf : z_frm z_D ms h H) (hm : n_mkB ms [] = true) : n_cSB h H := ⟨fun k hk => n_mk_cB hr hf hm k hk (fun q => by cases q), fun o ho => n_mk_aB hf hm o ho (fun q => by cases q)⟩
/-- what a frame of the reference leaves: all of the class; of the reference all but ex -/
def n_fkB (fs as ex : List Nat) : Bool := (nCB.all (fun k => !fs.elem k) && nCAB.all (fun o => !as.elem o)) && (nMB.all (fun p => ex.elem p.2 || !fs.elem p.2) && (nMAB.all (fun o => ex.elem o || !as.elem o) && (ex.elem 19600 || !fs.elem 19600)))
theorem n_fk_cB {fs as ex : List Nat} (e : y_fr h H fs as) (hm : n_fkB fs as ex = true) : n_cSB h H := by
  unfold n_fkB at hm
  rw [Bool.and_eq_true, Bool.and_eq_true] at hm
  refine ⟨fun k hk => e.2.1 k (n_nelB ?_), fun o ho => e.2.2 o (n_nelB ?_)⟩
  · have := List.all_eq_true.mp hm.1.1 k hk
    rw [Bool.not_eq_true'] at this
    exact this
  · have := List.all_eq_true.mp hm.1.2 o ho
    rw [Bool.not_eq_true'] at this
    exact this
theorem n_fk_mB {fs as : List Nat} (e : y_fr h H fs as) (hm : n_fkB fs as [] = true) : n_mSB h H := by
  unfold n_fkB at hm
  rw [Bool.and_eq_true] at hm
  have hm := hm.2
  rw [Bool.and_eq_true, Bool.and_eq_true] at hm
  refine ⟨fun p hp => ?_, fun o ho => ?_, ?_⟩
  · have := List.all_eq_true.mp hm.1 p hp
    rw [Bool.or_eq_true] at this
    rcases this with q | q
    · cases q
    · rw [Bool.not_eq_true'] at q
      exact e.2.1 _ (n_nelB q)
  · have := List.all_eq_true.mp hm.2.1 o ho
    rw [Bool.or_eq_true] at this
    rcases this with q | q
    · cases q
    · rw [Bool.not_eq_true'] at q
      exact e.2.2 _ (n_nelB q)
  · have := hm.2.2
    rw [Bool.or_eq_true] at this
    rcases this with q | q
    · cases q
    · rw [Bool.not_eq_true'] at q
      exact e.2.1 _ (n_nelB q)
/-- a method that leaves all of it -/
def n_toldB (X : aX) (d : Nat) (M : aM) (r n : Nat) (b : Bool) : Prop := ∀ (us : List Int32) (h : aH) (C S : Nat) (K0 : Option Value → aH → Nat → Nat → Prop), us.length = n → (b = true → ∀ u ∈ us, 0 ≤ u.toInt ∧ u.toInt ≤ 1) → t_I h →
  (∀ (x : Int32) (H : aH), t_I H → n_cSB h H → n_mSB h H → K0 (some (.int x)) H C S) → aOK s_P X d M 0 (a_ent (.ref r :: us.map .int) M.2.2.1) [] h C S K0
def n_toldLB (X : aX) (d : Nat) (M : aM) (r n : Nat) (b : Bool) : Prop := ∀ (us : List Int32) (h : aH) (C S : Nat) (K0 : Option Value → aH → Nat → Nat → Prop), us.length = n → (b = true → ∀ u ∈ us, 0 ≤ u.toInt ∧ u.toInt ≤ 1) → t_I h →
  (∀ (x : Int64) (H : aH), t_I H → n_cSB h H → n_mSB h H → K0 (some (.long x)) H C S) → aOK s_P X d M 0 (a_ent (.ref r :: us.map .int) M.2.2.1) [] h C S K0
theorem n_ctx0B {Q : zQ} {M : aM} {n m : Nat} {b : Bool} {T0 : zT} {m0 : zMs} {cs : List zCut} (hs : z_spec y_JA z_D s_P X Q) (hM : s_P[Q.1.1]? = some M) (hd : Nat.ble Q.1.2.1 200 = true) (hQ : Q.2.1 = (0, T0, m0) :: cs) (h1 : t_s n b 0 T0.1 T0.2.1 = true) (h2 : T0.2.2.1.all (t_r T0.1) = true)
    (h3 : T0.2.2.2 = some (.inl (.ref 2)) :: ((List.range n).map (fun j => some (.inr (j, 0))) ++ List.replicate m none)) (hn : M.2.2.1 = n + 1 + m) (h4 : Q.2.2.1.all t_x = true) (h5 : (Q.2.2.2.all (fun k => !decide (k / 128 = 134)) || Q.2.2.1.all t_rx) = true) (h6 : n_mkB Q.2.2.2 [] = true) : n_toldB X 200 M 2 n b := by
  intro us h C S K0 hl hb hI hk
  subst hl
  obtain ⟨hr, hJ, hday⟩ := hI
  obtain ⟨ρ, hρ⟩ := t_entry (ms := Q.2.2.2) y_JA_x hb hr hJ hday h1 h2 h3
  rw [Nat.ble_eq] at hd
  rw [hn]
  refine aOK_deep hd (hs M hM C S ρ h _ T0 m0 (by rw [hQ]; exact List.mem_cons_self) hρ K0 (fun T hT ρX H' v htm _ _ => ?_))
  obtain ⟨r1, r2, x, rfl⟩ := t_exit htm (List.all_eq_true.mp h4 T hT)
  have hf := htm.2.2.2.2.2.1
  refine hk x H' ⟨r1, r2, ?_⟩ (n_sCB hr hf h6) (n_mk_mB hr hf h6)
  rw [Bool.or_eq_true] at h5
  rcases h5 with q | q
  · exact t_day_frm hr hf q hday
  · exact t_day_rx htm (List.all_eq_true.mp q T hT)
/-- the text's length is 0 at an exit -/
def n_zxB (T : zT) : Bool := match (z_tov 0 T.1).lookup 1537 with
  | some (.inr (j, 0)) => decide (T.2.1[j]? = some (1, 0, 0))
  | _ => false
theorem n_zx_okB {J : aH → Prop} {ρ : zR} {H0 : aH} {ms : List Nat} {ls : aL} {T : zT} (htm : z_tm J z_D ms ρ H0 H ls T) (hx : n_zxB T = true) : w_f H 1537 = some (.int (Int32.ofInt 0)) := by
  unfold n_zxB at hx
  split at hx
  · rename_i j hl
    obtain ⟨y, -, g1, y0, y1⟩ := n_f (o := 12) (k := 1) htm rfl rfl (by decide) hl (of_decide_eq_true hx)
    have ey : y = Int32.ofInt 0 := Int32.toInt_inj.mp (by rw [show (Int32.ofInt 0).toInt = 0 by decide]; omega)
    rw [ey] at g1
    exact g1
  · cases hx
theorem n_ctxzB {Q : zQ} {M : aM} {n m : Nat} {b : Bool} {T0 : zT} {m0 : zMs} {cs : List zCut} (hs : z_spec y_JA z_D s_P X Q) (hM : s_P[Q.1.1]? = some M) (hd : Nat.ble Q.1.2.1 200 = true) (hQ : Q.2.1 = (0, T0, m0) :: cs) (h1 : t_s n b 0 T0.1 T0.2.1 = true) (h2 : T0.2.2.1.all (t_r T0.1) = true)
    (h3 : T0.2.2.2 = some (.inl (.ref 2)) :: ((List.range n).map (fun j => some (.inr (j, 0))) ++ List.replicate m none)) (hn : M.2.2.1 = n + 1 + m) (h4 : Q.2.2.1.all t_x = true) (h5 : (Q.2.2.2.all (fun k => !decide (k / 128 = 134)) || Q.2.2.1.all t_rx) = true) (h6 : n_mkB Q.2.2.2 [1537] = true) (h7 : Q.2.2.1.all n_zxB = true)
    (us : List Int32) (h : aH) (C S : Nat) (K0 : Option Value → aH → Nat → Nat → Prop) (hl : us.length = n) (hb : b = true → ∀ u ∈ us, 0 ≤ u.toInt ∧ u.toInt ≤ 1) (hI : t_I h)
    (hk : ∀ (x : Int32) (H : aH), t_I H → (∀ k ∈ nCB, k ∉ [1537] → w_f H k = w_f h k) → (∀ o ∈ nCAB, o * 128 ∉ [1537] → w_a H o = w_a h o) → n_mSB h H → w_f H 1537 = some (.int (Int32.ofInt 0)) → K0 (some (.int x)) H C S) : aOK s_P X 200 M 0 (a_ent (.ref 2 :: us.map .int) M.2.2.1) [] h C S K0 := by
  subst hl
  obtain ⟨hr, hJ, hday⟩ := hI
  obtain ⟨ρ, hρ⟩ := t_entry (ms := Q.2.2.2) y_JA_x hb hr hJ hday h1 h2 h3
  rw [Nat.ble_eq] at hd
  rw [hn]
  refine aOK_deep hd (hs M hM C S ρ h _ T0 m0 (by rw [hQ]; exact List.mem_cons_self) hρ K0 (fun T hT ρX H' v htm _ _ => ?_))
  obtain ⟨r1, r2, x, rfl⟩ := t_exit htm (List.all_eq_true.mp h4 T hT)
  have hf := htm.2.2.2.2.2.1
  refine hk x H' ⟨r1, r2, ?_⟩ (n_mk_cB hr hf h6) (n_mk_aB hf h6) (n_mk_mB hr hf h6) (n_zx_okB htm (List.all_eq_true.mp h7 T hT))
  rw [Bool.or_eq_true] at h5
  rcases h5 with q | q
  · exact t_day_frm hr hf q hday
  · exact t_day_rx htm (List.all_eq_true.mp q T hT)
end NA
end PT33ia
section PT33ib
/-! ===== v5: pairs told as functions (laid by wip/tools/mk33h.py) ===== -/
abbrev n_hdB (a b x : Int32) : Prop := 0 ≤ a.toInt ∧ a.toInt ≤ 31 ∧ 1 ≤ b.toInt ∧ b.toInt ≤ 99 ∧ x.toInt ≤ 5
abbrev n_dyB (b c x : Int32) : Prop := x.toInt ≤ 29 ∧ (c.toInt = 0 ∨ b.toInt ≠ 0)
abbrev n_shVB (a x : Int32) : Prop := ¬ (x.toInt = 0) ∧ 0 ≤ a.toInt ∧ a.toInt ≤ 1
abbrev n_agVB (i k0 k1 k2 : Int32) : Prop := 0 ≤ i.toInt ∧ i.toInt ≤ 2 ∧ (([k0, k1, k2] : List Int32).getD i.toNatClampNeg 0).toInt ≠ (0 : Int32).toInt
def n_agB (i k0 k1 k2 : Int32) : Int32 := if n_agVB i k0 k1 k2 then Int32.ofInt 1 else Int32.ofInt 0
def n_kkB (a : Int32) : Nat := 17408 + 512 * a.toInt.toNat
def n_s127B (us : List Int32) (v : Nat → Int32) : (Nat → Int32) × Int32 := match us with
  | [a, b] => if n_hdB a b (v 16) then (n_upB v 16 (v 16 + Int32.ofInt 1), v 16) else (v, Int32.ofInt (-1))
  | _ => (v, 0)
def n_s157B (us : List Int32) (v : Nat → Int32) : (Nat → Int32) × Int32 := match us with
  | [_, b, c] => if n_dyB b c (v 17152) then (n_upB v 17152 (v 17152 + Int32.ofInt 1), v 17152 + Int32.ofInt 1) else (v, Int32.ofInt (-1))
  | _ => (v, 0)
def n_s74B (us : List Int32) (v : Nat → Int32) : (Nat → Int32) × Int32 := match us with
  | [_] => if (v 1537).toInt ≤ 56 then (n_upB v 1537 (v 1537 + Int32.ofInt 4), v 1537 + Int32.ofInt 4) else (v, Int32.ofInt (-1))
  | _ => (v, 0)
def n_s76B (us : List Int32) (v : Nat → Int32) : (Nat → Int32) × Int32 := match us with
  | [a] => if 0 ≤ a.toInt ∧ a.toInt ≤ (v 1537).toInt then (n_upB v 1537 a, Int32.ofInt 1) else (v, Int32.ofInt 0)
  | _ => (v, 0)
def n_s21B (us : List Int32) (v : Nat → Int32) : (Nat → Int32) × Int32 := match us with
  | [a, b] => if n_fsV a b (v 128) then (v, Int32.ofInt 1) else (v, Int32.ofInt 0)
  | _ => (v, 0)
def n_s77B (_ : List Int32) (v : Nat → Int32) : (Nat → Int32) × Int32 := (n_upB v 1537 (Int32.ofInt 0), 0)
def n_s159B (us : List Int32) (v : Nat → Int32) : (Nat → Int32) × Int32 := match us with
  | [a] => if n_shVB a (v 17152) then (v, Int32.ofInt 0) else (v, Int32.ofInt (-1))
  | _ => (v, 0)
section NP
variable {X : aX} {C S d : Nat} {K0 : Option Value → aH → Nat → Nat → Prop}
theorem f_headB {h : aH} (hr : w_hr z_D h) {a b X0 : Int32} (g0 : w_f h 19625 = some (.int X0)) (yes : n_hdB a b X0 → ∀ (H : aH), y_fr h H [19584, 19625] [177, 178] → w_f H 19625 = some (.int (X0 + Int32.ofInt 1)) → K0 (some (.int (X0 + Int32.ofInt 1 - Int32.ofInt 1))) H C S) (no : ¬ n_hdB a b X0 → ∀ (H : aH), y_fr h H [19584] [] → K0 (some (.int (Int32.ofInt (-1)))) H C S) : aOK s_P X (d + 1) a_m255 0 [some (.ref 155), some (.int a), some (.int b)] [] h C S K0 := by
  have T40 : ∀ {G : aH} {x : Int32}, x = X0 → y_fr h G [19584, 19625] [177, 178] → w_f G 19625 = some (.int x) → 0 ≤ x.toInt → x.toInt ≤ 5 → 0 ≤ a.toInt → a.toInt ≤ 31 → 1 ≤ b.toInt → b.toInt ≤ 99 → aOK s_P X (d + 1) a_m255 40 [some (.ref 155), some (.int a), some (.int b)] [] G C S K0 := by
    intro G x ex e g x0 x5 a0 a1 b0 b1
    subst ex
    have inc : (x + Int32.ofInt 1).toInt = x.toInt + 1 := y_inc (by omega)
    refine w_go z_hl [] [] 60 e.1 ?_
    intro y hy _ _
    obtain rfl := y_fi g hy
    refine ⟨⟨by omega, by omega⟩, ⟨by omega, by omega⟩, fun l1 _ _ _ => ⟨⟨by omega, by omega⟩, ⟨by omega, by omega⟩, fun l2 _ _ _ => ?_⟩⟩
    exact ⟨rfl, y_zini (by show 0 ≤ (x + Int32.ofInt 1).toInt; omega) (by show (x + Int32.ofInt 1).toInt ≤ 6; omega), fun H hH => yes ⟨a0, a1, b0, b1, x5⟩ H (y_st e hH (by repeat (first | exact w_nil | refine w_cons (Or.inl (y_m rfl)) ?_ | refine w_cons (Or.inr (by assumption)) ?_)) (by repeat (first | exact w_nil | refine w_cons (Or.inl (y_m rfl)) ?_ | refine w_cons (Or.inr (by assumption)) ?_))) (hH.2.1 19625 _ rfl)⟩
  have T26 : ∀ {G : aH}, y_fr h G [19584] [] → 0 ≤ a.toInt → a.toInt ≤ 31 → 1 ≤ b.toInt → b.toInt ≤ 99 → aOK s_P X (d + 1) a_m255 26 [some (.ref 155), some (.int a), some (.int b)] [.int (y_01 true)] G C S K0 := by
    intro G e a0 a1 b0 b1
    refine w_go z_hl [40] [] 40 e.1 ?_
    refine ⟨fun q => absurd q (by decide), fun _ => ?_⟩
    intro x hx x0 x6
    have x0' : 0 ≤ x.toInt := x0
    have x6' : x.toInt ≤ 6 := x6
    have ex : x = X0 := (y_fi ((y_fe e rfl).trans g0) hx).symm
    have nv : a_cnd .ne x ((Int8.ofInt 6).toInt32) = false → ¬ n_hdB a b X0 := by
      intro q v
      have q2 : ¬ (x.toInt ≠ ((Int8.ofInt 6).toInt32).toInt) := y_cif q
      rw [y_c6] at q2
      have := v.2.2.2.2
      rw [← ex] at this
      omega
    refine ⟨fun q => fun H hH => ?_, fun q => fun H hH => no (nv q) H (y_st e hH (by repeat (first | exact w_nil | refine w_cons (Or.inl (y_m rfl)) ?_ | refine w_cons (Or.inr (by assumption)) ?_)) (by repeat (first | exact w_nil | refine w_cons (Or.inl (y_m rfl)) ?_ | refine w_cons (Or.inr (by assumption)) ?_)))⟩
    have q2 : x.toInt ≠ ((Int8.ofInt 6).toInt32).toInt := (y_ci .ne _ _).mp q
    rw [y_c6] at q2
    exact T40 ex (y_st (y_mo e rfl rfl) hH (by repeat (first | exact w_nil | refine w_cons (Or.inl (y_m rfl)) ?_ | refine w_cons (Or.inr (by assumption)) ?_)) (by repeat (first | exact w_nil | refine w_cons (Or.inl (y_m rfl)) ?_ | refine w_cons (Or.inr (by assumption)) ?_))) (hH.2.1 19625 _ rfl) x0' (by omega) a0 a1 b0 b1
  have T26n : ∀ {G : aH}, ¬ n_hdB a b X0 → y_fr h G [19584] [] → aOK s_P X (d + 1) a_m255 26 [some (.ref 155), some (.int a), some (.int b)] [.int (y_01 false)] G C S K0 := by
    intro G nv e
    refine w_go z_hl [] [] 40 e.1 ?_
    exact ⟨fun _ => fun H hH => no nv H (y_st e hH (by repeat (first | exact w_nil | refine w_cons (Or.inl (y_m rfl)) ?_ | refine w_cons (Or.inr (by assumption)) ?_)) (by repeat (first | exact w_nil | refine w_cons (Or.inl (y_m rfl)) ?_ | refine w_cons (Or.inr (by assumption)) ?_))), fun q => absurd q (by decide)⟩
  have T14 : ∀ {G : aH}, y_fr h G [19584] [] → 0 ≤ a.toInt → a.toInt ≤ 31 → aOK s_P X (d + 1) a_m255 14 [some (.ref 155), some (.int a), some (.int b)] [.int (y_01 true)] G C S K0 := by
    intro G e a0 a1
    refine w_go z_hl [] [176] 40 e.1 ?_
    refine ⟨fun q => absurd q (by decide), fun _ => fun H hH => ?_⟩
    have e2 := y_st e hH (by repeat (first | exact w_nil | refine w_cons (Or.inl (y_m rfl)) ?_ | refine w_cons (Or.inr (by assumption)) ?_)) (by repeat (first | exact w_nil | refine w_cons (Or.inl (y_m rfl)) ?_ | refine w_cons (Or.inr (by assumption)) ?_))
    refine q_in (v := b.toInt64) (lo := Int64.ofNat 1) (hi := Int64.ofInt 99) e2.1 (fun H3 h3 l1 l2 => ⟨fun n e => (by cases e), ?_⟩) (fun H3 h3 l => ⟨fun n e => (by cases e), ?_⟩)
    · rw [y_i2l] at l1 l2
      rw [y_i64 (by decide) (by decide)] at l2
      exact T26 (y_sq e2 h3 rfl rfl) a0 a1 l1 l2
    · rw [y_i2l, y_i64 (by decide) (by decide)] at l
      exact T26n (fun v => l v.2.2.1 v.2.2.2.1) (y_sq e2 h3 rfl rfl)
  have T14n : ∀ {G : aH}, ¬ n_hdB a b X0 → y_fr h G [19584] [] → aOK s_P X (d + 1) a_m255 14 [some (.ref 155), some (.int a), some (.int b)] [.int (y_01 false)] G C S K0 := by
    intro G nv e
    refine w_go z_hl [] [] 40 e.1 ?_
    exact ⟨fun _ => fun H hH => no nv H (y_st e hH (by repeat (first | exact w_nil | refine w_cons (Or.inl (y_m rfl)) ?_ | refine w_cons (Or.inr (by assumption)) ?_)) (by repeat (first | exact w_nil | refine w_cons (Or.inl (y_m rfl)) ?_ | refine w_cons (Or.inr (by assumption)) ?_))), fun q => absurd q (by decide)⟩
  refine w_go z_hl [] [176] 30 hr ?_
  refine ⟨rfl, y_zini (by decide) (by decide), fun H hH => ?_⟩
  have e : y_fr h H [19584] [] := y_st (y_mo (y_rf hr) rfl rfl) hH (by repeat (first | exact w_nil | refine w_cons (Or.inl (y_m rfl)) ?_ | refine w_cons (Or.inr (by assumption)) ?_)) (by repeat (first | exact w_nil | refine w_cons (Or.inl (y_m rfl)) ?_ | refine w_cons (Or.inr (by assumption)) ?_))
  refine q_in (v := a.toInt64) (lo := Int64.ofNat 0) (hi := Int64.ofInt 31) e.1 (fun H3 h3 l1 l2 => ⟨fun n e => (by cases e), ?_⟩) (fun H3 h3 l => ⟨fun n e => (by cases e), ?_⟩)
  · rw [y_i2l] at l1 l2
    rw [y_i64 (by decide) (by decide)] at l2
    exact T14 (y_sq e h3 rfl rfl) l1 l2
  · rw [y_i2l, y_i64 (by decide) (by decide)] at l
    exact T14n (fun v => l v.1 v.2.1) (y_sq e h3 rfl rfl)
theorem f_dayB {h : aH} (hr : w_hr z_D h) {a b c : Int32} (a0 : 0 ≤ a.toInt) (a1 : a.toInt ≤ 1) (b0 : 0 ≤ b.toInt) (b1 : b.toInt ≤ 1) (c0 : 0 ≤ c.toInt) (c1 : c.toInt ≤ 1) {X0 : Int32} (g0 : w_f h 19643 = some (.int X0)) (yes : n_dyB b c X0 → ∀ (H : aH), y_fr h H [19584, 19643] [184, 185, 186] → w_f H 19643 = some (.int (X0 + Int32.ofInt 1)) → K0 (some (.int (X0 + Int32.ofInt 1))) H C S) (no : ¬ n_dyB b c X0 → ∀ (H : aH), y_fr h H [19584] [] → K0 (some (.int (Int32.ofInt (-1)))) H C S) : aOK s_P X d a_m273 0 [some (.ref 155), some (.int a), some (.int b), some (.int c)] [] h C S K0 := by
  have e0 : y_fr h h [19584, 19643] [184, 185, 186] := y_mo (y_rf hr) rfl rfl
  have T24 : ∀ {G : aH} {x : Int32}, x = X0 → (c.toInt = 0 ∨ b.toInt ≠ 0) → y_fr h G [19584, 19643] [184, 185, 186] → w_f G 19643 = some (.int x) → 0 ≤ x.toInt → x.toInt ≤ 29 → aOK s_P X d a_m273 24 [some (.ref 155), some (.int a), some (.int b), some (.int c)] [] G C S K0 := by
    intro G x ex hv e g x0 x29
    subst ex
    have inc : (x + Int32.ofInt 1).toInt = x.toInt + 1 := y_inc (by omega)
    refine w_go z_hl [] [] 60 e.1 ?_
    intro y hy _ _
    obtain rfl := y_fi g hy
    refine ⟨⟨by omega, by omega⟩, ⟨a0, a1, a0, a1⟩, fun l1 _ _ _ => ⟨⟨by omega, by omega⟩, ⟨b0, b1, b0, b1⟩, fun l2 _ _ _ => ⟨⟨by omega, by omega⟩, ⟨c0, c1, c0, c1⟩, fun l3 _ _ _ => ?_⟩⟩⟩
    exact ⟨rfl, y_zini (by show 0 ≤ (x + Int32.ofInt 1).toInt; omega) (by show (x + Int32.ofInt 1).toInt ≤ 30; omega), fun H hH => yes ⟨x29, hv⟩ H (y_st e hH (by repeat (first | exact w_nil | refine w_cons (Or.inl (y_m rfl)) ?_ | refine w_cons (Or.inr (by assumption)) ?_)) (by repeat (first | exact w_nil | refine w_cons (Or.inl (y_m rfl)) ?_ | refine w_cons (Or.inr (by assumption)) ?_))) (hH.2.1 19643 _ rfl)⟩
  refine w_go z_hl [24] [] 40 hr ?_
  refine ⟨rfl, y_zini (by decide) (by decide), ?_⟩
  intro x hx x0 x30
  have x0' : 0 ≤ x.toInt := x0
  have x30' : x.toInt ≤ 30 := x30
  have ex : x = X0 := (y_fi g0 hx).symm
  have e1 : y_fr h h [19584] [] := y_mo (y_rf hr) rfl rfl
  refine ⟨fun q => fun H hH => no (fun v => ?_) H (y_st e1 hH (by repeat (first | exact w_nil | refine w_cons (Or.inl (y_m rfl)) ?_ | refine w_cons (Or.inr (by assumption)) ?_)) (by repeat (first | exact w_nil | refine w_cons (Or.inl (y_m rfl)) ?_ | refine w_cons (Or.inr (by assumption)) ?_))), fun q => ?_⟩
  · have q2 : x.toInt = ((Int8.ofInt 30).toInt32).toInt := (y_ci .eq _ _).mp q
    rw [show ((Int8.ofInt 30).toInt32).toInt = 30 by decide] at q2
    have := v.1
    rw [← ex] at this
    omega
  have q2 : ¬ (x.toInt = ((Int8.ofInt 30).toInt32).toInt) := y_cif q
  rw [show ((Int8.ofInt 30).toInt32).toInt = 30 by decide] at q2
  have go : ∀ {H : aH}, (c.toInt = 0 ∨ b.toInt ≠ 0) → w_rel z_D h [(19643, .int x), (19584, .int (Int32.ofInt 0))] [] H → aOK s_P X d a_m273 24 [some (.ref 155), some (.int a), some (.int b), some (.int c)] [] H C S K0 := fun hv hH => T24 ex hv (y_st e0 hH (by repeat (first | exact w_nil | refine w_cons (Or.inl (y_m rfl)) ?_ | refine w_cons (Or.inr (by assumption)) ?_)) (by repeat (first | exact w_nil | refine w_cons (Or.inl (y_m rfl)) ?_ | refine w_cons (Or.inr (by assumption)) ?_))) (hH.2.1 19643 _ rfl) x0' (by omega)
  refine ⟨fun q3 => fun H hH => go (Or.inl ?_) hH, fun q3 => ⟨fun q4 => fun H hH => go (Or.inr ?_) hH, fun q4 => fun H hH => no (fun v => ?_) H (y_st e1 hH (by repeat (first | exact w_nil | refine w_cons (Or.inl (y_m rfl)) ?_ | refine w_cons (Or.inr (by assumption)) ?_)) (by repeat (first | exact w_nil | refine w_cons (Or.inl (y_m rfl)) ?_ | refine w_cons (Or.inr (by assumption)) ?_)))⟩⟩
  · exact (y_ci .eq _ _).mp q3
  · exact (y_ci .ne _ _).mp q4
  · have z3 : ¬ (c.toInt = (0 : Int32).toInt) := y_cif q3
    have z4 : ¬ (b.toInt ≠ (0 : Int32).toInt) := y_cif q4
    rcases v.2 with w | w
    · exact z3 w
    · exact z4 w
theorem f_shiftsB {h : aH} (hr : w_hr z_D h) {a X0 : Int32} (g0 : w_f h 19643 = some (.int X0)) (yes : n_shVB a X0 → ∀ (H : aH), y_fr h H [19584, 19585, 19587, 19588] [154] → K0 (some (.int (Int32.ofInt 0))) H C S) (no : ¬ n_shVB a X0 → ∀ (H : aH), y_fr h H [19584, 19585, 19587, 19588] [154] → K0 (some (.int (Int32.ofInt (-1)))) H C S) : aOK s_P X (d + 3) a_m274 0 [some (.ref 155), some (.int a), none] [] h C S K0 := by
  obtain ⟨dy, gd, d0, d30⟩ := y_dyE hr
  have T75 : n_shVB a X0 → ∀ {G : aH} {on : Int32}, y_fr h G [19584, 19585, 19587, 19588] [154] → aOK s_P X (d + 3) a_m274 75 [some (.ref 155), some (.int a), some (.int on)] [] G C S K0 := by
    intro v G on e
    refine w_go z_hl [] [] 30 e.1 ?_
    exact fun H hH => yes v H (y_st e hH (by repeat (first | exact w_nil | refine w_cons (Or.inl (y_m rfl)) ?_ | refine w_cons (Or.inr (by assumption)) ?_)) (by repeat (first | exact w_nil | refine w_cons (Or.inl (y_m rfl)) ?_ | refine w_cons (Or.inr (by assumption)) ?_)))
  have T69 : n_shVB a X0 → ∀ {G : aH} {on r1 : Int32}, y_fr h G [19584, 19585, 19587, 19588] [154] → w_f G 19585 = some (.int r1) → r1.toInt = 2 → aOK s_P X (d + 3) a_m274 69 [some (.ref 155), some (.int a), some (.int on)] [] G C S K0 := by
    intro v G on r1 e g hr1
    refine w_go z_hl [] [197] 30 e.1 ?_
    intro H hH
    have f : y_fr G H [] [] := y_st (y_rf e.1) hH (by repeat (first | exact w_nil | refine w_cons (Or.inl (y_m rfl)) ?_ | refine w_cons (Or.inr (by assumption)) ?_)) (by repeat (first | exact w_nil | refine w_cons (Or.inl (y_m rfl)) ?_ | refine w_cons (Or.inr (by assumption)) ?_))
    refine y_enters f.1 ((y_fe f rfl).trans g) (by omega) (by omega) (fun H2 r2 e3 _ _ => ⟨fun n e => (by cases e), ?_⟩)
    exact T75 v (y_sq (y_sq e f rfl rfl) e3 rfl rfl)
  have T60 : n_shVB a X0 → ∀ {G : aH} {on : Int32}, y_fr h G [19584, 19585, 19587, 19588] [154] → aOK s_P X (d + 3) a_m274 60 [some (.ref 155), some (.int a), some (.int on)] [] G C S K0 := by
    intro v G on e
    refine w_go z_hl [] [196] 30 e.1 ?_
    refine ⟨rfl, y_zini (by decide) (by decide), fun H hH => ?_⟩
    have e2 := y_st e hH (by repeat (first | exact w_nil | refine w_cons (Or.inl (y_m rfl)) ?_ | refine w_cons (Or.inr (by assumption)) ?_)) (by repeat (first | exact w_nil | refine w_cons (Or.inl (y_m rfl)) ?_ | refine w_cons (Or.inr (by assumption)) ?_))
    refine y_tells e2.1 (hH.2.1 19585 _ rfl) (by decide) (by decide) (fun H2 r2 e3 g3 hr3 => ⟨fun n e => (by cases e), ?_⟩)
    exact T69 v (y_sq e2 e3 rfl rfl) g3 (by rw [hr3]; decide)
  have T56 : n_shVB a X0 → ∀ {G : aH} {on de : Int32}, y_fr h G [19584, 19585, 19587, 19588] [154] → 0 ≤ on.toInt → on.toInt ≤ 30 → 0 ≤ de.toInt → de.toInt ≤ dy.toInt → aOK s_P X (d + 3) a_m274 56 [some (.ref 155), some (.int a), some (.int on)] [.int de, .ref 155] G C S K0 := by
    intro v G on de e o0 o1 e0 e1
    refine w_go z_hl [] [276] 30 e.1 ?_
    intro H hH
    have e2 := y_st e hH (by repeat (first | exact w_nil | refine w_cons (Or.inl (y_m rfl)) ?_ | refine w_cons (Or.inr (by assumption)) ?_)) (by repeat (first | exact w_nil | refine w_cons (Or.inl (y_m rfl)) ?_ | refine w_cons (Or.inr (by assumption)) ?_))
    refine y_byLot e2.1 ((y_fe e2 rfl).trans gd) d0 d30 e0 e1 o0 (by omega) (fun H2 f2 => ⟨fun n e => (by cases e), ?_⟩)
    exact T60 v (y_sq e2 f2 rfl rfl)
  have T52 : n_shVB a X0 → ∀ {G : aH} {on : Int32} {b : Bool}, y_fr h G [19584, 19585, 19587, 19588] [154] → 0 ≤ on.toInt → on.toInt ≤ 30 → aOK s_P X (d + 3) a_m274 52 [some (.ref 155), some (.int a), some (.int on)] [.int (y_01 b), .ref 155, .ref 155] G C S K0 := by
    intro v G on b e o0 o1
    refine w_go z_hl [] [275] 30 e.1 ?_
    intro H hH
    have e2 := y_st e hH (by repeat (first | exact w_nil | refine w_cons (Or.inl (y_m rfl)) ?_ | refine w_cons (Or.inr (by assumption)) ?_)) (by repeat (first | exact w_nil | refine w_cons (Or.inl (y_m rfl)) ?_ | refine w_cons (Or.inr (by assumption)) ?_))
    refine aOK_deep (d := d + 1) (by omega) (y_deaths e2.1 ((y_fe e2 rfl).trans gd) d0 d30 (fun r H2 f2 r0 r1 => ⟨fun n e => (by cases e), ?_⟩))
    exact T56 v (y_sq e2 f2 rfl rfl) o0 o1 r0 r1
  have T39 : n_shVB a X0 → ∀ {G : aH} {on : Int32}, y_fr h G [19584, 19585, 19587, 19588] [154] → 0 ≤ on.toInt → on.toInt ≤ 30 → aOK s_P X (d + 3) a_m274 39 [some (.ref 155), some (.int a), none] [.int on] G C S K0 := by
    intro v G on e o0 o1
    refine w_go z_hl [52] [] 30 e.1 ?_
    exact ⟨fun _ => fun H hH => T52 v (b := false) (y_st e hH (by repeat (first | exact w_nil | refine w_cons (Or.inl (y_m rfl)) ?_ | refine w_cons (Or.inr (by assumption)) ?_)) (by repeat (first | exact w_nil | refine w_cons (Or.inl (y_m rfl)) ?_ | refine w_cons (Or.inr (by assumption)) ?_))) o0 o1, fun _ => fun H hH => T52 v (b := true) (y_st e hH (by repeat (first | exact w_nil | refine w_cons (Or.inl (y_m rfl)) ?_ | refine w_cons (Or.inr (by assumption)) ?_)) (by repeat (first | exact w_nil | refine w_cons (Or.inl (y_m rfl)) ?_ | refine w_cons (Or.inr (by assumption)) ?_))) o0 o1⟩
  have T35 : n_shVB a X0 → ∀ {G : aH} {b : Bool}, y_fr h G [19584, 19585, 19587, 19588] [154] → aOK s_P X (d + 3) a_m274 35 [some (.ref 155), some (.int a), none] [.int (y_01 b), .ref 155] G C S K0 := by
    intro v G b e
    refine w_go z_hl [] [275] 30 e.1 ?_
    intro H hH
    have e2 := y_st e hH (by repeat (first | exact w_nil | refine w_cons (Or.inl (y_m rfl)) ?_ | refine w_cons (Or.inr (by assumption)) ?_)) (by repeat (first | exact w_nil | refine w_cons (Or.inl (y_m rfl)) ?_ | refine w_cons (Or.inr (by assumption)) ?_))
    refine aOK_deep (d := d + 1) (by omega) (y_deaths e2.1 ((y_fe e2 rfl).trans gd) d0 d30 (fun r H2 f2 r0 r1 => ⟨fun n e => (by cases e), ?_⟩))
    exact T39 v (y_sq e2 f2 rfl rfl) r0 (by omega)
  have T19y : n_shVB a X0 → ∀ {G : aH}, y_fr h G [19584, 19585, 19587, 19588] [154] → aOK s_P X (d + 3) a_m274 19 [some (.ref 155), some (.int a), none] [.int (y_01 true)] G C S K0 := by
    intro v G e
    refine w_go z_hl [35] [] 30 e.1 ?_
    exact ⟨fun _ => ⟨fun _ => fun H hH => T35 v (b := false) (y_st e hH (by repeat (first | exact w_nil | refine w_cons (Or.inl (y_m rfl)) ?_ | refine w_cons (Or.inr (by assumption)) ?_)) (by repeat (first | exact w_nil | refine w_cons (Or.inl (y_m rfl)) ?_ | refine w_cons (Or.inr (by assumption)) ?_))), fun _ => fun H hH => T35 v (b := true) (y_st e hH (by repeat (first | exact w_nil | refine w_cons (Or.inl (y_m rfl)) ?_ | refine w_cons (Or.inr (by assumption)) ?_)) (by repeat (first | exact w_nil | refine w_cons (Or.inl (y_m rfl)) ?_ | refine w_cons (Or.inr (by assumption)) ?_)))⟩, fun q => absurd q (by decide)⟩
  have T19n : ¬ n_shVB a X0 → ∀ {G : aH}, y_fr h G [19584, 19585, 19587, 19588] [154] → aOK s_P X (d + 3) a_m274 19 [some (.ref 155), some (.int a), none] [.int (y_01 false)] G C S K0 := by
    intro v G e
    refine w_go z_hl [35] [] 30 e.1 ?_
    exact ⟨fun q => absurd q (by decide), fun _ => fun H hH => no v H (y_st e hH (by repeat (first | exact w_nil | refine w_cons (Or.inl (y_m rfl)) ?_ | refine w_cons (Or.inr (by assumption)) ?_)) (by repeat (first | exact w_nil | refine w_cons (Or.inl (y_m rfl)) ?_ | refine w_cons (Or.inr (by assumption)) ?_)))⟩
  have e0 : y_fr h h [19584, 19585, 19587, 19588] [154] := y_mo (y_rf hr) rfl rfl
  refine w_go z_hl [] [176] 30 hr ?_
  refine ⟨rfl, y_zini (by decide) (by decide), ?_⟩
  intro x hx _ _
  have ex : x = X0 := (y_fi g0 hx).symm
  subst ex
  refine ⟨fun q => fun H hH => no (fun v => v.1 ((y_ci .eq _ _).mp q)) H (y_st e0 hH (by repeat (first | exact w_nil | refine w_cons (Or.inl (y_m rfl)) ?_ | refine w_cons (Or.inr (by assumption)) ?_)) (by repeat (first | exact w_nil | refine w_cons (Or.inl (y_m rfl)) ?_ | refine w_cons (Or.inr (by assumption)) ?_))), fun q => fun H hH => ?_⟩
  have q2 : ¬ (x.toInt = (0 : Int32).toInt) := y_cif q
  have e := y_st e0 hH (by repeat (first | exact w_nil | refine w_cons (Or.inl (y_m rfl)) ?_ | refine w_cons (Or.inr (by assumption)) ?_)) (by repeat (first | exact w_nil | refine w_cons (Or.inl (y_m rfl)) ?_ | refine w_cons (Or.inr (by assumption)) ?_))
  refine q_in e.1 (fun H3 h3 l1 l2 => ⟨fun n e => (by cases e), ?_⟩) (fun H3 h3 l => ⟨fun n e => (by cases e), ?_⟩)
  · rw [y_i2l] at l1 l2
    exact T19y ⟨q2, l1, l2⟩ (y_sq e h3 rfl rfl)
  · exact T19n (fun v => l (by rw [y_i2l]; exact v.2.1) (by rw [y_i2l]; exact v.2.2)) (y_sq e h3 rfl rfl)
theorem f_keep2B {h : aH} (hr : w_hr z_D h) (hJ : y_J h) (hC : j_cost h) {iI : Int32} (hk : ∀ (r : Int32) (H : aH), y_fr h H [19584] [187, 188, 189, 190, 191, 192, 193, 194] → y_J H → j_cost H → (∀ l, w_a h 188 = some (2, .inl l) → w_a H 188 = some (2, .inl (if 0 ≤ iI.toInt ∧ iI.toInt ≤ 2 then l.set iI.toInt.toNat (Int32.ofInt 1) else l))) → r = n_ke iI → K0 (some (.int r)) H C S) : aOK s_P X (d + 1) a_m279 0 [some (.ref 155), some (.int iI), none, none] [] h C S K0 := by
  have hJ' := hJ
  obtain ⟨q1, q2, q3, q4, q5, q6, q7⟩ := hJ'
  obtain ⟨nd, le, de, ta, n1, n2, n3, n4, c1, c2, c3, c4, c5⟩ := q1
  obtain ⟨nd', sm, so, sa, s1, s2, s3, s4, s5⟩ := q5
  obtain rfl := y_fi n1 s1
  obtain ⟨nd', kn, km, ko, ks, k1, k2, k3, k4, k5, k6⟩ := q6
  obtain rfl := y_fi n1 k1
  obtain ⟨de', to, kt, sn, sl, sh, o1, o2, o3, o4, o5, o6, o7, o8, o9⟩ := q3
  obtain rfl := y_ai n3 o1
  refine w_go z_hl [48] [176] 30 hr ?_
  refine ⟨rfl, y_zini (by decide) (by decide), fun H1 h1 => ?_⟩
  have e1 : y_fr h H1 [19584] [] := y_st (y_mo (y_rf hr) rfl rfl) h1 (by repeat (first | exact w_nil | refine w_cons (Or.inl (y_m rfl)) ?_ | refine w_cons (Or.inr (by assumption)) ?_)) (by repeat (first | exact w_nil | refine w_cons (Or.inl (y_m rfl)) ?_ | refine w_cons (Or.inr (by assumption)) ?_))
  refine q_in e1.1 (fun H2 h2 l1 l2 => ⟨fun n e => (by cases e), ?_⟩) (fun H2 h2 nl => ⟨fun n e => (by cases e), ?_⟩)
  · have l1 : 0 ≤ iI.toInt := by rw [y_i2l] at l1; exact l1
    have l2 : iI.toInt ≤ 2 := by rw [y_i2l] at l2; exact l2
    have lv : 0 ≤ iI.toInt ∧ iI.toInt ≤ 2 := ⟨l1, l2⟩
    obtain ⟨i, hi⟩ : ∃ i : Nat, iI.toInt = i := ⟨iI.toInt.toNat, by omega⟩
    have ci := y_cl1 hi
    have e2 := y_sq e1 h2 rfl rfl
    refine w_go z_hl [48] [176] 40 e2.1 ?_
    refine ⟨fun _ => ?_, fun q => absurd q (by decide)⟩
    refine ⟨⟨by omega, by omega⟩, by decide, fun l hl len bb => ?_⟩
    intro x hx b1 b2
    obtain rfl := y_fi ((y_fe e2 rfl).trans n1) hx
    refine ⟨⟨by omega, by omega⟩, ⟨by omega, by omega⟩, fun l2 hl2 len2 bb2 => ?_⟩
    obtain rfl := y_ai ((y_ae e2 rfl).trans k2) hl2
    intro y hy b3 b4
    obtain rfl := y_fi ((y_fe e2 rfl).trans s2) hy
    refine ⟨⟨by omega, by omega⟩, ⟨by omega, by omega⟩, fun l3 hl3 len3 bb3 => ?_⟩
    obtain rfl := y_ai ((y_ae e2 rfl).trans k3) hl3
    intro H3 h3
    have e3 : y_fr h H3 [19584] [187, 188, 193] := y_st (y_mo e2 rfl rfl) h3 (by repeat (first | exact w_nil | refine w_cons (Or.inl (y_m rfl)) ?_ | refine w_cons (Or.inr (by assumption)) ?_)) (by repeat (first | exact w_nil | refine w_cons (Or.inl (y_m rfl)) ?_ | refine w_cons (Or.inr (by assumption)) ?_))
    have A1 := h3.2.2.1 187 _ rfl
    have A2 := h3.2.2.1 193 _ rfl
    have A0 := h3.2.2.1 188 _ rfl
    obtain ⟨kf, z1, z2, -⟩ := w_arrI e3.1 (o := 189) (t := 0) (n := 30) (lo := -1) (hi := 1) (by decide) rfl
    obtain ⟨kc, z3, z4, -⟩ := w_arrI e3.1 (o := 191) (t := 0) (n := 30) (lo := 0) (hi := 99) (by decide) rfl
    obtain ⟨fo, z5, z6, -⟩ := w_arrI e3.1 (o := 159) (t := 0) (n := 10) (lo := -1) (hi := 1) (by decide) rfl
    obtain ⟨co, z7, z8, -⟩ := w_arrI e3.1 (o := 161) (t := 0) (n := 10) (lo := 0) (hi := 99) (by decide) rfl
    obtain ⟨ndc, co', knc, kcc, x1, x2, x3, x4, x5, x6⟩ := id hC
    obtain rfl := y_fi n1 x1
    obtain rfl := y_ai ((y_ae e3 rfl).trans x2) (w_a_at z7)
    obtain rfl := y_ai ((y_ae e3 rfl).trans x4) (w_a_at z3)
    obtain rfl := y_ai k2 x3
    refine y_keep_out (de := de) (ks0 := ks) (ko0 := ko) (kc0 := kcc) hi (by omega) c2 10 H3 _ 0 none kf ks kcc ko kt e3.1 (w_a_at z1) ((y_ae e3 rfl).trans k5) (w_a_at z3) ((y_ae e3 rfl).trans k4) ((y_ae e3 rfl).trans o3) ((y_ae e3 rfl).trans n4) (w_a_at z5) ((y_ae e3 rfl).trans s4) (w_a_at z7) ((y_ae e3 rfl).trans s3) rfl rfl o8 (fun j => by rw [if_neg (by omega)]) (fun j => by rw [if_neg (by omega)]) (fun j => by rw [if_neg (by omega)]) (fun H4 ks' ko' kt' kc' f1 f2 f3 f4 f5 f6 f7 f8 f9 => ?_)
    have e4 : y_fr h H4 [19584] [187, 188, 189, 190, 191, 192, 193, 194] := y_sq (y_mo e3 rfl rfl) f1 rfl rfl
    have HC4 : j_cost H4 := by
      refine ⟨nd, co', _, kc', (y_fe e4 rfl).trans n1, (y_ae e4 rfl).trans x2, (y_ae f1 rfl).trans A1, f8, x5, fun j v hj hv => ?_⟩
      rw [ci, y_Nnset (by omega)] at hv
      rw [f9]
      by_cases q : j = i
      · subst q
        rw [if_pos rfl] at hv
        rw [if_pos (by omega), show 10 * j + v - 10 * j = v by omega]
        exact x5 v (by omega)
      · rw [if_neg q] at hv
        have hb10 : y_Nn kn j ≤ 10 := by
          have := (k6 j hj).1
          unfold y_N at this
          unfold y_Nn
          omega
        rw [if_neg (by omega)]
        exact x6 j v hj hv
    have K188 : ∀ l0, w_a h 188 = some (2, .inl l0) → w_a H4 188 = some (2, .inl (if 0 ≤ iI.toInt ∧ iI.toInt ≤ 2 then l0.set iI.toInt.toNat (Int32.ofInt 1) else l0)) := by
      intro l0 hl0
      rw [if_pos lv]
      obtain rfl := y_ai ((y_ae e2 rfl).trans hl0) hl
      have := (y_ae f1 rfl).trans A0
      rw [ci] at this
      rw [show iI.toInt.toNat = i by omega]
      exact this
    refine hk _ _ e4 ⟨⟨nd, le, de, ta, (y_fe e4 rfl).trans n1, (y_ae e4 rfl).trans n2, (y_ae e4 rfl).trans n3, (y_ae e4 rfl).trans n4, c1, c2, c3, c4, c5⟩, j_dp_e (y_fe e4 rfl) (y_fe e4 rfl) (y_ae e4 rfl) q2, ⟨de, to, kt', sn, sl, sh, (y_ae e4 rfl).trans n3, (y_ae e4 rfl).trans o2, f4, (y_ae e4 rfl).trans o4, (y_ae e4 rfl).trans o5, (y_ae e4 rfl).trans o6, o7, f5, o9⟩, j_w_e (y_fe e4 rfl) (y_ae e4 rfl) q4, ⟨nd, sm, so, sa, (y_fe e4 rfl).trans n1, (y_fe e4 rfl).trans s2, (y_ae e4 rfl).trans s3, (y_ae e4 rfl).trans s4, s5⟩, ⟨nd, _, _, ko', ks', (y_fe e4 rfl).trans n1, (y_ae f1 rfl).trans A1, (y_ae f1 rfl).trans A2, f3, f2, fun j hj => ?_⟩, j_land_e (y_fe e4 rfl) (y_ae e4 rfl) q7⟩ HC4 K188 (by unfold n_ke; rw [if_pos lv])
    rw [ci]
    have en : y_Nn (kn.set i nd) j = if j = i then nd.toInt.toNat else y_Nn kn j := y_Nnset (by omega)
    have en2 : y_N (kn.set i nd) j = if j = i then nd.toInt else y_N kn j := y_Nset (by omega)
    have em : y_Nn (km.set i sm) j = if j = i then sm.toInt.toNat else y_Nn km j := y_Nnset (by omega)
    rw [en, en2, em]
    by_cases q : j = i
    · subst q
      rw [if_pos rfl, if_pos rfl, if_pos rfl]
      refine ⟨Int.le_refl _, y_ord_c s5 (fun k hk' => ?_) (fun k hk' => ?_)⟩
      · rw [f7, if_pos (by omega), show 10 * j + k - 10 * j = k by omega]
      · rw [f6, if_pos (by omega), show 10 * j + k - 10 * j = k by omega]
    · rw [if_neg q, if_neg q, if_neg q]
      have kj := k6 j hj
      have hb10 : y_Nn kn j ≤ 10 := by
        unfold y_Nn
        have := kj.1
        unfold y_N at this
        omega
      refine ⟨kj.1, y_ord_c kj.2 (fun k hk' => ?_) (fun k hk' => ?_)⟩
      · rw [f7, if_neg (by omega)]
      · rw [f6, if_neg (by omega)]
  · refine w_go z_hl [48] [176] 30 h2.1 ?_
    refine ⟨fun q => absurd q (by decide), fun _ => ⟨by decide, fun H3 h3 => ?_⟩⟩
    have g := y_st (y_sq e1 h2 rfl rfl) h3 (by repeat (first | exact w_nil | refine w_cons (Or.inl (y_m rfl)) ?_ | refine w_cons (Or.inr (by assumption)) ?_)) (by repeat (first | exact w_nil | refine w_cons (Or.inl (y_m rfl)) ?_ | refine w_cons (Or.inr (by assumption)) ?_))
    exact hk _ _ (y_mo g rfl rfl) (y_J_fr g rfl rfl hJ) (j_cost_e g rfl rfl hC) (fun l0 hl0 => (by rw [if_neg (fun q => nl (by rw [y_i2l]; exact q.1) (by rw [y_i2l]; exact q.2))]; exact (y_ae g rfl).trans hl0)) (by unfold n_ke; rw [if_neg (fun q => nl (by rw [y_i2l]; exact q.1) (by rw [y_i2l]; exact q.2))])
theorem f_againB {h : aH} (hr : w_hr z_D h) (hJ : y_J h) (hC : j_cost h) {iI j0 j1 j2 : Int32} (g0 : w_a h 188 = some (2, .inl [j0, j1, j2])) (hk : ∀ (r : Int32) (H : aH), y_fr h H [19584, 19598] [158, 159, 160, 161, 162] → y_J H → j_cost H → r = n_agB iI j0 j1 j2 → K0 (some (.int r)) H C S) : aOK s_P X (d + 1) a_m280 0 [some (.ref 155), some (.int iI), none, none, none] [] h C S K0 := by
  have hJ' := hJ
  obtain ⟨q1, q2, q3, q4, q5, q6, q7⟩ := hJ'
  obtain ⟨nd, le, de, ta, n1, n2, n3, n4, c1, c2, c3, c4, c5⟩ := q1
  obtain ⟨nd', sm, so, sa, s1, s2, s3, s4, s5⟩ := q5
  obtain rfl := y_fi n1 s1
  obtain ⟨nd', kn, km, ko, ks, k1, k2, k3, k4, k5, k6⟩ := id q6
  obtain rfl := y_fi n1 k1
  obtain ⟨de', to, kt, sn, sl, sh, o1, o2, o3, o4, o5, o6, o7, o8, o9⟩ := id q3
  obtain rfl := y_ai n3 o1
  obtain ⟨b1, b2⟩ := y_ndb hr n1
  refine w_go z_hl [40] [176] 30 hr ?_
  refine ⟨rfl, y_zini (by decide) (by decide), fun H1 h1 => ?_⟩
  have e1 : y_fr h H1 [19584] [] := y_st (y_mo (y_rf hr) rfl rfl) h1 (by repeat (first | exact w_nil | refine w_cons (Or.inl (y_m rfl)) ?_ | refine w_cons (Or.inr (by assumption)) ?_)) (by repeat (first | exact w_nil | refine w_cons (Or.inl (y_m rfl)) ?_ | refine w_cons (Or.inr (by assumption)) ?_))
  have out : ∀ {G : aH}, ¬ n_agVB iI j0 j1 j2 → y_fr h G [19584] [] → K0 (some (.int (Int32.ofInt 0))) G C S := fun nv g => hk _ _ (y_mo g rfl rfl) (y_J_fr g rfl rfl hJ) (j_cost_e g rfl rfl hC) (by unfold n_agB; rw [if_neg nv])
  refine q_in e1.1 (fun H2 h2 l1 l2 => ⟨fun n e => (by cases e), ?_⟩) (fun H2 h2 nl => ⟨fun n e => (by cases e), ?_⟩)
  · have l1 : 0 ≤ iI.toInt := by rw [y_i2l] at l1; exact l1
    have l2 : iI.toInt ≤ 2 := by rw [y_i2l] at l2; exact l2
    obtain ⟨i, hi⟩ : ∃ i : Nat, iI.toInt = i := ⟨iI.toInt.toNat, by omega⟩
    have ci := y_cl1 hi
    have e2 := y_sq e1 h2 rfl rfl
    refine w_go z_hl [40] [176] 40 e2.1 ?_
    refine ⟨fun q => absurd q (by decide), fun _ => ?_⟩
    refine ⟨⟨by omega, by omega⟩, fun l hl len bb => ?_⟩
    obtain rfl := y_ai ((y_ae e2 rfl).trans g0) hl
    have hix : iI.toNatClampNeg = iI.toInt.toNat := rfl
    refine ⟨fun qz => ?_, fun qz => ⟨by decide, fun H3 h3 => out (fun v => (y_cif qz) v.2.2) (y_st e2 h3 (by repeat (first | exact w_nil | refine w_cons (Or.inl (y_m rfl)) ?_ | refine w_cons (Or.inr (by assumption)) ?_)) (by repeat (first | exact w_nil | refine w_cons (Or.inl (y_m rfl)) ?_ | refine w_cons (Or.inr (by assumption)) ?_)))⟩⟩
    have hv : n_agVB iI j0 j1 j2 := ⟨l1, l2, (y_ci .ne _ _).mp qz⟩
    refine ⟨⟨by omega, by omega⟩, fun l2 hl2 len2 bb2 => ?_⟩
    obtain rfl := y_ai ((y_ae e2 rfl).trans k3) hl2
    have hm := bb2 _ (z_gd (0 : Int32) (show iI.toNatClampNeg < km.length by omega))
    refine ⟨rfl, y_zini hm.1 hm.2, ?_⟩
    intro H3 h3
    have e3 : y_fr h H3 [19584, 19598] [] := y_st (y_mo e2 rfl rfl) h3 (by repeat (first | exact w_nil | refine w_cons (Or.inl (y_m rfl)) ?_ | refine w_cons (Or.inr (by assumption)) ?_)) (by repeat (first | exact w_nil | refine w_cons (Or.inl (y_m rfl)) ?_ | refine w_cons (Or.inr (by assumption)) ?_))
    have F := h3.2.1 19598 _ rfl
    obtain ⟨kf, z1, z2, -⟩ := w_arrI e3.1 (o := 189) (t := 0) (n := 30) (lo := -1) (hi := 1) (by decide) rfl
    obtain ⟨kc, z3, z4, -⟩ := w_arrI e3.1 (o := 191) (t := 0) (n := 30) (lo := 0) (hi := 99) (by decide) rfl
    obtain ⟨fo, z5, z6, -⟩ := w_arrI e3.1 (o := 159) (t := 0) (n := 10) (lo := -1) (hi := 1) (by decide) rfl
    obtain ⟨co, z7, z8, -⟩ := w_arrI e3.1 (o := 161) (t := 0) (n := 10) (lo := 0) (hi := 99) (by decide) rfl
    obtain ⟨kn', z9, z10, z11⟩ := w_arrI e3.1 (o := 187) (t := 0) (n := 3) (lo := 0) (hi := 10) (by decide) rfl
    obtain rfl := y_ai ((y_ae e3 rfl).trans k2) (w_a_at z9)
    have pn : y_N kn i = y_Nn kn i := by
      have := z11 _ (z_gd (0 : Int32) (show i < kn.length by omega))
      unfold y_N y_Nn
      omega
    obtain ⟨ndc, co', knc, kcc, x1, x2, x3, x4, x5, x6⟩ := id hC
    obtain rfl := y_fi n1 x1
    obtain rfl := y_ai ((y_ae e3 rfl).trans x2) (w_a_at z7)
    obtain rfl := y_ai ((y_ae e3 rfl).trans x4) (w_a_at z3)
    obtain rfl := y_ai k2 x3
    refine y_again_out (de := de) (ks := ks) (ko := ko) (fun v hv => x6 i v (by omega) hv) hi (by omega) o8 b1 b2 pn nd.toInt.toNat H3 _ 0 none none fo sa co' so ta e3.1 ((y_fe e3 rfl).trans n1) ((y_ae e3 rfl).trans k2) (w_a_at z1) ((y_ae e3 rfl).trans k5) (w_a_at z3) ((y_ae e3 rfl).trans k4) ((y_ae e3 rfl).trans o3) ((y_ae e3 rfl).trans n4) (w_a_at z5) ((y_ae e3 rfl).trans s4) (w_a_at z7) ((y_ae e3 rfl).trans s3) rfl (by omega) c2 (fun u hu => absurd hu (by omega)) x5 (fun H4 sa' so' ta' co'' w1 w2 f1 f2 f3 f4 f5 f6 => ?_)
    have e4 : y_fr h H4 [19584, 19598] [158, 159, 160, 161, 162] := y_sq (y_mo e3 rfl rfl) f1 rfl rfl
    refine hk _ _ e4 ⟨⟨nd, le, de, ta', (y_fe e4 rfl).trans n1, (y_ae e4 rfl).trans n2, (y_ae e4 rfl).trans n3, f4, c1, f5, c3, c4, c5⟩, j_dp_e (y_fe e4 rfl) (y_fe e4 rfl) (y_ae e4 rfl) q2, j_old_e (y_ae e4 rfl) (y_ae e4 rfl) (y_ae e4 rfl) (y_ae e4 rfl) (y_ae e4 rfl) (y_ae e4 rfl) q3, j_w_e (y_fe e4 rfl) (y_ae e4 rfl) q4, ⟨nd, _, so', sa', (y_fe e4 rfl).trans n1, (y_fe f1 rfl).trans F, f3, f2, ?_⟩, j_kept_e (y_fe e4 rfl) (y_ae e4 rfl) (y_ae e4 rfl) (y_ae e4 rfl) (y_ae e4 rfl) q6, j_land_e (y_fe e4 rfl) (y_ae e4 rfl) q7⟩ ⟨nd, co'', kn, kcc, (y_fe e4 rfl).trans n1, w1, (y_ae e4 rfl).trans k2, (y_ae e4 rfl).trans x4, w2, x6⟩ (by unfold n_agB; rw [if_pos hv])
    rw [ci]
    have kj := k6 i (by omega)
    refine y_ord_x (p := y_Nn kn i) kj.2 (by have := kj.1; omega) (fun k hk' => (f6 k hk').2) (fun k hk' => (f6 k hk').1)
  · refine w_go z_hl [40] [176] 30 h2.1 ?_
    refine ⟨fun _ => ⟨by decide, fun H3 h3 => ?_⟩, fun q => absurd q (by decide)⟩
    exact out (fun v => nl (by rw [y_i2l]; exact v.1) (by rw [y_i2l]; exact v.2.1)) (y_st (y_sq e1 h2 rfl rfl) h3 (by repeat (first | exact w_nil | refine w_cons (Or.inl (y_m rfl)) ?_ | refine w_cons (Or.inr (by assumption)) ?_)) (by repeat (first | exact w_nil | refine w_cons (Or.inl (y_m rfl)) ?_ | refine w_cons (Or.inr (by assumption)) ?_)))
theorem f_sign_loopB {a tI : Int32} (t0 : 0 ≤ tI.toInt) (t56 : tI.toInt ≤ 56) : ∀ (m : Nat) (h : aH) (kI : Int32) (k : Nat), w_hr z_D h → w_f h 19612 = some (.int tI) → kI.toInt = k → k + m = 4 → (∀ (H : aH), y_fr h H [19612] [171] → w_f H 19612 = some (.int (tI + Int32.ofInt 4)) → K0 (some (.int (tI + Int32.ofInt 4))) H C S) → aOK s_P X d a_m219 18 [some (.ref 155), some (.int a), some (.int kI)] [] h C S K0 := by
  intro m
  induction m with
  | zero =>
    intro h kI k hr g hk hm hK
    have inc : (tI + Int32.ofInt 4).toInt = tI.toInt + 4 := by
      rw [Int32.toInt_add, show (Int32.ofInt 4).toInt = 4 by decide]
      exact Int.bmod_eq_of_le (by omega) (by omega)
    refine w_go z_hl [18] [] 40 hr ?_
    refine ⟨fun _ => ?_, fun q => ?_⟩
    · intro x hx _ _
      obtain rfl := y_fi g hx
      exact ⟨rfl, y_zini (by show 0 ≤ (tI + Int32.ofInt 4).toInt; omega) (by show (tI + Int32.ofInt 4).toInt ≤ 60; omega), fun H hH => hK H (y_st (y_mo (y_rf hr) rfl rfl) hH (by repeat (first | exact w_nil | refine w_cons (Or.inl (y_m rfl)) ?_ | refine w_cons (Or.inr (by assumption)) ?_)) (by repeat (first | exact w_nil | refine w_cons (Or.inl (y_m rfl)) ?_ | refine w_cons (Or.inr (by assumption)) ?_))) (hH.2.1 19612 _ rfl)⟩
    · have : ¬ ((Int32.ofInt 4).toInt ≤ kI.toInt) := y_cif q
      rw [show (Int32.ofInt 4).toInt = 4 by decide] at this
      omega
  | succ m ih =>
    intro h kI k hr g hk hm hK
    have ink : (kI + Int32.ofInt 1).toInt = ((k + 1 : Nat) : Int) := by rw [y_inc (by omega), hk]; rfl
    have tk : (tI + kI).toInt = tI.toInt + k := by
      rw [Int32.toInt_add, hk]
      exact Int.bmod_eq_of_le (by omega) (by omega)
    have bx : 0 ≤ (tI + kI).toInt ∧ (tI + kI).toInt < ((60 : Nat) : Int) := by omega
    have b255 : ∀ x : Int32, 0 ≤ (x &&& (Int16.ofInt 255).toInt32).toInt ∧ (x &&& (Int16.ofInt 255).toInt32).toInt ≤ 255 := fun x => by
      have := z_t_and (x := x) (y := (Int16.ofInt 255).toInt32) (by decide)
      rw [show ((Int16.ofInt 255).toInt32).toInt = 255 by decide] at this
      exact this
    refine w_go z_hl [18] [] 40 hr ?_
    refine ⟨fun q => ?_, fun _ => ?_⟩
    · have : (Int32.ofInt 4).toInt ≤ kI.toInt := (y_ci .ge _ _).mp q
      rw [show (Int32.ofInt 4).toInt = 4 by decide] at this
      omega
    · intro x hx _ _
      obtain rfl := y_fi g hx
      refine ⟨bx, b255 _, fun l hl len bb => fun H hH => ?_⟩
      have e : y_fr h H [] [171] := y_st (y_mo (y_rf hr) rfl rfl) hH (by repeat (first | exact w_nil | refine w_cons (Or.inl (y_m rfl)) ?_ | refine w_cons (Or.inr (by assumption)) ?_)) (by repeat (first | exact w_nil | refine w_cons (Or.inl (y_m rfl)) ?_ | refine w_cons (Or.inr (by assumption)) ?_))
      exact ih H _ (k + 1) e.1 ((y_fe e rfl).trans g) ink (by omega) (fun H' f g' => hK H' (y_sq (y_mo e rfl rfl) f rfl rfl) g')
theorem f_signB {h : aH} (hr : w_hr z_D h) {a X0 : Int32} (g0 : w_f h 19612 = some (.int X0)) (yes : X0.toInt ≤ 56 → ∀ (H : aH), y_fr h H [19584, 19612] [171] → w_f H 19612 = some (.int (X0 + Int32.ofInt 4)) → K0 (some (.int (X0 + Int32.ofInt 4))) H C S) (no : ¬ X0.toInt ≤ 56 → ∀ (H : aH), y_fr h H [19584] [] → K0 (some (.int (Int32.ofInt (-1)))) H C S) : aOK s_P X d a_m219 0 [some (.ref 155), some (.int a), none] [] h C S K0 := by
  refine w_go z_hl [18] [] 40 hr ?_
  refine ⟨rfl, y_zini (by decide) (by decide), ?_⟩
  intro x hx x0 x60
  have ex : x = X0 := (y_fi g0 hx).symm
  subst ex
  have nv : a_cnd .le x ((Int8.ofInt 56).toInt32) = false → ¬ x.toInt ≤ 56 := by
    intro q v
    have q2 : ¬ (x.toInt ≤ ((Int8.ofInt 56).toInt32).toInt) := y_cif q
    rw [show ((Int8.ofInt 56).toInt32).toInt = 56 by decide] at q2
    exact q2 v
  refine ⟨fun q => fun H hH => ?_, fun q => fun H hH => no (nv q) H (y_st (y_mo (y_rf hr) rfl rfl) hH (by repeat (first | exact w_nil | refine w_cons (Or.inl (y_m rfl)) ?_ | refine w_cons (Or.inr (by assumption)) ?_)) (by repeat (first | exact w_nil | refine w_cons (Or.inl (y_m rfl)) ?_ | refine w_cons (Or.inr (by assumption)) ?_)))⟩
  have q2 : x.toInt ≤ ((Int8.ofInt 56).toInt32).toInt := (y_ci .le _ _).mp q
  rw [show ((Int8.ofInt 56).toInt32).toInt = 56 by decide] at q2
  have e : y_fr h H [19584, 19612] [171] := y_st (y_mo (y_rf hr) rfl rfl) hH (by repeat (first | exact w_nil | refine w_cons (Or.inl (y_m rfl)) ?_ | refine w_cons (Or.inr (by assumption)) ?_)) (by repeat (first | exact w_nil | refine w_cons (Or.inl (y_m rfl)) ?_ | refine w_cons (Or.inr (by assumption)) ?_))
  have e0 : y_fr h H [19584] [] := y_st (y_mo (y_rf hr) rfl rfl) hH (by repeat (first | exact w_nil | refine w_cons (Or.inl (y_m rfl)) ?_ | refine w_cons (Or.inr (by assumption)) ?_)) (by repeat (first | exact w_nil | refine w_cons (Or.inl (y_m rfl)) ?_ | refine w_cons (Or.inr (by assumption)) ?_))
  exact f_sign_loopB x0 q2 4 H _ 0 e.1 ((y_fe e0 rfl).trans hx) rfl rfl (fun H' f g => yes q2 H' (y_sq e f rfl rfl) g)
theorem f_endB {h : aH} (hr : w_hr z_D h) {a X0 : Int32} (g0 : w_f h 19612 = some (.int X0)) (yes : 0 ≤ a.toInt ∧ a.toInt ≤ X0.toInt → ∀ (H : aH), y_fr h H [19584, 19612] [] → w_f H 19612 = some (.int a) → K0 (some (.int (Int32.ofInt 1))) H C S) (no : ¬ (0 ≤ a.toInt ∧ a.toInt ≤ X0.toInt) → ∀ (H : aH), y_fr h H [19584] [] → K0 (some (.int (Int32.ofInt 0))) H C S) : aOK s_P X (d + 1) a_m220 0 [some (.ref 155), some (.int a)] [] h C S K0 := by
  have T16 : ∀ {G : aH}, (0 ≤ a.toInt ∧ a.toInt ≤ X0.toInt) → y_fr h G [19584, 19612] [] → 0 ≤ a.toInt → a.toInt ≤ 60 → aOK s_P X (d + 1) a_m220 16 [some (.ref 155), some (.int a)] [.int (y_01 true)] G C S K0 := by
    intro G v e a0 a6
    refine w_go z_hl [] [] 30 e.1 ?_
    exact ⟨fun _ => ⟨rfl, y_zini a0 a6, by decide, fun H hH => yes v H (y_st e hH (by repeat (first | exact w_nil | refine w_cons (Or.inl (y_m rfl)) ?_ | refine w_cons (Or.inr (by assumption)) ?_)) (by repeat (first | exact w_nil | refine w_cons (Or.inl (y_m rfl)) ?_ | refine w_cons (Or.inr (by assumption)) ?_))) (hH.2.1 19612 _ rfl)⟩, fun q => absurd q (by decide)⟩
  have T16n : ∀ {G : aH}, ¬ (0 ≤ a.toInt ∧ a.toInt ≤ X0.toInt) → y_fr h G [19584] [] → aOK s_P X (d + 1) a_m220 16 [some (.ref 155), some (.int a)] [.int (y_01 false)] G C S K0 := by
    intro G v e
    refine w_go z_hl [] [] 30 e.1 ?_
    exact ⟨fun q => absurd q (by decide), fun _ => ⟨by decide, fun H hH => no v H (y_st e hH (by repeat (first | exact w_nil | refine w_cons (Or.inl (y_m rfl)) ?_ | refine w_cons (Or.inr (by assumption)) ?_)) (by repeat (first | exact w_nil | refine w_cons (Or.inl (y_m rfl)) ?_ | refine w_cons (Or.inr (by assumption)) ?_)))⟩⟩
  refine w_go z_hl [] [176] 30 hr ?_
  refine ⟨rfl, y_zini (by decide) (by decide), ?_⟩
  intro x hx x0 x60
  intro H hH
  have ex : x = X0 := (y_fi g0 hx).symm
  subst ex
  have e : y_fr h H [19584] [] := y_st (y_mo (y_rf hr) rfl rfl) hH (by repeat (first | exact w_nil | refine w_cons (Or.inl (y_m rfl)) ?_ | refine w_cons (Or.inr (by assumption)) ?_)) (by repeat (first | exact w_nil | refine w_cons (Or.inl (y_m rfl)) ?_ | refine w_cons (Or.inr (by assumption)) ?_))
  refine q_in (v := a.toInt64) (lo := Int64.ofNat 0) (hi := x.toInt64) e.1 (fun H3 h3 l1 l2 => ⟨fun n e => (by cases e), ?_⟩) (fun H3 h3 l => ⟨fun n e => (by cases e), ?_⟩)
  · rw [y_i2l] at l1
    rw [y_i2l, y_i2l] at l2
    have x60' : x.toInt ≤ 60 := x60
    exact T16 ⟨l1, l2⟩ (y_sq (y_mo e rfl rfl) h3 rfl rfl) l1 (by omega)
  · exact T16n (fun v => l (by rw [y_i2l]; exact v.1) (by rw [y_i2l, y_i2l]; exact v.2)) (y_sq e h3 rfl rfl)
theorem f_say52B {h : aH} (hr : w_hr z_D h) (hJ : y_J h) (hS : j_say h) {nI mI sy0 : Int32} (w1 : w_f h 19603 = some (.int sy0)) (w2 : w_f h 19610 = some (.int sy0)) (w3 : w_f h 19613 = some (.int (Int32.ofInt 0))) (w4 : w_f h 19615 = some (.int (Int32.ofInt 0))) (s11 : sy0.toInt ≤ 11) (m0 : 0 ≤ mI.toInt) (m40 : mI.toInt ≤ 40) (hk : ∀ (r : Int32) (H : aH), y_fr h H [19584, 19603, 19610, 19613, 19614, 19615] [165, 166, 167, 168, 169, 170] → y_J H → j_say H → K0 (some (.int r)) H C S) : aOK s_P X (d + 169) a_m221 52 [some (.ref 155), some (.int nI), none, none] [.int mI, .ref 155] h C S K0 := by
  obtain ⟨q1, q2, q3, q4, q5, q6, q7⟩ := id hJ
  obtain ⟨sy, acl, kdl, nul, bel, fil, sgl, y1, y2, y3, y4, y5, y6, y7, y8⟩ := id hS
  obtain ⟨y0, y12⟩ := y_syb hr y1
  obtain ⟨tp, z1, z2, -⟩ := w_arrI hr (o := 171) (t := 0) (n := 60) (lo := 0) (hi := 255) (by decide) rfl
  have g171 := w_a_at z1
  obtain ⟨nd, le, de, ta, n1, n2, n3, n4, c1, c2, c3, c4, c5⟩ := id q1
  have keep : ∀ {G : aH}, y_fr h G [19584, 19603, 19610, 19613, 19614, 19615] [165, 166, 167, 168, 169, 170] → y_J G := fun e => ⟨j_net_e (y_fe e rfl) (y_ae e rfl) (y_ae e rfl) (y_ae e rfl) q1, j_dp_e (y_fe e rfl) (y_fe e rfl) (y_ae e rfl) q2, j_old_e (y_ae e rfl) (y_ae e rfl) (y_ae e rfl) (y_ae e rfl) (y_ae e rfl) (y_ae e rfl) q3, j_w_e (y_fe e rfl) (y_ae e rfl) q4, j_seen_e (y_fe e rfl) (y_fe e rfl) (y_ae e rfl) (y_ae e rfl) q5, j_kept_e (y_fe e rfl) (y_ae e rfl) (y_ae e rfl) (y_ae e rfl) (y_ae e rfl) q6, j_land_e (y_fe e rfl) (y_ae e rfl) q7⟩
  -- nothing new told
  have sayO : ∀ {G : aH} {kd' : List Int32} {nu' : List Int64} {be' fi' ac' sg' : List Int32}, w_f G 19603 = some (.int sy) → w_a G 165 = some (0, .inl ac') → w_a G 166 = some (0, .inl kd') → w_a G 167 = some (1, .inr (.inl nu')) → w_a G 168 = some (0, .inl be') → w_a G 169 = some (0, .inl fi') → w_a G 170 = some (0, .inl sg') → y_rw sy.toInt.toNat kdl kd' nul nu' bel be' fil fi' → (∀ j, j ≠ sy.toInt.toNat → y_N ac' j = y_N acl j) → (∀ j, j / 40 ≠ sy.toInt.toNat → y_N sg' j = y_N sgl j) → ∀ s : Nat, (s : Int) < sy.toInt → y_s1 ac' kd' nu' be' fi' sg' s := by
    intro G kd' nu' be' fi' ac' sg' e1 e2 e3 e4 e5 e6 e7 rw' ha hsg s hs
    obtain ⟨t0, t1, t2⟩ := y8 s hs
    have hT : ∀ j, j < 40 → y_tx sg' s j = y_tx sgl s j := fun j hj => hsg _ (by omega)
    refine ⟨y_tm_c (y_tm_rw t0 rw' (by omega)) hT (Nat.le_refl _), y_tm_c (y_tm_rw t1 rw' (by omega)) hT (Nat.le_refl _), fun q => ?_⟩
    rw [ha s (by omega)] at q
    rw [rw'.1 (2 * s) (by omega), rw'.1 (2 * s + 1) (by omega)]
    exact t2 q
  have T148 : ∀ {G : aH} {nI gI k' : Int32} {t q : Nat} {o : Int} {kd' : List Int32} {nu' : List Int64} {be' fi' ac' sg' : List Int32}, y_fr h G [19584, 19610, 19613, 19614, 19615] [165, 166, 167, 168, 169, 170] → y_rs G tp t q o sy.toInt.toNat kd' nu' be' fi' → w_a G 165 = some (0, .inl ac') → w_a G 170 = some (0, .inl sg') → y_rw sy.toInt.toNat kdl kd' nul nu' bel be' fil fi' → (∀ j, j ≠ sy.toInt.toNat → y_N ac' j = y_N acl j) → (∀ j, j / 40 ≠ sy.toInt.toNat → y_N sg' j = y_N sgl j) → (∀ j, j < t → y_N sg' (40 * sy.toInt.toNat + j) = y_N tp j) → y_tm (y_N tp) t (2 * sy.toInt.toNat) kd' nu' be' fi' → y_tm (y_N tp) t (2 * sy.toInt.toNat + 1) kd' nu' be' fi' → (y_N ac' sy.toInt.toNat = 126 → y_N kd' (2 * sy.toInt.toNat) ≠ 0 ∧ y_N kd' (2 * sy.toInt.toNat + 1) ≠ 0) → sy.toInt ≤ 11 → aOK s_P X (d + 169) a_m221 148 [some (.ref 155), some (.int nI), some (.int gI), some (.int k')] [] G C S K0 := by
    intro G nI gI k' t q o kd' nu' be' fi' ac' sg' e rs a1 a2 rw' ha hsg hT t0 t1 t2 s11
    obtain ⟨hr', -, t40, -⟩ := y_rs_hr rs
    obtain ⟨r1, r2, r4, r5, r6, r7, r8⟩ := rs
    have hinc : (sy + Int32.ofInt 1).toInt = sy.toInt + 1 := y_inc (by omega)
    refine w_go z_hl [] [] 40 e.1 ?_
    intro x hx _ _
    obtain rfl := y_fi ((y_fe e rfl).trans y1) hx
    refine ⟨rfl, y_zini (by show 0 ≤ (sy + Int32.ofInt 1).toInt; omega) (by show (sy + Int32.ofInt 1).toInt ≤ 12; omega), ?_⟩
    intro H hH
    have f : y_fr G H [19603] [] := y_st (y_mo (y_rf e.1) rfl rfl) hH (by repeat (first | exact w_nil | refine w_cons (Or.inl (y_m rfl)) ?_ | refine w_cons (Or.inr (by assumption)) ?_)) (by repeat (first | exact w_nil | refine w_cons (Or.inl (y_m rfl)) ?_ | refine w_cons (Or.inr (by assumption)) ?_))
    have e2 : y_fr h H [19584, 19603, 19610, 19613, 19614, 19615] [165, 166, 167, 168, 169, 170] := y_sq (y_mo e rfl rfl) f rfl rfl
    refine hk _ H e2 (keep e2) ⟨_, ac', kd', nu', be', fi', sg', hH.2.1 19603 _ rfl, (y_ae f rfl).trans a1, (y_ae f rfl).trans r5, (y_ae f rfl).trans r6, (y_ae f rfl).trans r7, (y_ae f rfl).trans r8, (y_ae f rfl).trans a2, fun s hs => ?_⟩
    have hs2 : (s : Int) < (sy + Int32.ofInt 1).toInt := hs
    by_cases qs : (s : Int) < sy.toInt
    · exact sayO ((y_fe e rfl).trans y1) a1 r5 r6 r7 r8 a2 rw' ha hsg s qs
    · have es : s = sy.toInt.toNat := by omega
      subst es
      exact ⟨y_tm_c t0 hT t40, y_tm_c t1 hT t40, t2⟩
  have out : ∀ {G : aH} {r : Int32} {t q : Nat} {o : Int} {kd' : List Int32} {nu' : List Int64} {be' fi' ac' : List Int32}, y_fr h G [19584, 19610, 19613, 19614, 19615] [165, 166, 167, 168, 169] → y_rs G tp t q o sy.toInt.toNat kd' nu' be' fi' → w_a G 165 = some (0, .inl ac') → y_rw sy.toInt.toNat kdl kd' nul nu' bel be' fil fi' → (∀ j, j ≠ sy.toInt.toNat → y_N ac' j = y_N acl j) → K0 (some (.int r)) G C S := by
    intro G r t q o kd' nu' be' fi' ac' e rs a1 rw' ha
    have e2 : y_fr h G [19584, 19603, 19610, 19613, 19614, 19615] [165, 166, 167, 168, 169, 170] := y_mo e rfl rfl
    obtain ⟨r1, r2, r4, r5, r6, r7, r8⟩ := rs
    exact hk _ G e2 (keep e2) ⟨sy, ac', kd', nu', be', fi', sgl, (y_fe e rfl).trans y1, a1, r5, r6, r7, r8, (y_ae e rfl).trans y7, sayO ((y_fe e rfl).trans y1) a1 r5 r6 r7 r8 ((y_ae e rfl).trans y7) rw' ha (fun _ _ => rfl)⟩
  -- behind the reading
  have T78 : ∀ {G : aH} {nI gI : Int32} {t q : Nat} {o : Int} {kd' : List Int32} {nu' : List Int64} {be' fi' ac' : List Int32}, y_fr h G [19584, 19610, 19613, 19614, 19615] [165, 166, 167, 168, 169] → y_rs G tp t q o sy.toInt.toNat kd' nu' be' fi' → w_a G 165 = some (0, .inl ac') → y_rw sy.toInt.toNat kdl kd' nul nu' bel be' fil fi' → (∀ j, j ≠ sy.toInt.toNat → y_N ac' j = y_N acl j) → sy.toInt ≤ 11 → (gI ≠ 0 → y_tm (y_N tp) t (2 * sy.toInt.toNat) kd' nu' be' fi' ∧ y_tm (y_N tp) t (2 * sy.toInt.toNat + 1) kd' nu' be' fi' ∧ (y_N ac' sy.toInt.toNat = 126 → y_N kd' (2 * sy.toInt.toNat) ≠ 0 ∧ y_N kd' (2 * sy.toInt.toNat + 1) ≠ 0)) → aOK s_P X (d + 169) a_m221 78 [some (.ref 155), some (.int nI), none, none] [.int gI] G C S K0 := by
    intro G nI gI t q o kd' nu' be' fi' ac' e rs a1 rw' ha s11 hg
    have fin : ∀ {H : aH} {r : Int32}, y_fr G H [] [] → K0 (some (.int r)) H C S := fun f => out (y_sq e f rfl rfl) (y_rs_fr rs f) ((y_ae f rfl).trans a1) rw' ha
    obtain ⟨toI, atI, opI, nd', hr', b1, b2, b3, b4, b5, b6, b7, b8, pt', t40, o0', o5'⟩ := id rs.1
    obtain ⟨iI, i1, i2⟩ := id rs.2.1
    have T112 : ∀ {H : aH}, y_fr G H [] [] → gI ≠ 0 → aOK s_P X (d + 169) a_m221 112 [some (.ref 155), some (.int nI), some (.int gI), none] [] H C S K0 := by
      intro H f hg0
      refine w_go z_hl [114] [] 40 f.1 ?_
      intro H2 h2
      have f2 := y_st f h2 (by repeat (first | exact w_nil | refine w_cons (Or.inl (y_m rfl)) ?_ | refine w_cons (Or.inr (by assumption)) ?_)) (by repeat (first | exact w_nil | refine w_cons (Or.inl (y_m rfl)) ?_ | refine w_cons (Or.inr (by assumption)) ?_))
      have e2 := y_sq e f2 rfl rfl
      refine y_say_copy b3 t40 i2 (by omega) t H2 _ 0 sgl f2.1 ((y_fe f2 rfl).trans b2) ((y_fe f2 rfl).trans i1) ((y_ae f2 rfl).trans b1) ((y_ae e2 rfl).trans y7) rfl (by omega) (fun j hj => absurd hj (by omega)) (fun H3 k' sg' f3 a3 hT hsg => ?_)
      obtain ⟨t0, t1, t2⟩ := hg hg0
      obtain ⟨r1, ⟨jI, r2, r3⟩, r4, r5, r6, r7, r8⟩ := y_rs_fr rs f2
      exact T148 (y_sq (y_mo e2 rfl rfl) f3 rfl rfl) ⟨y_ps_fr r1 f3 rfl rfl, ⟨jI, (y_fe f3 rfl).trans r2, r3⟩, r4, (y_ae f3 rfl).trans r5, (y_ae f3 rfl).trans r6, (y_ae f3 rfl).trans r7, (y_ae f3 rfl).trans r8⟩ ((y_ae f3 rfl).trans ((y_ae f2 rfl).trans a1)) a3 rw' ha hsg hT t0 t1 t2 s11
    have T101 : ∀ {H : aH}, y_fr G H [] [] → aOK s_P X (d + 169) a_m221 101 [some (.ref 155), some (.int nI), some (.int gI), none] [] H C S K0 := by
      intro H f
      refine w_go z_hl [112] [] 40 f.1 ?_
      refine ⟨fun q => fun H2 h2 => ?_, fun _ => ?_⟩
      · have q2 : gI.toInt ≠ (0 : Int32).toInt := (y_ci .ne _ _).mp q
        exact T112 (y_st f h2 (by repeat (first | exact w_nil | refine w_cons (Or.inl (y_m rfl)) ?_ | refine w_cons (Or.inr (by assumption)) ?_)) (by repeat (first | exact w_nil | refine w_cons (Or.inl (y_m rfl)) ?_ | refine w_cons (Or.inr (by assumption)) ?_))) (fun e => q2 (by rw [e]))
      · intro x hx _ _
        exact fun H2 h2 => fin (y_st f h2 (by repeat (first | exact w_nil | refine w_cons (Or.inl (y_m rfl)) ?_ | refine w_cons (Or.inr (by assumption)) ?_)) (by repeat (first | exact w_nil | refine w_cons (Or.inl (y_m rfl)) ?_ | refine w_cons (Or.inr (by assumption)) ?_)))
    refine w_go z_hl [101] [] 40 e.1 ?_
    refine ⟨fun _ => fun H hH => T101 (y_st (y_rf e.1) hH (by repeat (first | exact w_nil | refine w_cons (Or.inl (y_m rfl)) ?_ | refine w_cons (Or.inr (by assumption)) ?_)) (by repeat (first | exact w_nil | refine w_cons (Or.inl (y_m rfl)) ?_ | refine w_cons (Or.inr (by assumption)) ?_))), fun _ => ⟨fun _ => fun H hH => fin (y_st (y_rf e.1) hH (by repeat (first | exact w_nil | refine w_cons (Or.inl (y_m rfl)) ?_ | refine w_cons (Or.inr (by assumption)) ?_)) (by repeat (first | exact w_nil | refine w_cons (Or.inl (y_m rfl)) ?_ | refine w_cons (Or.inr (by assumption)) ?_))), fun _ => ?_⟩⟩
    intro x hx _ _
    exact ⟨fun _ => fun H hH => T101 (y_st (y_rf e.1) hH (by repeat (first | exact w_nil | refine w_cons (Or.inl (y_m rfl)) ?_ | refine w_cons (Or.inr (by assumption)) ?_)) (by repeat (first | exact w_nil | refine w_cons (Or.inl (y_m rfl)) ?_ | refine w_cons (Or.inr (by assumption)) ?_))), fun _ => fun H hH => fin (y_st (y_rf e.1) hH (by repeat (first | exact w_nil | refine w_cons (Or.inl (y_m rfl)) ?_ | refine w_cons (Or.inr (by assumption)) ?_)) (by repeat (first | exact w_nil | refine w_cons (Or.inl (y_m rfl)) ?_ | refine w_cons (Or.inr (by assumption)) ?_)))⟩
  have T59y : ∀ {G : aH} {nI : Int32} {t q : Nat} {o : Int} {kd' : List Int32} {nu' : List Int64} {be' fi' ac' : List Int32}, y_fr h G [19584, 19610, 19613, 19614, 19615] [165, 166, 167, 168, 169] → y_rs G tp t q o sy.toInt.toNat kd' nu' be' fi' → w_a G 165 = some (0, .inl ac') → y_rw sy.toInt.toNat kdl kd' nul nu' bel be' fil fi' → (∀ j, j ≠ sy.toInt.toNat → y_N ac' j = y_N acl j) → sy.toInt ≤ 11 → y_tm (y_N tp) t (2 * sy.toInt.toNat) kd' nu' be' fi' → y_tm (y_N tp) t (2 * sy.toInt.toNat + 1) kd' nu' be' fi' → (y_N ac' sy.toInt.toNat = 126 → y_N kd' (2 * sy.toInt.toNat) ≠ 0 ∧ y_N kd' (2 * sy.toInt.toNat + 1) ≠ 0) → aOK s_P X (d + 169) a_m221 59 [some (.ref 155), some (.int nI), none, none] [.int (Int32.ofInt 1)] G C S K0 := by
    intro G nI t q o kd' nu' be' fi' ac' e rs a1 rw' ha s11 t0 t1 t2
    refine w_go z_hl [78] [] 40 e.1 ?_
    refine ⟨fun q => absurd q (by decide), fun _ => ?_⟩
    intro x hx _ _
    intro y hy _ _
    refine ⟨fun _ => fun H hH => ?_, fun _ => fun H hH => ?_⟩
    · have f : y_fr G H [] [] := y_st (y_rf e.1) hH (by repeat (first | exact w_nil | refine w_cons (Or.inl (y_m rfl)) ?_ | refine w_cons (Or.inr (by assumption)) ?_)) (by repeat (first | exact w_nil | refine w_cons (Or.inl (y_m rfl)) ?_ | refine w_cons (Or.inr (by assumption)) ?_))
      exact T78 (y_sq e f rfl rfl) (y_rs_fr rs f) ((y_ae f rfl).trans a1) rw' ha s11 (fun q => absurd rfl q)
    · have f : y_fr G H [] [] := y_st (y_rf e.1) hH (by repeat (first | exact w_nil | refine w_cons (Or.inl (y_m rfl)) ?_ | refine w_cons (Or.inr (by assumption)) ?_)) (by repeat (first | exact w_nil | refine w_cons (Or.inl (y_m rfl)) ?_ | refine w_cons (Or.inr (by assumption)) ?_))
      exact T78 (y_sq e f rfl rfl) (y_rs_fr rs f) ((y_ae f rfl).trans a1) rw' ha s11 (fun _ => ⟨t0, t1, t2⟩)
  have T59n : ∀ {G : aH} {nI : Int32} {t q : Nat} {o : Int} {kd' : List Int32} {nu' : List Int64} {be' fi' ac' : List Int32}, y_fr h G [19584, 19610, 19613, 19614, 19615] [165, 166, 167, 168, 169] → y_rs G tp t q o sy.toInt.toNat kd' nu' be' fi' → w_a G 165 = some (0, .inl ac') → y_rw sy.toInt.toNat kdl kd' nul nu' bel be' fil fi' → (∀ j, j ≠ sy.toInt.toNat → y_N ac' j = y_N acl j) → sy.toInt ≤ 11 → aOK s_P X (d + 169) a_m221 59 [some (.ref 155), some (.int nI), none, none] [.int (Int32.ofInt 0)] G C S K0 := by
    intro G nI t q o kd' nu' be' fi' ac' e rs a1 rw' ha s11
    refine w_go z_hl [78] [] 40 e.1 ?_
    refine ⟨fun _ => fun H hH => ?_, fun q => absurd q (by decide)⟩
    have f : y_fr G H [] [] := y_st (y_rf e.1) hH (by repeat (first | exact w_nil | refine w_cons (Or.inl (y_m rfl)) ?_ | refine w_cons (Or.inr (by assumption)) ?_)) (by repeat (first | exact w_nil | refine w_cons (Or.inl (y_m rfl)) ?_ | refine w_cons (Or.inr (by assumption)) ?_))
    exact T78 (y_sq e f rfl rfl) (y_rs_fr rs f) ((y_ae f rfl).trans a1) rw' ha s11 (fun q => absurd rfl q)
  have T52 : ∀ {G : aH} {nI mI : Int32}, y_fr h G [19584, 19610, 19613, 19615] [] → w_f G 19610 = some (.int sy) → w_f G 19613 = some (.int (Int32.ofInt 0)) → w_f G 19615 = some (.int (Int32.ofInt 0)) → sy.toInt ≤ 11 → 0 ≤ mI.toInt → mI.toInt ≤ 40 → aOK s_P X (d + 169) a_m221 52 [some (.ref 155), some (.int nI), none, none] [.int mI, .ref 155] G C S K0 := by
    intro G nI mI e f1 f2 f3 s11 m0 m40
    refine w_go z_hl [] [222] 40 e.1 ?_
    refine ⟨rfl, y_zini m0 m40, fun H hH => ?_⟩
    have f : y_fr G H [19614] [] := y_st (y_mo (y_rf e.1) rfl rfl) hH (by repeat (first | exact w_nil | refine w_cons (Or.inl (y_m rfl)) ?_ | refine w_cons (Or.inr (by assumption)) ?_)) (by repeat (first | exact w_nil | refine w_cons (Or.inl (y_m rfl)) ?_ | refine w_cons (Or.inr (by assumption)) ?_))
    have e2 : y_fr h H [19584, 19610, 19613, 19614, 19615] [] := y_sq (y_mo e rfl rfl) f rfl rfl
    have ps : y_ps H tp mI.toInt.toNat 0 0 := ⟨mI, _, _, nd, f.1, (y_ae e2 rfl).trans g171, hH.2.1 19614 _ rfl, by omega, (y_fe f rfl).trans f2, rfl, (y_fe f rfl).trans f3, rfl, (y_fe e2 rfl).trans n1, by omega, by omega, by decide, by decide⟩
    have rs : y_rs H tp mI.toInt.toNat 0 0 sy.toInt.toNat kdl nul bel fil := ⟨ps, ⟨sy, (y_fe f rfl).trans f1, by omega⟩, by omega, (y_ae e2 rfl).trans y3, (y_ae e2 rfl).trans y4, (y_ae e2 rfl).trans y5, (y_ae e2 rfl).trans y6⟩
    refine y_readsSaying rs ((y_ae e2 rfl).trans y2) (fun H2 q kd' nu' be' fi' ac' sg t0 t1 t2 => ⟨fun n e => (by cases e), ?_⟩) (fun H2 q o' kd' nu' be' fi' ac' sg => ⟨fun n e => (by cases e), ?_⟩)
    · exact T59y (y_sq (y_mo e2 rfl rfl) sg.1 rfl rfl) sg.2.1 sg.2.2.2.1 sg.2.2.1 sg.2.2.2.2.2 s11 t0 t1 t2
    · exact T59n (y_sq (y_mo e2 rfl rfl) sg.1 rfl rfl) sg.2.1 sg.2.2.2.1 sg.2.2.1 sg.2.2.2.2.2 s11
  obtain rfl := y_fi y1 w1
  exact T52 (y_mo (y_rf hr) rfl rfl) w2 w3 w4 s11 m0 m40
theorem f_sayB {h : aH} (hr : w_hr z_D h) (hJ : y_J h) (hS : j_say h) (hk : ∀ (r : Int32) (H : aH), y_fr h H [19584, 19603, 19610, 19612, 19613, 19614, 19615] [165, 166, 167, 168, 169, 170] → y_J H → j_say H → w_f H 19612 = some (.int (Int32.ofInt 0)) → K0 (some (.int r)) H C S) : aOK s_P X (d + 169) a_m221 0 [some (.ref 155), none, none, none] [] h C S K0 := by
  obtain ⟨sy, acl, kdl, nul, bel, fil, sgl, y1, y2, y3, y4, y5, y6, y7, y8⟩ := id hS
  obtain ⟨y0, y12⟩ := y_syb hr y1
  refine w_go z_hl [52] [] 40 hr ?_
  refine ⟨rfl, y_zini (by decide) (by decide), ?_⟩
  intro x hx x0 x60
  refine ⟨rfl, y_zini (by decide) (by decide), ?_⟩
  intro y hy _ _
  obtain rfl := y_fi y1 hy
  refine ⟨fun q => ?_, fun _ => fun H hH => ?_⟩
  · have q2 : sy.toInt ≠ ((Int8.ofInt 12).toInt32).toInt := (y_ci .ne _ _).mp q
    rw [show ((Int8.ofInt 12).toInt32).toInt = 12 by decide] at q2
    refine ⟨rfl, y_zini (by show 0 ≤ sy.toInt; omega) (by show sy.toInt ≤ 12; omega), rfl, y_zini (by decide) (by decide), rfl, y_zini (by decide) (by decide), ?_⟩
    have c40 : ((Int8.ofInt 40).toInt32).toInt = 40 := by decide
    refine ⟨fun q3 => fun H hH => ?_, fun q3 => fun H hH => ?_⟩
    · have e2 : y_fr h H [19584, 19610, 19612, 19613, 19615] [] := y_st (y_mo (y_rf hr) rfl rfl) hH (by repeat (first | exact w_nil | refine w_cons (Or.inl (y_m rfl)) ?_ | refine w_cons (Or.inr (by assumption)) ?_)) (by repeat (first | exact w_nil | refine w_cons (Or.inl (y_m rfl)) ?_ | refine w_cons (Or.inr (by assumption)) ?_))
      exact f_say52B e2.1 (y_J_fr e2 rfl rfl hJ) (j_say_e e2 rfl rfl hS) ((y_fe e2 rfl).trans y1) (hH.2.1 19610 _ rfl) (hH.2.1 19613 _ rfl) (hH.2.1 19615 _ rfl) (by omega) (by rw [c40]; decide) (by rw [c40]; decide) (fun r H2 f qJ qS => hk r H2 (y_sq (y_mo e2 rfl rfl) f rfl rfl) qJ qS ((y_fe f rfl).trans (hH.2.1 19612 _ rfl)))
    · have q4 : ¬ (((Int8.ofInt 40).toInt32).toInt < x.toInt) := y_cif q3
      rw [c40] at q4
      have e2 : y_fr h H [19584, 19610, 19612, 19613, 19615] [] := y_st (y_mo (y_rf hr) rfl rfl) hH (by repeat (first | exact w_nil | refine w_cons (Or.inl (y_m rfl)) ?_ | refine w_cons (Or.inr (by assumption)) ?_)) (by repeat (first | exact w_nil | refine w_cons (Or.inl (y_m rfl)) ?_ | refine w_cons (Or.inr (by assumption)) ?_))
      exact f_say52B e2.1 (y_J_fr e2 rfl rfl hJ) (j_say_e e2 rfl rfl hS) ((y_fe e2 rfl).trans y1) (hH.2.1 19610 _ rfl) (hH.2.1 19613 _ rfl) (hH.2.1 19615 _ rfl) (by omega) x0 (by omega) (fun r H2 f qJ qS => hk r H2 (y_sq (y_mo e2 rfl rfl) f rfl rfl) qJ qS ((y_fe f rfl).trans (hH.2.1 19612 _ rfl)))
  · have e2 : y_fr h H [19584, 19612] [] := y_st (y_mo (y_rf hr) rfl rfl) hH (by repeat (first | exact w_nil | refine w_cons (Or.inl (y_m rfl)) ?_ | refine w_cons (Or.inr (by assumption)) ?_)) (by repeat (first | exact w_nil | refine w_cons (Or.inl (y_m rfl)) ?_ | refine w_cons (Or.inr (by assumption)) ?_))
    exact hk _ H (y_mo e2 rfl rfl) (y_J_fr e2 rfl rfl hJ) (j_say_e e2 rfl rfl hS) (hH.2.1 19612 _ rfl)

theorem n_bdB {h : aH} {key : Nat} {lo hi : Int} {x : Int32} (hr : w_hr z_D h) (hf : w_f h key = some (.int x)) (hd : t_dk key = some (1, lo, hi)) : lo ≤ x.toInt ∧ x.toInt ≤ hi := by
  obtain ⟨w, w1, w2⟩ := t_dk_ok hd hr
  rw [hf] at w1
  cases w1
  rcases w2 with ⟨-, y, e, q1, q2⟩ | ⟨q, -⟩
  · cases e
    exact ⟨q1, q2⟩
  · exact absurd (show (1 : Nat) = 2 from q) (by decide)
theorem n_cV_upB {h H : aH} {v : Nat → Int32} {k0 : Nat} {x : Int32} (s : ∀ k ∈ nCB, k ∉ [k0] → w_f H k = w_f h k) (sa : ∀ o ∈ nCAB, o * 128 ∉ [k0] → w_a H o = w_a h o) (q : n_cVB h v) (g : w_f H k0 = some (.int x)) (h0 : n_fr0B k0 = true) (h1 : nCAB.all (fun o => decide (o * 128 ≠ k0)) = true) : n_cVB H (n_upB v k0 x) := by
  refine ⟨fun k hk => ?_, n_cA_SB (fun o ho => sa o ho (fun w => ?_)) (n_cA_upB h0 q.2)⟩
  · unfold n_upB
    by_cases e : k = k0
    · subst e
      rw [if_pos rfl]
      exact g
    · rw [if_neg e]
      exact (s k hk (fun w => e (List.mem_singleton.mp w))).trans (q.1 k hk)
  · exact of_decide_eq_true (List.all_eq_true.mp h1 o ho) (List.mem_singleton.mp w)
/-- class and reference of a pair -/
def n_pcB (X : aX) (M : aM) (n : Nat) (b : Bool) (st : List Int32 → (Nat → Int32) → (Nat → Int32) × Int32) : Prop := ∀ (us : List Int32) (h : aH) (v : Nat → Int32) (C S : Nat) (K0 : Option Value → aH → Nat → Nat → Prop), us.length = n → (b = true → ∀ u ∈ us, 0 ≤ u.toInt ∧ u.toInt ≤ 1) → t_I h → n_cVB h v → n_mVB h v → (∀ (H : aH), t_I H → n_cVB H (st us v).1 → n_mVB H v → K0 (some (.int (st us v).2)) H C S) → aOK s_P X 200 M 0 (a_ent (.ref 2 :: us.map .int) M.2.2.1) [] h C S K0
def n_prB (X : aX) (M : aM) (n : Nat) (b : Bool) (st : List Int32 → (Nat → Int32) → (Nat → Int32) × Int32) : Prop := ∀ (us : List Int32) (h : aH) (w v : Nat → Int32) (C S : Nat) (K0 : Option Value → aH → Nat → Nat → Prop), us.length = n → (b = true → ∀ u ∈ us, 0 ≤ u.toInt ∧ u.toInt ≤ 1) → t_I h → n_cVB h w → n_mVB h v → (∀ (H : aH), t_I H → n_cVB H w → n_mVB H (st us v).1 → K0 (some (.int (st us v).2)) H C S) → aOK s_P X 200 M 0 (a_ent (.ref 155 :: us.map .int) M.2.2.1) [] h C S K0
theorem n_c127B : n_pcB X a_m127 2 false n_s127B := by
  intro us h v C S K0 hl _ hI hc hm hk
  match us, hl with
  | [a, b], _ =>
    have i1 := s_i32 a
    have i2 := s_i32 b
    have f16 := hc.1 16 (by decide)
    have b16 := n_bdB (lo := 0) (hi := 6) hI.1 f16 rfl
    by_cases q : n_hdB a b (v 16)
    · rw [show n_s127B [a, b] v = (n_upB v 16 (v 16 + Int32.ofInt 1), v 16) from if_pos q] at hk
      obtain ⟨q1, q2, q3, q4, q5⟩ := q
      refine n_ctx (us := [a, b]) (ws := [.int a, .int b, .int (v 16)]) (m := 0) (z_hd0_s (y_jx_l y_JA_x)) rfl rfl rfl hI rfl rfl (by decide +kernel) (by decide +kernel) rfl (n_Ra (by omega) (by omega) rfl (n_Ra (by omega) (by omega) rfl (n_Rf rfl f16 (by omega) (by omega) n_Rn))) (fun _ h => absurd h List.not_mem_nil) (fun T hT ρX x H hI' htm hg => ?_)
      obtain rfl := List.mem_singleton.mp hT
      have r0 := n_v (j := 0) htm rfl rfl rfl
      obtain ⟨y, r1, g1, -, -⟩ := n_f (o := 0) (k := 16) (j := 1) htm rfl rfl (by decide) rfl rfl
      have r2 : ρX[2]? = some (.int (v 16)) := hg 2 2 rfl
      have s1 := n_r (a := 0) (b := 2) (w := 0) htm rfl r0 r2
      have s2 := n_r (a := 2) (b := 0) (w := 0) htm rfl r2 r0
      have s3 := n_r (a := 1) (b := 2) (w := 1) htm rfl r1 r2
      have s4 := n_r (a := 2) (b := 1) (w := -1) htm rfl r2 r1
      have ex : x = v 16 := Int32.toInt_inj.mp (by omega)
      have ey : y = v 16 + Int32.ofInt 1 := Int32.toInt_inj.mp (by rw [y_inc (by omega)]; omega)
      rw [ey] at g1
      rw [ex]
      have hf := htm.2.2.2.2.2.1
      exact hk H hI' (n_cV_upB (n_mk_cB hI.1 hf (by decide +kernel)) (n_mk_aB hf (by decide +kernel)) hc g1 rfl rfl) (n_mS_VB (n_mk_mB (ex := [16]) hI.1 hf (by decide +kernel)) hm)
    · rw [show n_s127B [a, b] v = (v, Int32.ofInt (-1)) from if_neg q] at hk
      by_cases q1 : a.toInt ≤ -1
      · exact n_ctxc (us := [a, b]) (ws := [.int a, .int b]) (m := 0) (Int32.ofInt (-1)) (z_hd1_s (y_jx_l y_JA_x)) rfl rfl rfl hI rfl rfl (by decide +kernel) (by decide +kernel) rfl (by decide +kernel) (n_Ra (by omega) (by omega) rfl (n_Ra (by omega) (by omega) rfl (n_Rn))) (fun _ h => absurd h List.not_mem_nil) (fun H h1 hf => hk H h1 (n_cS_VB (n_sCB hI.1 hf (by decide +kernel)) hc) (n_mS_VB (n_mk_mB (ex := []) hI.1 hf (by decide +kernel)) hm))
      · by_cases q2 : 32 ≤ a.toInt
        · exact n_ctxc (us := [a, b]) (ws := [.int a, .int b]) (m := 0) (Int32.ofInt (-1)) (z_hd2_s (y_jx_l y_JA_x)) rfl rfl rfl hI rfl rfl (by decide +kernel) (by decide +kernel) rfl (by decide +kernel) (n_Ra (by omega) (by omega) rfl (n_Ra (by omega) (by omega) rfl (n_Rn))) (fun _ h => absurd h List.not_mem_nil) (fun H h1 hf => hk H h1 (n_cS_VB (n_sCB hI.1 hf (by decide +kernel)) hc) (n_mS_VB (n_mk_mB (ex := []) hI.1 hf (by decide +kernel)) hm))
        · by_cases q3 : b.toInt ≤ 0
          · exact n_ctxc (us := [a, b]) (ws := [.int a, .int b]) (m := 0) (Int32.ofInt (-1)) (z_hd3_s (y_jx_l y_JA_x)) rfl rfl rfl hI rfl rfl (by decide +kernel) (by decide +kernel) rfl (by decide +kernel) (n_Ra (by omega) (by omega) rfl (n_Ra (by omega) (by omega) rfl (n_Rn))) (fun _ h => absurd h List.not_mem_nil) (fun H h1 hf => hk H h1 (n_cS_VB (n_sCB hI.1 hf (by decide +kernel)) hc) (n_mS_VB (n_mk_mB (ex := []) hI.1 hf (by decide +kernel)) hm))
          · by_cases q4 : 100 ≤ b.toInt
            · exact n_ctxc (us := [a, b]) (ws := [.int a, .int b]) (m := 0) (Int32.ofInt (-1)) (z_hd4_s (y_jx_l y_JA_x)) rfl rfl rfl hI rfl rfl (by decide +kernel) (by decide +kernel) rfl (by decide +kernel) (n_Ra (by omega) (by omega) rfl (n_Ra (by omega) (by omega) rfl (n_Rn))) (fun _ h => absurd h List.not_mem_nil) (fun H h1 hf => hk H h1 (n_cS_VB (n_sCB hI.1 hf (by decide +kernel)) hc) (n_mS_VB (n_mk_mB (ex := []) hI.1 hf (by decide +kernel)) hm))
            · have q5 : (v 16).toInt = 6 := by
                by_cases q5 : (v 16).toInt < 6
                · exact absurd ⟨by omega, by omega, by omega, by omega, by omega⟩ q
                · omega
              exact n_ctxc (us := [a, b]) (ws := [.int a, .int b, .int (v 16)]) (m := 0) (Int32.ofInt (-1)) (z_hd5_s (y_jx_l y_JA_x)) rfl rfl rfl hI rfl rfl (by decide +kernel) (by decide +kernel) rfl (by decide +kernel) (n_Ra (by omega) (by omega) rfl (n_Ra (by omega) (by omega) rfl (n_Rf rfl f16 (by omega) (by omega) (n_Rn)))) (fun _ h => absurd h List.not_mem_nil) (fun H h1 hf => hk H h1 (n_cS_VB (n_sCB hI.1 hf (by decide +kernel)) hc) (n_mS_VB (n_mk_mB (ex := []) hI.1 hf (by decide +kernel)) hm))
theorem n_daysB {h : aH} (hI : t_I h) {y : Int32} (hy : w_f h 17152 = some (.int y)) {k : Nat} (hk : k ∈ t_K) (hd : t_dk k = some (1, 0, 30)) : ∃ x : Int32, w_f h k = some (.int x) ∧ x.toInt ≤ y.toInt ∧ 0 ≤ x.toInt ∧ x.toInt ≤ 30 := by
  obtain ⟨x, y', q1, q2, q3⟩ := hI.2.2 k hk
  rw [hy] at q2
  cases q2
  have := n_bdB hI.1 q1 hd
  exact ⟨x, q1, q3, this.1, this.2⟩
theorem n_c157B : n_pcB X a_m157 3 true n_s157B := by
  intro us h v C S K0 hl hb hI hc hm hk
  match us, hl with
  | [a, b, c], _ =>
    have ha := hb rfl a (by simp)
    have hb' := hb rfl b (by simp)
    have hc' := hb rfl c (by simp)
    have f0 := hc.1 17152 (by decide)
    have b0 := n_bdB (lo := 0) (hi := 30) hI.1 f0 rfl
    obtain ⟨x1, f1, p1, l1, u1⟩ := n_daysB hI f0 (k := 17153) (by decide) rfl
    obtain ⟨x2, f2, p2, l2, u2⟩ := n_daysB hI f0 (k := 17154) (by decide) rfl
    obtain ⟨x3, f3, p3, l3, u3⟩ := n_daysB hI f0 (k := 17155) (by decide) rfl
    obtain ⟨x4, f4, p4, l4, u4⟩ := n_daysB hI f0 (k := 17156) (by decide) rfl
    obtain ⟨x5, f5, p5, l5, u5⟩ := n_daysB hI f0 (k := 17157) (by decide) rfl
    by_cases q : n_dyB b c (v 17152)
    · rw [show n_s157B [a, b, c] v = (n_upB v 17152 (v 17152 + Int32.ofInt 1), v 17152 + Int32.ofInt 1) from if_pos q] at hk
      obtain ⟨q1, q2⟩ := q
      by_cases q3 : c.toInt = 0
      · refine n_ctx (us := [a, b, c]) (ws := [.int a, .int b, .int c, .int (v 17152), .int x1, .int x2, .int x3, .int x4, .int x5]) (m := 0) (z_da0_s (y_jx_l y_JA_x)) rfl rfl rfl hI rfl rfl (by decide +kernel) (by decide +kernel) rfl (n_Ra (by omega) (by omega) rfl (n_Ra (by omega) (by omega) rfl (n_Ra (by omega) (by omega) rfl (n_Rf rfl f0 (by omega) (by omega) (n_Rf rfl f1 (by omega) (by omega) (n_Rf rfl f2 (by omega) (by omega) (n_Rf rfl f3 (by omega) (by omega) (n_Rf rfl f4 (by omega) (by omega) (n_Rf rfl f5 (by omega) (by omega) (n_Rn)))))))))) (List.forall_mem_cons.mpr ⟨⟨x1, v 17152, rfl, rfl, by dsimp only; omega⟩, List.forall_mem_cons.mpr ⟨⟨x2, v 17152, rfl, rfl, by dsimp only; omega⟩, List.forall_mem_cons.mpr ⟨⟨x3, v 17152, rfl, rfl, by dsimp only; omega⟩, List.forall_mem_cons.mpr ⟨⟨x4, v 17152, rfl, rfl, by dsimp only; omega⟩, List.forall_mem_cons.mpr ⟨⟨x5, v 17152, rfl, rfl, by dsimp only; omega⟩, fun _ h => absurd h List.not_mem_nil⟩⟩⟩⟩⟩) (fun T hT ρX x H hI' htm hg => ?_)
        obtain rfl := List.mem_singleton.mp hT
        have r0 := n_v (j := 0) htm rfl rfl rfl
        obtain ⟨y, r1, g1, -, -⟩ := n_f (o := 134) (k := 0) (j := 1) htm rfl rfl (by decide) rfl rfl
        have r2 : ρX[7]? = some (.int (v 17152)) := hg 7 3 rfl
        have s1 := n_r (a := 0) (b := 7) (w := 1) htm rfl r0 r2
        have s2 := n_r (a := 7) (b := 0) (w := -1) htm rfl r2 r0
        have s3 := n_r (a := 0) (b := 1) (w := 0) htm rfl r0 r1
        have s4 := n_r (a := 1) (b := 0) (w := 0) htm rfl r1 r0
        have ei : (v 17152 + Int32.ofInt 1).toInt = (v 17152).toInt + 1 := y_inc (by omega)
        have ex : x = v 17152 + Int32.ofInt 1 := Int32.toInt_inj.mp (by omega)
        have ey : y = v 17152 + Int32.ofInt 1 := Int32.toInt_inj.mp (by omega)
        rw [ey] at g1
        rw [ex]
        have hf := htm.2.2.2.2.2.1
        exact hk H hI' (n_cV_upB (k0 := 17152) (n_mk_cB hI.1 hf (by decide +kernel)) (n_mk_aB hf (by decide +kernel)) hc g1 rfl rfl) (n_mS_VB (n_mk_mB (ex := [17152]) hI.1 hf (by decide +kernel)) hm)
      · have q4 : b.toInt ≠ 0 := q2.resolve_left q3
        refine n_ctx (us := [a, b, c]) (ws := [.int a, .int b, .int c, .int (v 17152), .int x1, .int x2, .int x3, .int x4, .int x5]) (m := 0) (z_da1_s (y_jx_l y_JA_x)) rfl rfl rfl hI rfl rfl (by decide +kernel) (by decide +kernel) rfl (n_Ra (by omega) (by omega) rfl (n_Ra (by omega) (by omega) rfl (n_Ra (by omega) (by omega) rfl (n_Rf rfl f0 (by omega) (by omega) (n_Rf rfl f1 (by omega) (by omega) (n_Rf rfl f2 (by omega) (by omega) (n_Rf rfl f3 (by omega) (by omega) (n_Rf rfl f4 (by omega) (by omega) (n_Rf rfl f5 (by omega) (by omega) (n_Rn)))))))))) (List.forall_mem_cons.mpr ⟨⟨x1, v 17152, rfl, rfl, by dsimp only; omega⟩, List.forall_mem_cons.mpr ⟨⟨x2, v 17152, rfl, rfl, by dsimp only; omega⟩, List.forall_mem_cons.mpr ⟨⟨x3, v 17152, rfl, rfl, by dsimp only; omega⟩, List.forall_mem_cons.mpr ⟨⟨x4, v 17152, rfl, rfl, by dsimp only; omega⟩, List.forall_mem_cons.mpr ⟨⟨x5, v 17152, rfl, rfl, by dsimp only; omega⟩, fun _ h => absurd h List.not_mem_nil⟩⟩⟩⟩⟩) (fun T hT ρX x H hI' htm hg => ?_)
        obtain rfl := List.mem_singleton.mp hT
        have r0 := n_v (j := 0) htm rfl rfl rfl
        obtain ⟨y, r1, g1, -, -⟩ := n_f (o := 134) (k := 0) (j := 1) htm rfl rfl (by decide) rfl rfl
        have r2 : ρX[7]? = some (.int (v 17152)) := hg 7 3 rfl
        have s1 := n_r (a := 0) (b := 7) (w := 1) htm rfl r0 r2
        have s2 := n_r (a := 7) (b := 0) (w := -1) htm rfl r2 r0
        have s3 := n_r (a := 0) (b := 1) (w := 0) htm rfl r0 r1
        have s4 := n_r (a := 1) (b := 0) (w := 0) htm rfl r1 r0
        have ei : (v 17152 + Int32.ofInt 1).toInt = (v 17152).toInt + 1 := y_inc (by omega)
        have ex : x = v 17152 + Int32.ofInt 1 := Int32.toInt_inj.mp (by omega)
        have ey : y = v 17152 + Int32.ofInt 1 := Int32.toInt_inj.mp (by omega)
        rw [ey] at g1
        rw [ex]
        have hf := htm.2.2.2.2.2.1
        exact hk H hI' (n_cV_upB (k0 := 17152) (n_mk_cB hI.1 hf (by decide +kernel)) (n_mk_aB hf (by decide +kernel)) hc g1 rfl rfl) (n_mS_VB (n_mk_mB (ex := [17152]) hI.1 hf (by decide +kernel)) hm)
    · rw [show n_s157B [a, b, c] v = (v, Int32.ofInt (-1)) from if_neg q] at hk
      by_cases q3 : (v 17152).toInt = 30
      · exact n_ctxc (us := [a, b, c]) (ws := [.int a, .int b, .int c, .int (v 17152), .int (x1), .int (x2), .int (x3), .int (x4), .int (x5)]) (m := 0) (Int32.ofInt (-1)) (z_da2_s (y_jx_l y_JA_x)) rfl rfl rfl hI rfl rfl (by decide +kernel) (by decide +kernel) rfl (by decide +kernel) (n_Ra (by omega) (by omega) rfl (n_Ra (by omega) (by omega) rfl (n_Ra (by omega) (by omega) rfl (n_Rf rfl f0 (by omega) (by omega) (n_Rf rfl f1 (by omega) (by omega) (n_Rf rfl f2 (by omega) (by omega) (n_Rf rfl f3 (by omega) (by omega) (n_Rf rfl f4 (by omega) (by omega) (n_Rf rfl f5 (by omega) (by omega) (n_Rn)))))))))) (List.forall_mem_cons.mpr ⟨⟨x1, v 17152, rfl, rfl, by dsimp only; omega⟩, List.forall_mem_cons.mpr ⟨⟨x2, v 17152, rfl, rfl, by dsimp only; omega⟩, List.forall_mem_cons.mpr ⟨⟨x3, v 17152, rfl, rfl, by dsimp only; omega⟩, List.forall_mem_cons.mpr ⟨⟨x4, v 17152, rfl, rfl, by dsimp only; omega⟩, List.forall_mem_cons.mpr ⟨⟨x5, v 17152, rfl, rfl, by dsimp only; omega⟩, fun _ h => absurd h List.not_mem_nil⟩⟩⟩⟩⟩) (fun H h1 hf => hk H h1 (n_cS_VB (n_sCB hI.1 hf (by decide +kernel)) hc) (n_mS_VB (n_mk_mB (ex := []) hI.1 hf (by decide +kernel)) hm))
      · have q4 : c.toInt = 1 ∧ b.toInt = 0 := by
          by_cases z1 : c.toInt = 0
          · exact absurd ⟨by omega, Or.inl z1⟩ q
          · by_cases z2 : b.toInt = 0
            · exact ⟨by omega, z2⟩
            · exact absurd ⟨by omega, Or.inr z2⟩ q
        exact n_ctxc (us := [a, b, c]) (ws := [.int a, .int b, .int c, .int (v 17152), .int (x1), .int (x2), .int (x3), .int (x4), .int (x5)]) (m := 0) (Int32.ofInt (-1)) (z_da3_s (y_jx_l y_JA_x)) rfl rfl rfl hI rfl rfl (by decide +kernel) (by decide +kernel) rfl (by decide +kernel) (n_Ra (by omega) (by omega) rfl (n_Ra (by omega) (by omega) rfl (n_Ra (by omega) (by omega) rfl (n_Rf rfl f0 (by omega) (by omega) (n_Rf rfl f1 (by omega) (by omega) (n_Rf rfl f2 (by omega) (by omega) (n_Rf rfl f3 (by omega) (by omega) (n_Rf rfl f4 (by omega) (by omega) (n_Rf rfl f5 (by omega) (by omega) (n_Rn)))))))))) (List.forall_mem_cons.mpr ⟨⟨x1, v 17152, rfl, rfl, by dsimp only; omega⟩, List.forall_mem_cons.mpr ⟨⟨x2, v 17152, rfl, rfl, by dsimp only; omega⟩, List.forall_mem_cons.mpr ⟨⟨x3, v 17152, rfl, rfl, by dsimp only; omega⟩, List.forall_mem_cons.mpr ⟨⟨x4, v 17152, rfl, rfl, by dsimp only; omega⟩, List.forall_mem_cons.mpr ⟨⟨x5, v 17152, rfl, rfl, by dsimp only; omega⟩, fun _ h => absurd h List.not_mem_nil⟩⟩⟩⟩⟩) (fun H h1 hf => hk H h1 (n_cS_VB (n_sCB hI.1 hf (by decide +kernel)) hc) (n_mS_VB (n_mk_mB (ex := []) hI.1 hf (by decide +kernel)) hm))
theorem n_a4B {x : Int32} (h : x.toInt ≤ 60) (h0 : 0 ≤ x.toInt) : (x + Int32.ofInt 4).toInt = x.toInt + 4 := by
  rw [Int32.toInt_add, show (Int32.ofInt 4).toInt = 4 by decide]
  exact Int.bmod_eq_of_le (by omega) (by omega)
theorem n_c74B : n_pcB X a_m74 1 false n_s74B := by
  intro us h v C S K0 hl _ hI hc hm hk
  match us, hl with
  | [a], _ =>
    have i1 := s_i32 a
    have f0 := hc.1 1537 (by decide)
    have b0 := n_bdB (lo := 0) (hi := 60) hI.1 f0 rfl
    by_cases q : (v 1537).toInt ≤ 56
    · rw [show n_s74B [a] v = (n_upB v 1537 (v 1537 + Int32.ofInt 4), v 1537 + Int32.ofInt 4) from if_pos q] at hk
      refine n_ctx (us := [a]) (ws := [.int a, .int (v 1537)]) (m := 0) (z_sg0_s (y_jx_l y_JA_x)) rfl rfl rfl hI rfl rfl (by decide +kernel) (by decide +kernel) rfl (n_Ra (by omega) (by omega) rfl (n_Rf rfl f0 (by omega) (by omega) n_Rn)) (fun _ h => absurd h List.not_mem_nil) (fun T hT ρX x H hI' htm hg => ?_)
      obtain rfl := List.mem_singleton.mp hT
      have r0 := n_v (j := 0) htm rfl rfl rfl
      obtain ⟨y, r1, g1, -, -⟩ := n_f (o := 12) (k := 1) (j := 1) htm rfl rfl (by decide) rfl rfl
      have r2 : ρX[2]? = some (.int (v 1537)) := hg 2 1 rfl
      have s1 := n_r (a := 0) (b := 2) (w := 4) htm rfl r0 r2
      have s2 := n_r (a := 2) (b := 0) (w := -4) htm rfl r2 r0
      have s3 := n_r (a := 1) (b := 2) (w := 4) htm rfl r1 r2
      have s4 := n_r (a := 2) (b := 1) (w := -4) htm rfl r2 r1
      have ei := n_a4B (x := v 1537) (by omega) (by omega)
      have ex : x = v 1537 + Int32.ofInt 4 := Int32.toInt_inj.mp (by omega)
      have ey : y = v 1537 + Int32.ofInt 4 := Int32.toInt_inj.mp (by omega)
      rw [ey] at g1
      rw [ex]
      have hf := htm.2.2.2.2.2.1
      exact hk H hI' (n_cV_upB (k0 := 1537) (n_mk_cB hI.1 hf (by decide +kernel)) (n_mk_aB hf (by decide +kernel)) hc g1 rfl rfl) (n_mS_VB (n_mk_mB (ex := [1537]) hI.1 hf (by decide +kernel)) hm)
    · rw [show n_s74B [a] v = (v, Int32.ofInt (-1)) from if_neg q] at hk
      exact n_ctxc (us := [a]) (ws := [.int a, .int (v 1537)]) (m := 0) (Int32.ofInt (-1)) (z_sg1_s (y_jx_l y_JA_x)) rfl rfl rfl hI rfl rfl (by decide +kernel) (by decide +kernel) rfl (by decide +kernel) (n_Ra (by omega) (by omega) rfl (n_Rf rfl f0 (by omega) (by omega) (n_Rn))) (fun _ h => absurd h List.not_mem_nil) (fun H h1 hf => hk H h1 (n_cS_VB (n_sCB hI.1 hf (by decide +kernel)) hc) (n_mS_VB (n_mk_mB (ex := []) hI.1 hf (by decide +kernel)) hm))
theorem n_c76B : n_pcB X a_m76 1 false n_s76B := by
  intro us h v C S K0 hl _ hI hc hm hk
  match us, hl with
  | [a], _ =>
    have i1 := s_i32 a
    have f0 := hc.1 1537 (by decide)
    have b0 := n_bdB (lo := 0) (hi := 60) hI.1 f0 rfl
    by_cases q : 0 ≤ a.toInt ∧ a.toInt ≤ (v 1537).toInt
    · rw [show n_s76B [a] v = (n_upB v 1537 a, Int32.ofInt 1) from if_pos q] at hk
      obtain ⟨q1, q2⟩ := q
      refine n_ctx (us := [a]) (ws := [.int a, .int (v 1537)]) (m := 0) (z_en0_s (y_jx_l y_JA_x)) rfl rfl rfl hI rfl rfl (by decide +kernel) (by decide +kernel) rfl (n_Ra (by omega) (by omega) rfl (n_Rf rfl f0 (by omega) (by omega) n_Rn)) (List.forall_mem_cons.mpr ⟨⟨a, v 1537, rfl, rfl, by dsimp only; omega⟩, fun _ h => absurd h List.not_mem_nil⟩) (fun T hT ρX x H hI' htm hg => ?_)
      obtain rfl := List.mem_singleton.mp hT
      have ex : x = Int32.ofInt 1 := (n_c (c := 1) htm rfl).trans (by decide)
      obtain ⟨y, r1, g1, -, -⟩ := n_f (o := 12) (k := 1) (j := 0) htm rfl rfl (by decide) rfl rfl
      have r2 : ρX[1]? = some (.int a) := hg 1 0 rfl
      have s3 := n_r (a := 0) (b := 1) (w := 0) htm rfl r1 r2
      have s4 := n_r (a := 1) (b := 0) (w := 0) htm rfl r2 r1
      have ey : y = a := Int32.toInt_inj.mp (by omega)
      rw [ey] at g1
      rw [ex]
      have hf := htm.2.2.2.2.2.1
      exact hk H hI' (n_cV_upB (k0 := 1537) (n_mk_cB hI.1 hf (by decide +kernel)) (n_mk_aB hf (by decide +kernel)) hc g1 rfl rfl) (n_mS_VB (n_mk_mB (ex := [1537]) hI.1 hf (by decide +kernel)) hm)
    · rw [show n_s76B [a] v = (v, Int32.ofInt 0) from if_neg q] at hk
      by_cases q1 : a.toInt ≤ -1
      · exact n_ctxc (us := [a]) (ws := [.int a]) (m := 0) (Int32.ofInt 0) (z_en1_s (y_jx_l y_JA_x)) rfl rfl rfl hI rfl rfl (by decide +kernel) (by decide +kernel) rfl (by decide +kernel) (n_Ra (by omega) (by omega) rfl (n_Rn)) (fun _ h => absurd h List.not_mem_nil) (fun H h1 hf => hk H h1 (n_cS_VB (n_sCB hI.1 hf (by decide +kernel)) hc) (n_mS_VB (n_mk_mB (ex := []) hI.1 hf (by decide +kernel)) hm))
      · have q2 : (v 1537).toInt + 1 ≤ a.toInt := by
          by_cases z : a.toInt ≤ (v 1537).toInt
          · exact absurd ⟨by omega, z⟩ q
          · omega
        exact n_ctxc (us := [a]) (ws := [.int a, .int (v 1537)]) (m := 0) (Int32.ofInt 0) (z_en2_s (y_jx_l y_JA_x)) rfl rfl rfl hI rfl rfl (by decide +kernel) (by decide +kernel) rfl (by decide +kernel) (n_Ra (by omega) (by omega) rfl (n_Rf rfl f0 (by omega) (by omega) (n_Rn))) (List.forall_mem_cons.mpr ⟨⟨v 1537, a, rfl, rfl, by dsimp only; omega⟩, fun _ h => absurd h List.not_mem_nil⟩) (fun H h1 hf => hk H h1 (n_cS_VB (n_sCB hI.1 hf (by decide +kernel)) hc) (n_mS_VB (n_mk_mB (ex := []) hI.1 hf (by decide +kernel)) hm))
def n_pcSB (X : aX) (M : aM) (n : Nat) (b : Bool) (st : List Int32 → (Nat → Int32) → (Nat → Int32) × Int32) : Prop := ∀ (us : List Int32) (h : aH) (v : Nat → Int32) (C S : Nat) (K0 : Option Value → aH → Nat → Nat → Prop), us.length = n → (b = true → ∀ u ∈ us, 0 ≤ u.toInt ∧ u.toInt ≤ 1) → t_I h → n_cVB h v → n_mVB h v → (∀ (x : Int32) (H : aH), t_I H → n_cVB H (st us v).1 → n_mVB H v → K0 (some (.int x)) H C S) → aOK s_P X 200 M 0 (a_ent (.ref 2 :: us.map .int) M.2.2.1) [] h C S K0
def n_prSB (X : aX) (M : aM) (n : Nat) (b : Bool) (st : List Int32 → (Nat → Int32) → (Nat → Int32) × Int32) : Prop := ∀ (us : List Int32) (h : aH) (w v : Nat → Int32) (C S : Nat) (K0 : Option Value → aH → Nat → Nat → Prop), us.length = n → (b = true → ∀ u ∈ us, 0 ≤ u.toInt ∧ u.toInt ≤ 1) → t_I h → n_cVB h w → n_mVB h v → (∀ (x : Int32) (H : aH), t_I H → n_cVB H w → n_mVB H (st us v).1 → K0 (some (.int x)) H C S) → aOK s_P X 200 M 0 (a_ent (.ref 155 :: us.map .int) M.2.2.1) [] h C S K0
theorem n_c77B : n_pcSB X a_m77 0 false n_s77B := by
  intro us h v C S K0 hl hb hI hc hm hk
  exact n_ctxzB (n := 0) (m := 2) (b := false) (z_x142_s (y_jx_l y_JA_x)) rfl rfl rfl (by decide +kernel) (by decide +kernel) rfl rfl (by decide +kernel) (by decide +kernel) (by decide +kernel) (by decide +kernel) us h C S K0 hl hb hI (fun x H i1 c1 a1 m1 g => hk x H i1 (n_cV_upB (k0 := 1537) c1 a1 hc g rfl rfl) (n_mS_VB m1 hm))
theorem n_c159B : n_pcB X a_m159 1 false n_s159B := by
  intro us h v C S K0 hl hb hI hc hm hk
  match us, hl with
  | [a], _ =>
    have i1 := s_i32 a
    have f0 := hc.1 17152 (by decide)
    have b0 := n_bdB (lo := 0) (hi := 30) hI.1 f0 rfl
    obtain ⟨x1, f1, p1, l1, u1⟩ := n_daysB hI f0 (k := 17153) (by decide) rfl
    obtain ⟨x2, f2, p2, l2, u2⟩ := n_daysB hI f0 (k := 17154) (by decide) rfl
    obtain ⟨x3, f3, p3, l3, u3⟩ := n_daysB hI f0 (k := 17155) (by decide) rfl
    obtain ⟨x4, f4, p4, l4, u4⟩ := n_daysB hI f0 (k := 17156) (by decide) rfl
    obtain ⟨x5, f5, p5, l5, u5⟩ := n_daysB hI f0 (k := 17157) (by decide) rfl
    by_cases q : n_shVB a (v 17152)
    · rw [show n_s159B [a] v = (v, Int32.ofInt 0) from if_pos q] at hk
      obtain ⟨q1, q2, q3⟩ := q
      exact n_ctxc (us := [a]) (ws := [.int a, .int (v 17152), .int (x1), .int (x2), .int (x3), .int (x4), .int (x5)]) (m := 2) (Int32.ofInt 0) (z_sh0_s (y_jx_l y_JA_x)) rfl rfl rfl hI rfl rfl (by decide +kernel) (by decide +kernel) rfl (by decide +kernel) (n_Ra (by omega) (by omega) rfl (n_Rf rfl f0 (by omega) (by omega) (n_Rf rfl f1 (by omega) (by omega) (n_Rf rfl f2 (by omega) (by omega) (n_Rf rfl f3 (by omega) (by omega) (n_Rf rfl f4 (by omega) (by omega) (n_Rf rfl f5 (by omega) (by omega) (n_Rn)))))))) (List.forall_mem_cons.mpr ⟨⟨x1, v 17152, rfl, rfl, by dsimp only; omega⟩, List.forall_mem_cons.mpr ⟨⟨x2, v 17152, rfl, rfl, by dsimp only; omega⟩, List.forall_mem_cons.mpr ⟨⟨x3, v 17152, rfl, rfl, by dsimp only; omega⟩, List.forall_mem_cons.mpr ⟨⟨x4, v 17152, rfl, rfl, by dsimp only; omega⟩, List.forall_mem_cons.mpr ⟨⟨x5, v 17152, rfl, rfl, by dsimp only; omega⟩, fun _ h => absurd h List.not_mem_nil⟩⟩⟩⟩⟩) (fun H h1 hf => hk H h1 (n_cS_VB (n_sCB hI.1 hf (by decide +kernel)) hc) (n_mS_VB (n_mk_mB (ex := []) hI.1 hf (by decide +kernel)) hm))
    · rw [show n_s159B [a] v = (v, Int32.ofInt (-1)) from if_neg q] at hk
      by_cases q1 : a.toInt ≤ -1
      · exact n_ctxc (us := [a]) (ws := [.int a, .int (v 17152), .int (x1), .int (x2), .int (x3), .int (x4), .int (x5)]) (m := 2) (Int32.ofInt (-1)) (z_sh1_s (y_jx_l y_JA_x)) rfl rfl rfl hI rfl rfl (by decide +kernel) (by decide +kernel) rfl (by decide +kernel) (n_Ra (by omega) (by omega) rfl (n_Rf rfl f0 (by omega) (by omega) (n_Rf rfl f1 (by omega) (by omega) (n_Rf rfl f2 (by omega) (by omega) (n_Rf rfl f3 (by omega) (by omega) (n_Rf rfl f4 (by omega) (by omega) (n_Rf rfl f5 (by omega) (by omega) (n_Rn)))))))) (List.forall_mem_cons.mpr ⟨⟨x1, v 17152, rfl, rfl, by dsimp only; omega⟩, List.forall_mem_cons.mpr ⟨⟨x2, v 17152, rfl, rfl, by dsimp only; omega⟩, List.forall_mem_cons.mpr ⟨⟨x3, v 17152, rfl, rfl, by dsimp only; omega⟩, List.forall_mem_cons.mpr ⟨⟨x4, v 17152, rfl, rfl, by dsimp only; omega⟩, List.forall_mem_cons.mpr ⟨⟨x5, v 17152, rfl, rfl, by dsimp only; omega⟩, fun _ h => absurd h List.not_mem_nil⟩⟩⟩⟩⟩) (fun H h1 hf => hk H h1 (n_cS_VB (n_sCB hI.1 hf (by decide +kernel)) hc) (n_mS_VB (n_mk_mB (ex := []) hI.1 hf (by decide +kernel)) hm))
      · by_cases q2 : 2 ≤ a.toInt
        · exact n_ctxc (us := [a]) (ws := [.int a, .int (v 17152), .int (x1), .int (x2), .int (x3), .int (x4), .int (x5)]) (m := 2) (Int32.ofInt (-1)) (z_sh2_s (y_jx_l y_JA_x)) rfl rfl rfl hI rfl rfl (by decide +kernel) (by decide +kernel) rfl (by decide +kernel) (n_Ra (by omega) (by omega) rfl (n_Rf rfl f0 (by omega) (by omega) (n_Rf rfl f1 (by omega) (by omega) (n_Rf rfl f2 (by omega) (by omega) (n_Rf rfl f3 (by omega) (by omega) (n_Rf rfl f4 (by omega) (by omega) (n_Rf rfl f5 (by omega) (by omega) (n_Rn)))))))) (List.forall_mem_cons.mpr ⟨⟨x1, v 17152, rfl, rfl, by dsimp only; omega⟩, List.forall_mem_cons.mpr ⟨⟨x2, v 17152, rfl, rfl, by dsimp only; omega⟩, List.forall_mem_cons.mpr ⟨⟨x3, v 17152, rfl, rfl, by dsimp only; omega⟩, List.forall_mem_cons.mpr ⟨⟨x4, v 17152, rfl, rfl, by dsimp only; omega⟩, List.forall_mem_cons.mpr ⟨⟨x5, v 17152, rfl, rfl, by dsimp only; omega⟩, fun _ h => absurd h List.not_mem_nil⟩⟩⟩⟩⟩) (fun H h1 hf => hk H h1 (n_cS_VB (n_sCB hI.1 hf (by decide +kernel)) hc) (n_mS_VB (n_mk_mB (ex := []) hI.1 hf (by decide +kernel)) hm))
        · have q3 : (v 17152).toInt = 0 := by
            by_cases z : (v 17152).toInt = 0
            · exact z
            · exact absurd ⟨z, by omega, by omega⟩ q
          exact n_ctxc (us := [a]) (ws := [.int a, .int (v 17152), .int (x1), .int (x2), .int (x3), .int (x4), .int (x5)]) (m := 2) (Int32.ofInt (-1)) (z_sh3_s (y_jx_l y_JA_x)) rfl rfl rfl hI rfl rfl (by decide +kernel) (by decide +kernel) rfl (by decide +kernel) (n_Ra (by omega) (by omega) rfl (n_Rf rfl f0 (by omega) (by omega) (n_Rf rfl f1 (by omega) (by omega) (n_Rf rfl f2 (by omega) (by omega) (n_Rf rfl f3 (by omega) (by omega) (n_Rf rfl f4 (by omega) (by omega) (n_Rf rfl f5 (by omega) (by omega) (n_Rn)))))))) (List.forall_mem_cons.mpr ⟨⟨x1, v 17152, rfl, rfl, by dsimp only; omega⟩, List.forall_mem_cons.mpr ⟨⟨x2, v 17152, rfl, rfl, by dsimp only; omega⟩, List.forall_mem_cons.mpr ⟨⟨x3, v 17152, rfl, rfl, by dsimp only; omega⟩, List.forall_mem_cons.mpr ⟨⟨x4, v 17152, rfl, rfl, by dsimp only; omega⟩, List.forall_mem_cons.mpr ⟨⟨x5, v 17152, rfl, rfl, by dsimp only; omega⟩, fun _ h => absurd h List.not_mem_nil⟩⟩⟩⟩⟩) (fun H h1 hf => hk H h1 (n_cS_VB (n_sCB hI.1 hf (by decide +kernel)) hc) (n_mS_VB (n_mk_mB (ex := []) hI.1 hf (by decide +kernel)) hm))
theorem n_mV_fB {h H : aH} {v : Nat → Int32} {fs as : List Nat} {k k' : Nat} {x : Int32} (e : y_fr h H fs as) (g : w_f H k' = some (.int x)) (hx : n_fkB fs as [k'] = true) (h1 : nMB.all (fun p => decide (p.1 = k ↔ p.2 = k')) = true) (h2 : (n_fr0B k && decide (k ≠ 129) && decide (k' ≠ 19600) && nMAB.all (fun o => decide (o ≠ k'))) = true) (q : n_mVB h v) : n_mVB H (n_upB v k x) := by
  simp only [Bool.and_eq_true, decide_eq_true_eq] at h2
  obtain ⟨⟨⟨h3, h4⟩, h5⟩, h6⟩ := h2
  unfold n_fkB at hx
  rw [Bool.and_eq_true] at hx
  have hx := hx.2
  rw [Bool.and_eq_true, Bool.and_eq_true] at hx
  refine ⟨fun p hp => ?_, n_mA_SB (fun o ho => ?_) (n_mA_upB h3 q.2.1), ?_⟩
  · have z := of_decide_eq_true (List.all_eq_true.mp h1 p hp)
    unfold n_upB
    by_cases e1 : p.1 = k
    · rw [if_pos e1, z.mp e1]
      exact g
    · rw [if_neg e1]
      have := List.all_eq_true.mp hx.1 p hp
      rw [Bool.or_eq_true] at this
      rcases this with w | w
      · exact absurd (z.mpr (List.mem_singleton.mp (List.elem_iff.mp w))) e1
      · rw [Bool.not_eq_true'] at w
        exact (e.2.1 _ (n_nelB w)).trans (q.1 p hp)
  · have := List.all_eq_true.mp hx.2.1 o ho
    rw [Bool.or_eq_true] at this
    rcases this with w | w
    · exact absurd (List.mem_singleton.mp (List.elem_iff.mp w)) (of_decide_eq_true (List.all_eq_true.mp h6 o ho))
    · rw [Bool.not_eq_true'] at w
      exact e.2.2 _ (n_nelB w)
  · have := hx.2.2
    unfold n_upB
    rw [if_neg (Ne.symm h4)]
    rw [Bool.or_eq_true] at this
    rcases this with w | w
    · exact absurd (List.mem_singleton.mp (List.elem_iff.mp w)).symm h5
    · rw [Bool.not_eq_true'] at w
      exact (e.2.1 _ (n_nelB w)).trans q.2.2
theorem n_r255B : n_prB X a_m255 2 false n_s127B := by
  intro us h w v C S K0 hl _ hI hc hm hk
  match us, hl with
  | [a, b], _ =>
    refine f_headB (d := 199) (X0 := v 16) hI.1 (hm.1 (16, 19625) (by decide)) (fun q H e g => ?_) (fun q H e => ?_)
    · rw [show n_s127B [a, b] v = (n_upB v 16 (v 16 + Int32.ofInt 1), v 16) from if_pos q] at hk
      rw [Int32.add_sub_cancel]
      exact hk H ⟨e.1, y_jfr y_JA_x e rfl rfl hI.2.1, t_day_fr e rfl hI.2.2⟩ (n_cS_VB (n_fk_cB (ex := [19625]) e rfl) hc) (n_mV_fB e g rfl rfl rfl hm)
    · rw [show n_s127B [a, b] v = (v, Int32.ofInt (-1)) from if_neg q] at hk
      exact hk H ⟨e.1, y_jfr y_JA_x e rfl rfl hI.2.1, t_day_fr e rfl hI.2.2⟩ (n_cS_VB (n_fk_cB (ex := []) e rfl) hc) (n_mS_VB (n_fk_mB e rfl) hm)
theorem n_r273B : n_prB X a_m273 3 true n_s157B := by
  intro us h w v C S K0 hl hb hI hc hm hk
  match us, hl with
  | [a, b, c], _ =>
    refine f_dayB hI.1 (hb rfl a (by simp)).1 (hb rfl a (by simp)).2 (hb rfl b (by simp)).1 (hb rfl b (by simp)).2 (hb rfl c (by simp)).1 (hb rfl c (by simp)).2 (hm.1 (17152, 19643) (by decide)) (fun q H e g => ?_) (fun q H e => ?_)
    · rw [show n_s157B [a, b, c] v = (n_upB v 17152 (v 17152 + Int32.ofInt 1), v 17152 + Int32.ofInt 1) from if_pos q] at hk
      exact hk H ⟨e.1, y_jfr y_JA_x e rfl rfl hI.2.1, t_day_fr e rfl hI.2.2⟩ (n_cS_VB (n_fk_cB (ex := [19643]) e rfl) hc) (n_mV_fB e g rfl rfl rfl hm)
    · rw [show n_s157B [a, b, c] v = (v, Int32.ofInt (-1)) from if_neg q] at hk
      exact hk H ⟨e.1, y_jfr y_JA_x e rfl rfl hI.2.1, t_day_fr e rfl hI.2.2⟩ (n_cS_VB (n_fk_cB (ex := []) e rfl) hc) (n_mS_VB (n_fk_mB e rfl) hm)
theorem n_r219B : n_prB X a_m219 1 false n_s74B := by
  intro us h w v C S K0 hl _ hI hc hm hk
  match us, hl with
  | [a], _ =>
    refine f_signB (X0 := v 1537) hI.1 (hm.1 (1537, 19612) (by decide)) (fun q H e g => ?_) (fun q H e => ?_)
    · rw [show n_s74B [a] v = (n_upB v 1537 (v 1537 + Int32.ofInt 4), v 1537 + Int32.ofInt 4) from if_pos q] at hk
      exact hk H ⟨e.1, y_jfr y_JA_x e rfl rfl hI.2.1, t_day_fr e rfl hI.2.2⟩ (n_cS_VB (n_fk_cB (ex := [19612]) e rfl) hc) (n_mV_fB e g rfl rfl rfl hm)
    · rw [show n_s74B [a] v = (v, Int32.ofInt (-1)) from if_neg q] at hk
      exact hk H ⟨e.1, y_jfr y_JA_x e rfl rfl hI.2.1, t_day_fr e rfl hI.2.2⟩ (n_cS_VB (n_fk_cB (ex := []) e rfl) hc) (n_mS_VB (n_fk_mB e rfl) hm)
theorem n_r220B : n_prB X a_m220 1 false n_s76B := by
  intro us h w v C S K0 hl _ hI hc hm hk
  match us, hl with
  | [a], _ =>
    refine f_endB (d := 199) (X0 := v 1537) hI.1 (hm.1 (1537, 19612) (by decide)) (fun q H e g => ?_) (fun q H e => ?_)
    · rw [show n_s76B [a] v = (n_upB v 1537 a, Int32.ofInt 1) from if_pos q] at hk
      exact hk H ⟨e.1, y_jfr y_JA_x e rfl rfl hI.2.1, t_day_fr e rfl hI.2.2⟩ (n_cS_VB (n_fk_cB (ex := [19612]) e rfl) hc) (n_mV_fB e g rfl rfl rfl hm)
    · rw [show n_s76B [a] v = (v, Int32.ofInt 0) from if_neg q] at hk
      exact hk H ⟨e.1, y_jfr y_JA_x e rfl rfl hI.2.1, t_day_fr e rfl hI.2.2⟩ (n_cS_VB (n_fk_cB (ex := []) e rfl) hc) (n_mS_VB (n_fk_mB e rfl) hm)
theorem n_r221B : n_prSB X a_m221 0 false n_s77B := by
  intro us h w v C S K0 hl _ hI hc hm hk
  match us, hl with
  | [], _ =>
    refine f_sayB (d := 31) hI.1 hI.2.1.1 hI.2.1.2.1 (fun r H e qJ qS g => ?_)
    exact hk r H ⟨e.1, ⟨qJ, qS, j_cost_e e rfl rfl hI.2.1.2.2⟩, t_day_fr e rfl hI.2.2⟩ (n_cS_VB (n_fk_cB (ex := [19612]) e rfl) hc) (n_mV_fB e g rfl rfl rfl hm)
theorem n_r274B : n_prB X a_m274 1 false n_s159B := by
  intro us h w v C S K0 hl hb hI hc hm hk
  match us, hl with
  | [a], _ =>
    refine f_shiftsB (d := 197) hI.1 (hm.1 (17152, 19643) (by decide)) (fun q H e => ?_) (fun q H e => ?_)
    · rw [show n_s159B [a] v = (v, Int32.ofInt 0) from if_pos q] at hk
      exact hk H ⟨e.1, y_jfr y_JA_x e rfl rfl hI.2.1, t_day_fr e rfl hI.2.2⟩ (n_cS_VB (n_fk_cB (ex := []) e rfl) hc) (n_mS_VB (n_fk_mB e rfl) hm)
    · rw [show n_s159B [a] v = (v, Int32.ofInt (-1)) from if_neg q] at hk
      exact hk H ⟨e.1, y_jfr y_JA_x e rfl rfl hI.2.1, t_day_fr e rfl hI.2.2⟩ (n_cS_VB (n_fk_cB (ex := []) e rfl) hc) (n_mS_VB (n_fk_mB e rfl) hm)
theorem n_bdLB {h : aH} {key : Nat} {lo hi : Int} {x : Int64} (hr : w_hr z_D h) (hf : w_f h key = some (.long x)) (hd : t_dk key = some (2, lo, hi)) : lo ≤ x.toInt ∧ x.toInt ≤ hi := by
  obtain ⟨w, w1, w2⟩ := t_dk_ok hd hr
  rw [hf] at w1
  cases w1
  rcases w2 with ⟨q, -⟩ | ⟨-, y, e, q1, q2⟩
  · exact absurd (show (2 : Nat) = 1 from q) (by decide)
  · cases e
    exact ⟨q1, q2⟩
theorem n_dpsB {h : aH} {v : Nat → Int32} (hr : w_hr z_D h) (hm : n_mVB h v) : 1 ≤ (v 129).toInt ∧ (v 129).toInt ≤ 100000000 := by
  have := n_bdLB (lo := 1) (hi := 100000000) hr hm.2.2 rfl
  rw [y_i2l] at this
  exact this
theorem t_day_frcB {h H : aH} {fs as : List Nat} (e : y_fr h H fs as) (h1 : fs.all (fun k => !decide (k / 128 = 134)) = true) (q : t_day h) : t_day H := by
  have hk : ∀ k, k / 128 = 134 → w_f H k = w_f h k := fun k hk => e.2.1 k (fun hq => by
    have := List.all_eq_true.mp h1 k hq
    rw [decide_eq_true hk] at this
    cases this)
  intro k hkm
  obtain ⟨x, y, q1, q2, q3⟩ := q k hkm
  have hlt : k / 128 = 134 := by
    simp only [t_K, List.mem_cons, List.not_mem_nil, or_false] at hkm
    omega
  exact ⟨x, y, (hk k hlt).trans q1, (hk 17152 (by decide)).trans q2, q3⟩
def n_fmB (fs as : List Nat) : Bool := nMB.all (fun p => !fs.elem p.2) && (nMAB.all (fun o => !as.elem o) && !fs.elem 19600)
theorem n_fm_okB {h H : aH} {fs as : List Nat} (e : y_fr h H fs as) (hm : n_fmB fs as = true) : n_mSB h H := by
  unfold n_fmB at hm
  rw [Bool.and_eq_true, Bool.and_eq_true] at hm
  refine ⟨fun p hp => e.2.1 _ (n_nelB ?_), fun o ho => e.2.2 _ (n_nelB ?_), e.2.1 _ (n_nelB ?_)⟩
  · have := List.all_eq_true.mp hm.1 p hp
    rw [Bool.not_eq_true'] at this
    exact this
  · have := List.all_eq_true.mp hm.2.1 o ho
    rw [Bool.not_eq_true'] at this
    exact this
  · have := hm.2.2
    rw [Bool.not_eq_true'] at this
    exact this
theorem n_fk_m0B {h H : aH} {fs as ex : List Nat} (e : y_fr h H fs as) (hm : n_fkB fs as ex = true) : (∀ o ∈ nMAB, o ∉ ex → w_a H o = w_a h o) ∧ True := by
  unfold n_fkB at hm
  rw [Bool.and_eq_true] at hm
  have hm := hm.2
  rw [Bool.and_eq_true, Bool.and_eq_true] at hm
  refine ⟨fun o ho hx => ?_, trivial⟩
  have := List.all_eq_true.mp hm.2.1 o ho
  rw [Bool.or_eq_true] at this
  rcases this with q | q
  · exact absurd (List.elem_iff.mp q) hx
  · rw [Bool.not_eq_true'] at q
    exact e.2.2 _ (n_nelB q)
theorem n_c21B : n_pcB X a_m21 2 false n_s21B := by
  intro us h v C S K0 hl _ hI hc hm hk
  match us, hl with
  | [a, b], _ =>
    have i1 := s_i32 a
    have i2 := s_i32 b
    have f0 := hc.1 128 (by decide)
    have b0 := n_bdB (lo := 0) (hi := 10) hI.1 f0 rfl
    by_cases q : n_fsV a b (v 128)
    · rw [show n_s21B [a, b] v = (v, Int32.ofInt 1) from if_pos q] at hk
      obtain ⟨q1, q2, q3, q4⟩ := q
      exact n_ctxc (us := [a, b]) (ws := [.int a, .int b, .int (v 128)]) (m := 0) (Int32.ofInt 1) (z_fo0_s (y_jx_l y_JA_x)) rfl rfl rfl hI rfl rfl (by decide +kernel) (by decide +kernel) rfl (by decide +kernel) (n_Ra (by omega) (by omega) rfl (n_Ra (by omega) (by omega) rfl (n_Rf rfl f0 (by omega) (by omega) (n_Rn)))) (List.forall_mem_cons.mpr ⟨⟨a, v 128, rfl, rfl, by dsimp only; omega⟩, fun _ h => absurd h List.not_mem_nil⟩) (fun H h1 hf => hk H h1 (n_cS_VB (n_sCB hI.1 hf (by decide +kernel)) hc) (n_mS_VB (n_mk_mB (ex := []) hI.1 hf (by decide +kernel)) hm))
    · rw [show n_s21B [a, b] v = (v, Int32.ofInt 0) from if_neg q] at hk
      by_cases q1 : a.toInt ≤ -1
      · exact n_ctxc (us := [a, b]) (ws := [.int a, .int b, .int (v 128)]) (m := 0) (Int32.ofInt 0) (z_fo1_s (y_jx_l y_JA_x)) rfl rfl rfl hI rfl rfl (by decide +kernel) (by decide +kernel) rfl (by decide +kernel) (n_Ra (by omega) (by omega) rfl (n_Ra (by omega) (by omega) rfl (n_Rf rfl f0 (by omega) (by omega) (n_Rn)))) (fun _ h => absurd h List.not_mem_nil) (fun H h1 hf => hk H h1 (n_cS_VB (n_sCB hI.1 hf (by decide +kernel)) hc) (n_mS_VB (n_mk_mB (ex := []) hI.1 hf (by decide +kernel)) hm))
      · by_cases q2 : (v 128).toInt ≤ a.toInt
        · exact n_ctxc (us := [a, b]) (ws := [.int a, .int b, .int (v 128)]) (m := 0) (Int32.ofInt 0) (z_fo2_s (y_jx_l y_JA_x)) rfl rfl rfl hI rfl rfl (by decide +kernel) (by decide +kernel) rfl (by decide +kernel) (n_Ra (by omega) (by omega) rfl (n_Ra (by omega) (by omega) rfl (n_Rf rfl f0 (by omega) (by omega) (n_Rn)))) (List.forall_mem_cons.mpr ⟨⟨v 128, a, rfl, rfl, by dsimp only; omega⟩, fun _ h => absurd h List.not_mem_nil⟩) (fun H h1 hf => hk H h1 (n_cS_VB (n_sCB hI.1 hf (by decide +kernel)) hc) (n_mS_VB (n_mk_mB (ex := []) hI.1 hf (by decide +kernel)) hm))
        · by_cases q3 : b.toInt ≤ -2
          · exact n_ctxc (us := [a, b]) (ws := [.int a, .int b, .int (v 128)]) (m := 0) (Int32.ofInt 0) (z_fo3_s (y_jx_l y_JA_x)) rfl rfl rfl hI rfl rfl (by decide +kernel) (by decide +kernel) rfl (by decide +kernel) (n_Ra (by omega) (by omega) rfl (n_Ra (by omega) (by omega) rfl (n_Rf rfl f0 (by omega) (by omega) (n_Rn)))) (fun _ h => absurd h List.not_mem_nil) (fun H h1 hf => hk H h1 (n_cS_VB (n_sCB hI.1 hf (by decide +kernel)) hc) (n_mS_VB (n_mk_mB (ex := []) hI.1 hf (by decide +kernel)) hm))
          · by_cases q4 : 2 ≤ b.toInt
            · exact n_ctxc (us := [a, b]) (ws := [.int a, .int b, .int (v 128)]) (m := 0) (Int32.ofInt 0) (z_fo4_s (y_jx_l y_JA_x)) rfl rfl rfl hI rfl rfl (by decide +kernel) (by decide +kernel) rfl (by decide +kernel) (n_Ra (by omega) (by omega) rfl (n_Ra (by omega) (by omega) rfl (n_Rf rfl f0 (by omega) (by omega) (n_Rn)))) (fun _ h => absurd h List.not_mem_nil) (fun H h1 hf => hk H h1 (n_cS_VB (n_sCB hI.1 hf (by decide +kernel)) hc) (n_mS_VB (n_mk_mB (ex := []) hI.1 hf (by decide +kernel)) hm))
            · exact absurd ⟨by omega, by omega, by omega, by omega⟩ q
theorem n_c24B : n_pcB X a_m24 2 false n_s21B := by
  intro us h v C S K0 hl _ hI hc hm hk
  match us, hl with
  | [a, b], _ =>
    have i1 := s_i32 a
    have i2 := s_i32 b
    have f0 := hc.1 128 (by decide)
    have b0 := n_bdB (lo := 0) (hi := 10) hI.1 f0 rfl
    by_cases q : n_fsV a b (v 128)
    · rw [show n_s21B [a, b] v = (v, Int32.ofInt 1) from if_pos q] at hk
      obtain ⟨q1, q2, q3, q4⟩ := q
      exact n_ctxc (us := [a, b]) (ws := [.int a, .int b, .int (v 128)]) (m := 0) (Int32.ofInt 1) (z_se0_s (y_jx_l y_JA_x)) rfl rfl rfl hI rfl rfl (by decide +kernel) (by decide +kernel) rfl (by decide +kernel) (n_Ra (by omega) (by omega) rfl (n_Ra (by omega) (by omega) rfl (n_Rf rfl f0 (by omega) (by omega) (n_Rn)))) (List.forall_mem_cons.mpr ⟨⟨a, v 128, rfl, rfl, by dsimp only; omega⟩, fun _ h => absurd h List.not_mem_nil⟩) (fun H h1 hf => hk H h1 (n_cS_VB (n_sCB hI.1 hf (by decide +kernel)) hc) (n_mS_VB (n_mk_mB (ex := []) hI.1 hf (by decide +kernel)) hm))
    · rw [show n_s21B [a, b] v = (v, Int32.ofInt 0) from if_neg q] at hk
      by_cases q1 : a.toInt ≤ -1
      · exact n_ctxc (us := [a, b]) (ws := [.int a, .int b, .int (v 128)]) (m := 0) (Int32.ofInt 0) (z_se1_s (y_jx_l y_JA_x)) rfl rfl rfl hI rfl rfl (by decide +kernel) (by decide +kernel) rfl (by decide +kernel) (n_Ra (by omega) (by omega) rfl (n_Ra (by omega) (by omega) rfl (n_Rf rfl f0 (by omega) (by omega) (n_Rn)))) (fun _ h => absurd h List.not_mem_nil) (fun H h1 hf => hk H h1 (n_cS_VB (n_sCB hI.1 hf (by decide +kernel)) hc) (n_mS_VB (n_mk_mB (ex := []) hI.1 hf (by decide +kernel)) hm))
      · by_cases q2 : (v 128).toInt ≤ a.toInt
        · exact n_ctxc (us := [a, b]) (ws := [.int a, .int b, .int (v 128)]) (m := 0) (Int32.ofInt 0) (z_se2_s (y_jx_l y_JA_x)) rfl rfl rfl hI rfl rfl (by decide +kernel) (by decide +kernel) rfl (by decide +kernel) (n_Ra (by omega) (by omega) rfl (n_Ra (by omega) (by omega) rfl (n_Rf rfl f0 (by omega) (by omega) (n_Rn)))) (List.forall_mem_cons.mpr ⟨⟨v 128, a, rfl, rfl, by dsimp only; omega⟩, fun _ h => absurd h List.not_mem_nil⟩) (fun H h1 hf => hk H h1 (n_cS_VB (n_sCB hI.1 hf (by decide +kernel)) hc) (n_mS_VB (n_mk_mB (ex := []) hI.1 hf (by decide +kernel)) hm))
        · by_cases q3 : b.toInt ≤ -2
          · exact n_ctxc (us := [a, b]) (ws := [.int a, .int b, .int (v 128)]) (m := 0) (Int32.ofInt 0) (z_se3_s (y_jx_l y_JA_x)) rfl rfl rfl hI rfl rfl (by decide +kernel) (by decide +kernel) rfl (by decide +kernel) (n_Ra (by omega) (by omega) rfl (n_Ra (by omega) (by omega) rfl (n_Rf rfl f0 (by omega) (by omega) (n_Rn)))) (fun _ h => absurd h List.not_mem_nil) (fun H h1 hf => hk H h1 (n_cS_VB (n_sCB hI.1 hf (by decide +kernel)) hc) (n_mS_VB (n_mk_mB (ex := []) hI.1 hf (by decide +kernel)) hm))
          · by_cases q4 : 2 ≤ b.toInt
            · exact n_ctxc (us := [a, b]) (ws := [.int a, .int b, .int (v 128)]) (m := 0) (Int32.ofInt 0) (z_se4_s (y_jx_l y_JA_x)) rfl rfl rfl hI rfl rfl (by decide +kernel) (by decide +kernel) rfl (by decide +kernel) (n_Ra (by omega) (by omega) rfl (n_Ra (by omega) (by omega) rfl (n_Rf rfl f0 (by omega) (by omega) (n_Rn)))) (fun _ h => absurd h List.not_mem_nil) (fun H h1 hf => hk H h1 (n_cS_VB (n_sCB hI.1 hf (by decide +kernel)) hc) (n_mS_VB (n_mk_mB (ex := []) hI.1 hf (by decide +kernel)) hm))
            · exact absurd ⟨by omega, by omega, by omega, by omega⟩ q
theorem n_r180B : n_prB X a_m180 2 false n_s21B := by
  intro us h w v C S K0 hl _ hI hc hm hk
  match us, hl with
  | [a, b], _ =>
    refine f_force (d := 198) hI.1 hI.2.1.1 (hm.1 (128, 19591) (by decide)) (fun q H e => ?_) (fun q H e => ?_)
    · rw [show n_s21B [a, b] v = (v, Int32.ofInt 1) from if_pos q] at hk
      exact hk H ⟨e.1, ⟨y_J_fr e rfl rfl hI.2.1.1, j_say_e e rfl rfl hI.2.1.2.1, j_cost_e e rfl rfl hI.2.1.2.2⟩, t_day_fr e rfl hI.2.2⟩ (n_cS_VB (n_fk_cB (ex := []) e rfl) hc) (n_mS_VB (n_fk_mB e rfl) hm)
    · rw [show n_s21B [a, b] v = (v, Int32.ofInt 0) from if_neg q] at hk
      exact hk H ⟨e.1, ⟨y_J_fr e rfl rfl hI.2.1.1, j_say_e e rfl rfl hI.2.1.2.1, j_cost_e e rfl rfl hI.2.1.2.2⟩, t_day_fr e rfl hI.2.2⟩ (n_cS_VB (n_fk_cB (ex := []) e rfl) hc) (n_mS_VB (n_fk_mB e rfl) hm)
theorem n_r181B : n_prB X a_m181 2 false n_s21B := by
  intro us h w v C S K0 hl _ hI hc hm hk
  match us, hl with
  | [a, b], _ =>
    refine f_see (d := 198) hI.1 hI.2.1.1 (hm.1 (128, 19591) (by decide)) (fun r H e qJ q1 => ?_)
    have tI : t_I H := ⟨e.1, ⟨qJ, j_say_e e rfl rfl hI.2.1.2.1, j_cost_e e rfl rfl hI.2.1.2.2⟩, t_day_fr e rfl hI.2.2⟩
    rw [q1]
    unfold n_fs
    by_cases q : n_fsV a b (v 128)
    · rw [show n_s21B [a, b] v = (v, Int32.ofInt 1) from if_pos q] at hk
      rw [if_pos q]
      exact hk H tI (n_cS_VB (n_fk_cB (ex := []) e rfl) hc) (n_mS_VB (n_fk_mB e rfl) hm)
    · rw [show n_s21B [a, b] v = (v, Int32.ofInt 0) from if_neg q] at hk
      rw [if_neg q]
      exact hk H tI (n_cS_VB (n_fk_cB (ex := []) e rfl) hc) (n_mS_VB (n_fk_mB e rfl) hm)
end NP
end PT33ib
