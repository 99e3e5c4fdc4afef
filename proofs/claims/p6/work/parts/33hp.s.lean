/-! ===== v10: contexts that call refresh, under the second checker (laid by wip/tools/mk10e.py) ===== -/
set_option maxRecDepth 100000 in
theorem z_x10_pk : z_chkP z_D s_P (z_clq z_D z_x10.2.2.2 s_P [z_x9]) 3000 z_x10 = true := z_chk2_okP (by decide +kernel)
theorem z_x10_p {W : aH → Prop} (hW : z_kp W) {X : aX} (h9 : z_spec (z_JW W) z_D s_P X z_x9) : z_spec (z_JW W) z_D s_P X z_x10 := z_ctx_okP (z_hlenP (z_JW_l hW)) (fun H0 C S => z_clq_okP (z_hlenP (z_JW_l hW)) (z_cons h9 (z_nil)) _ H0 C S) z_x10_pk
theorem z_x17_u {W : aH → Prop} (hW : z_kp W) {X : aX} : z_spec (z_JW W) z_D s_P X z_x17 := z_lift hW (z_x17_s (y_jx_l y_JA_x)) (by decide)
theorem z_x14_u {W : aH → Prop} (hW : z_kp W) {X : aX} : z_spec (z_JW W) z_D s_P X z_x14 := z_lift hW (z_x14_s (y_jx_l y_JA_x)) (by decide)
set_option maxRecDepth 100000 in
theorem z_x18_pk : z_chkP z_D s_P (z_clq z_D z_x18.2.2.2 s_P [z_x17, z_x14, z_x9]) 3000 z_x18 = true := z_chk2_okP (by decide +kernel)
theorem z_x18_p {W : aH → Prop} (hW : z_kp W) {X : aX} (h9 : z_spec (z_JW W) z_D s_P X z_x9) : z_spec (z_JW W) z_D s_P X z_x18 := z_ctx_okP (z_hlenP (z_JW_l hW)) (fun H0 C S => z_clq_okP (z_hlenP (z_JW_l hW)) (z_cons (z_x17_u hW) (z_cons (z_x14_u hW) (z_cons h9 (z_nil)))) _ H0 C S) z_x18_pk
theorem z_x13_u {W : aH → Prop} (hW : z_kp W) {X : aX} : z_spec (z_JW W) z_D s_P X z_x13 := z_lift hW (z_x13_s (y_jx_l y_JA_x)) (by decide)
theorem z_x11_u {W : aH → Prop} (hW : z_kp W) {X : aX} : z_spec (z_JW W) z_D s_P X z_x11 := z_lift hW (z_x11_s (y_jx_l y_JA_x)) (by decide)
set_option maxRecDepth 100000 in
theorem z_x19_pk : z_chkP z_D s_P (z_clq z_D z_x19.2.2.2 s_P [z_x17, z_x13, z_x11, z_x9]) 3000 z_x19 = true := z_chk2_okP (by decide +kernel)
theorem z_x19_p {W : aH → Prop} (hW : z_kp W) {X : aX} (h9 : z_spec (z_JW W) z_D s_P X z_x9) : z_spec (z_JW W) z_D s_P X z_x19 := z_ctx_okP (z_hlenP (z_JW_l hW)) (fun H0 C S => z_clq_okP (z_hlenP (z_JW_l hW)) (z_cons (z_x17_u hW) (z_cons (z_x13_u hW) (z_cons (z_x11_u hW) (z_cons h9 (z_nil))))) _ H0 C S) z_x19_pk
theorem z_x20_u {W : aH → Prop} (hW : z_kp W) {X : aX} : z_spec (z_JW W) z_D s_P X z_x20 := z_lift hW (z_x20_s (y_jx_l y_JA_x)) (by decide)
set_option maxRecDepth 100000 in
theorem z_x21_pk : z_chkP z_D s_P (z_clq z_D z_x21.2.2.2 s_P [z_x20, z_x17, z_x13, z_x11, z_x9]) 3000 z_x21 = true := z_chk2_okP (by decide +kernel)
theorem z_x21_p {W : aH → Prop} (hW : z_kp W) {X : aX} (h9 : z_spec (z_JW W) z_D s_P X z_x9) : z_spec (z_JW W) z_D s_P X z_x21 := z_ctx_okP (z_hlenP (z_JW_l hW)) (fun H0 C S => z_clq_okP (z_hlenP (z_JW_l hW)) (z_cons (z_x20_u hW) (z_cons (z_x17_u hW) (z_cons (z_x13_u hW) (z_cons (z_x11_u hW) (z_cons h9 (z_nil)))))) _ H0 C S) z_x21_pk
theorem z_x22_u {W : aH → Prop} (hW : z_kp W) {X : aX} : z_spec (z_JW W) z_D s_P X z_x22 := z_lift hW (z_x22_s (y_jx_l y_JA_x)) (by decide)
set_option maxRecDepth 100000 in
theorem z_x23_pk : z_chkP z_D s_P (z_clq z_D z_x23.2.2.2 s_P [z_x22, z_x17, z_x11, z_x9]) 3000 z_x23 = true := z_chk2_okP (by decide +kernel)
theorem z_x23_p {W : aH → Prop} (hW : z_kp W) {X : aX} (h9 : z_spec (z_JW W) z_D s_P X z_x9) : z_spec (z_JW W) z_D s_P X z_x23 := z_ctx_okP (z_hlenP (z_JW_l hW)) (fun H0 C S => z_clq_okP (z_hlenP (z_JW_l hW)) (z_cons (z_x22_u hW) (z_cons (z_x17_u hW) (z_cons (z_x11_u hW) (z_cons h9 (z_nil))))) _ H0 C S) z_x23_pk
theorem z_x27_u {W : aH → Prop} (hW : z_kp W) {X : aX} : z_spec (z_JW W) z_D s_P X z_x27 := z_lift hW (z_x27_s (y_jx_l y_JA_x)) (by decide)
theorem z_x26_u {W : aH → Prop} (hW : z_kp W) {X : aX} : z_spec (z_JW W) z_D s_P X z_x26 := z_lift hW (z_x26_s (y_jx_l y_JA_x)) (by decide)
theorem z_x24_u {W : aH → Prop} (hW : z_kp W) {X : aX} : z_spec (z_JW W) z_D s_P X z_x24 := z_lift hW (z_x24_s (y_jx_l y_JA_x)) (by decide)
set_option maxRecDepth 100000 in
theorem z_x28_pk : z_chkP z_D s_P (z_clq z_D z_x28.2.2.2 s_P [z_x27, z_x26, z_x24, z_x22, z_x13, z_x11, z_x9]) 3000 z_x28 = true := z_chk2_okP (by decide +kernel)
theorem z_x28_p {W : aH → Prop} (hW : z_kp W) {X : aX} (h9 : z_spec (z_JW W) z_D s_P X z_x9) : z_spec (z_JW W) z_D s_P X z_x28 := z_ctx_okP (z_hlenP (z_JW_l hW)) (fun H0 C S => z_clq_okP (z_hlenP (z_JW_l hW)) (z_cons (z_x27_u hW) (z_cons (z_x26_u hW) (z_cons (z_x24_u hW) (z_cons (z_x22_u hW) (z_cons (z_x13_u hW) (z_cons (z_x11_u hW) (z_cons h9 (z_nil)))))))) _ H0 C S) z_x28_pk
theorem z_x29_u {W : aH → Prop} (hW : z_kp W) {X : aX} : z_spec (z_JW W) z_D s_P X z_x29 := z_lift hW (z_x29_s (y_jx_l y_JA_x)) (by decide)
set_option maxRecDepth 100000 in
theorem z_x30_pk : z_chkP z_D s_P (z_clq z_D z_x30.2.2.2 s_P [z_x29, z_x17, z_x11, z_x9]) 3000 z_x30 = true := z_chk2_okP (by decide +kernel)
theorem z_x30_p {W : aH → Prop} (hW : z_kp W) {X : aX} (h9 : z_spec (z_JW W) z_D s_P X z_x9) : z_spec (z_JW W) z_D s_P X z_x30 := z_ctx_okP (z_hlenP (z_JW_l hW)) (fun H0 C S => z_clq_okP (z_hlenP (z_JW_l hW)) (z_cons (z_x29_u hW) (z_cons (z_x17_u hW) (z_cons (z_x11_u hW) (z_cons h9 (z_nil))))) _ H0 C S) z_x30_pk
set_option maxRecDepth 100000 in
theorem z_x32_pk : z_chkP z_D s_P (z_clq z_D z_x32.2.2.2 s_P [z_x29, z_x27, z_x26, z_x24, z_x11, z_x9]) 3000 z_x32 = true := z_chk2_okP (by decide +kernel)
theorem z_x32_p {W : aH → Prop} (hW : z_kp W) {X : aX} (h9 : z_spec (z_JW W) z_D s_P X z_x9) : z_spec (z_JW W) z_D s_P X z_x32 := z_ctx_okP (z_hlenP (z_JW_l hW)) (fun H0 C S => z_clq_okP (z_hlenP (z_JW_l hW)) (z_cons (z_x29_u hW) (z_cons (z_x27_u hW) (z_cons (z_x26_u hW) (z_cons (z_x24_u hW) (z_cons (z_x11_u hW) (z_cons h9 (z_nil))))))) _ H0 C S) z_x32_pk
theorem z_x36_u {W : aH → Prop} (hW : z_kp W) {X : aX} : z_spec (z_JW W) z_D s_P X z_x36 := z_lift hW (z_x36_s (y_jx_l y_JA_x)) (by decide)
set_option maxRecDepth 100000 in
theorem z_x37_pk : z_chkP z_D s_P (z_clq z_D z_x37.2.2.2 s_P [z_x36, z_x9]) 3000 z_x37 = true := z_chk2_okP (by decide +kernel)
theorem z_x37_p {W : aH → Prop} (hW : z_kp W) {X : aX} (h9 : z_spec (z_JW W) z_D s_P X z_x9) : z_spec (z_JW W) z_D s_P X z_x37 := z_ctx_okP (z_hlenP (z_JW_l hW)) (fun H0 C S => z_clq_okP (z_hlenP (z_JW_l hW)) (z_cons (z_x36_u hW) (z_cons h9 (z_nil))) _ H0 C S) z_x37_pk
theorem z_x38_u {W : aH → Prop} (hW : z_kp W) {X : aX} : z_spec (z_JW W) z_D s_P X z_x38 := z_lift hW (z_x38_s (y_jx_l y_JA_x)) (by decide)
theorem z_x25_u {W : aH → Prop} (hW : z_kp W) {X : aX} : z_spec (z_JW W) z_D s_P X z_x25 := z_lift hW (z_x25_s (y_jx_l y_JA_x)) (by decide)
set_option maxRecDepth 100000 in
theorem z_x39_pk : z_chkP z_D s_P (z_clq z_D z_x39.2.2.2 s_P [z_x38, z_x25, z_x24, z_x17, z_x13, z_x11, z_x9]) 3000 z_x39 = true := z_chk2_okP (by decide +kernel)
theorem z_x39_p {W : aH → Prop} (hW : z_kp W) {X : aX} (h9 : z_spec (z_JW W) z_D s_P X z_x9) : z_spec (z_JW W) z_D s_P X z_x39 := z_ctx_okP (z_hlenP (z_JW_l hW)) (fun H0 C S => z_clq_okP (z_hlenP (z_JW_l hW)) (z_cons (z_x38_u hW) (z_cons (z_x25_u hW) (z_cons (z_x24_u hW) (z_cons (z_x17_u hW) (z_cons (z_x13_u hW) (z_cons (z_x11_u hW) (z_cons h9 (z_nil)))))))) _ H0 C S) z_x39_pk
set_option maxRecDepth 100000 in
theorem z_x40_pk : z_chkP z_D s_P (z_clq z_D z_x40.2.2.2 s_P [z_x25, z_x24, z_x17, z_x13, z_x11, z_x9]) 3000 z_x40 = true := z_chk2_okP (by decide +kernel)
theorem z_x40_p {W : aH → Prop} (hW : z_kp W) {X : aX} (h9 : z_spec (z_JW W) z_D s_P X z_x9) : z_spec (z_JW W) z_D s_P X z_x40 := z_ctx_okP (z_hlenP (z_JW_l hW)) (fun H0 C S => z_clq_okP (z_hlenP (z_JW_l hW)) (z_cons (z_x25_u hW) (z_cons (z_x24_u hW) (z_cons (z_x17_u hW) (z_cons (z_x13_u hW) (z_cons (z_x11_u hW) (z_cons h9 (z_nil))))))) _ H0 C S) z_x40_pk
theorem z_x175_u {W : aH → Prop} (hW : z_kp W) {X : aX} : z_spec (z_JW W) z_D s_P X z_x175 := z_lift hW (z_x175_s (y_jx_l y_JA_x)) (by decide)
theorem z_x174_u {W : aH → Prop} (hW : z_kp W) {X : aX} : z_spec (z_JW W) z_D s_P X z_x174 := z_lift hW (z_x174_s (y_jx_l y_JA_x)) (by decide)
theorem z_x171_u {W : aH → Prop} (hW : z_kp W) {X : aX} : z_spec (z_JW W) z_D s_P X z_x171 := z_lift hW (z_x171_s (y_jx_l y_JA_x)) (by decide)
set_option maxRecDepth 100000 in
theorem z_x176_pk : z_chkP z_D s_P (z_clq z_D z_x176.2.2.2 s_P [z_x175, z_x174, z_x171, z_x27, z_x9]) 3000 z_x176 = true := z_chk2_okP (by decide +kernel)
theorem z_x176_p {W : aH → Prop} (hW : z_kp W) {X : aX} (h9 : z_spec (z_JW W) z_D s_P X z_x9) : z_spec (z_JW W) z_D s_P X z_x176 := z_ctx_okP (z_hlenP (z_JW_l hW)) (fun H0 C S => z_clq_okP (z_hlenP (z_JW_l hW)) (z_cons (z_x175_u hW) (z_cons (z_x174_u hW) (z_cons (z_x171_u hW) (z_cons (z_x27_u hW) (z_cons h9 (z_nil)))))) _ H0 C S) z_x176_pk
theorem z_x201_u {W : aH → Prop} (hW : z_kp W) {X : aX} : z_spec (z_JW W) z_D s_P X z_x201 := z_lift hW (z_x201_s (y_jx_l y_JA_x)) (by decide)
theorem z_x200_u {W : aH → Prop} (hW : z_kp W) {X : aX} : z_spec (z_JW W) z_D s_P X z_x200 := z_lift hW (z_x200_s (y_jx_l y_JA_x)) (by decide)
theorem z_x198_u {W : aH → Prop} (hW : z_kp W) {X : aX} : z_spec (z_JW W) z_D s_P X z_x198 := z_lift hW (z_x198_s (y_jx_l y_JA_x)) (by decide)
set_option maxRecDepth 100000 in
theorem z_x202_pk : z_chkP z_D s_P (z_clq z_D z_x202.2.2.2 s_P [z_x201, z_x200, z_x198, z_x27, z_x9]) 3000 z_x202 = true := z_chk2_okP (by decide +kernel)
theorem z_x202_p {W : aH → Prop} (hW : z_kp W) {X : aX} (h9 : z_spec (z_JW W) z_D s_P X z_x9) : z_spec (z_JW W) z_D s_P X z_x202 := z_ctx_okP (z_hlenP (z_JW_l hW)) (fun H0 C S => z_clq_okP (z_hlenP (z_JW_l hW)) (z_cons (z_x201_u hW) (z_cons (z_x200_u hW) (z_cons (z_x198_u hW) (z_cons (z_x27_u hW) (z_cons h9 (z_nil)))))) _ H0 C S) z_x202_pk
theorem z_x227_u {W : aH → Prop} (hW : z_kp W) {X : aX} : z_spec (z_JW W) z_D s_P X z_x227 := z_lift hW (z_x227_s (y_jx_l y_JA_x)) (by decide)
theorem z_x226_u {W : aH → Prop} (hW : z_kp W) {X : aX} : z_spec (z_JW W) z_D s_P X z_x226 := z_lift hW (z_x226_s (y_jx_l y_JA_x)) (by decide)
theorem z_x224_u {W : aH → Prop} (hW : z_kp W) {X : aX} : z_spec (z_JW W) z_D s_P X z_x224 := z_lift hW (z_x224_s (y_jx_l y_JA_x)) (by decide)
set_option maxRecDepth 100000 in
theorem z_x228_pk : z_chkP z_D s_P (z_clq z_D z_x228.2.2.2 s_P [z_x227, z_x226, z_x224, z_x27, z_x9]) 3000 z_x228 = true := z_chk2_okP (by decide +kernel)
theorem z_x228_p {W : aH → Prop} (hW : z_kp W) {X : aX} (h9 : z_spec (z_JW W) z_D s_P X z_x9) : z_spec (z_JW W) z_D s_P X z_x228 := z_ctx_okP (z_hlenP (z_JW_l hW)) (fun H0 C S => z_clq_okP (z_hlenP (z_JW_l hW)) (z_cons (z_x227_u hW) (z_cons (z_x226_u hW) (z_cons (z_x224_u hW) (z_cons (z_x27_u hW) (z_cons h9 (z_nil)))))) _ H0 C S) z_x228_pk
theorem z_x253_u {W : aH → Prop} (hW : z_kp W) {X : aX} : z_spec (z_JW W) z_D s_P X z_x253 := z_lift hW (z_x253_s (y_jx_l y_JA_x)) (by decide)
theorem z_x252_u {W : aH → Prop} (hW : z_kp W) {X : aX} : z_spec (z_JW W) z_D s_P X z_x252 := z_lift hW (z_x252_s (y_jx_l y_JA_x)) (by decide)
theorem z_x250_u {W : aH → Prop} (hW : z_kp W) {X : aX} : z_spec (z_JW W) z_D s_P X z_x250 := z_lift hW (z_x250_s (y_jx_l y_JA_x)) (by decide)
set_option maxRecDepth 100000 in
theorem z_x254_pk : z_chkP z_D s_P (z_clq z_D z_x254.2.2.2 s_P [z_x253, z_x252, z_x250, z_x27, z_x9]) 3000 z_x254 = true := z_chk2_okP (by decide +kernel)
theorem z_x254_p {W : aH → Prop} (hW : z_kp W) {X : aX} (h9 : z_spec (z_JW W) z_D s_P X z_x9) : z_spec (z_JW W) z_D s_P X z_x254 := z_ctx_okP (z_hlenP (z_JW_l hW)) (fun H0 C S => z_clq_okP (z_hlenP (z_JW_l hW)) (z_cons (z_x253_u hW) (z_cons (z_x252_u hW) (z_cons (z_x250_u hW) (z_cons (z_x27_u hW) (z_cons h9 (z_nil)))))) _ H0 C S) z_x254_pk
theorem z_x279_u {W : aH → Prop} (hW : z_kp W) {X : aX} : z_spec (z_JW W) z_D s_P X z_x279 := z_lift hW (z_x279_s (y_jx_l y_JA_x)) (by decide)
theorem z_x278_u {W : aH → Prop} (hW : z_kp W) {X : aX} : z_spec (z_JW W) z_D s_P X z_x278 := z_lift hW (z_x278_s (y_jx_l y_JA_x)) (by decide)
theorem z_x276_u {W : aH → Prop} (hW : z_kp W) {X : aX} : z_spec (z_JW W) z_D s_P X z_x276 := z_lift hW (z_x276_s (y_jx_l y_JA_x)) (by decide)
set_option maxRecDepth 100000 in
theorem z_x280_pk : z_chkP z_D s_P (z_clq z_D z_x280.2.2.2 s_P [z_x279, z_x278, z_x276, z_x27, z_x9]) 3000 z_x280 = true := z_chk2_okP (by decide +kernel)
theorem z_x280_p {W : aH → Prop} (hW : z_kp W) {X : aX} (h9 : z_spec (z_JW W) z_D s_P X z_x9) : z_spec (z_JW W) z_D s_P X z_x280 := z_ctx_okP (z_hlenP (z_JW_l hW)) (fun H0 C S => z_clq_okP (z_hlenP (z_JW_l hW)) (z_cons (z_x279_u hW) (z_cons (z_x278_u hW) (z_cons (z_x276_u hW) (z_cons (z_x27_u hW) (z_cons h9 (z_nil)))))) _ H0 C S) z_x280_pk
theorem z_x305_u {W : aH → Prop} (hW : z_kp W) {X : aX} : z_spec (z_JW W) z_D s_P X z_x305 := z_lift hW (z_x305_s (y_jx_l y_JA_x)) (by decide)
theorem z_x304_u {W : aH → Prop} (hW : z_kp W) {X : aX} : z_spec (z_JW W) z_D s_P X z_x304 := z_lift hW (z_x304_s (y_jx_l y_JA_x)) (by decide)
theorem z_x302_u {W : aH → Prop} (hW : z_kp W) {X : aX} : z_spec (z_JW W) z_D s_P X z_x302 := z_lift hW (z_x302_s (y_jx_l y_JA_x)) (by decide)
set_option maxRecDepth 100000 in
theorem z_x306_pk : z_chkP z_D s_P (z_clq z_D z_x306.2.2.2 s_P [z_x305, z_x304, z_x302, z_x27, z_x9]) 3000 z_x306 = true := z_chk2_okP (by decide +kernel)
theorem z_x306_p {W : aH → Prop} (hW : z_kp W) {X : aX} (h9 : z_spec (z_JW W) z_D s_P X z_x9) : z_spec (z_JW W) z_D s_P X z_x306 := z_ctx_okP (z_hlenP (z_JW_l hW)) (fun H0 C S => z_clq_okP (z_hlenP (z_JW_l hW)) (z_cons (z_x305_u hW) (z_cons (z_x304_u hW) (z_cons (z_x302_u hW) (z_cons (z_x27_u hW) (z_cons h9 (z_nil)))))) _ H0 C S) z_x306_pk
theorem z_x331_u {W : aH → Prop} (hW : z_kp W) {X : aX} : z_spec (z_JW W) z_D s_P X z_x331 := z_lift hW (z_x331_s (y_jx_l y_JA_x)) (by decide)
theorem z_x330_u {W : aH → Prop} (hW : z_kp W) {X : aX} : z_spec (z_JW W) z_D s_P X z_x330 := z_lift hW (z_x330_s (y_jx_l y_JA_x)) (by decide)
theorem z_x328_u {W : aH → Prop} (hW : z_kp W) {X : aX} : z_spec (z_JW W) z_D s_P X z_x328 := z_lift hW (z_x328_s (y_jx_l y_JA_x)) (by decide)
set_option maxRecDepth 100000 in
theorem z_x332_pk : z_chkP z_D s_P (z_clq z_D z_x332.2.2.2 s_P [z_x331, z_x330, z_x328, z_x27, z_x9]) 3000 z_x332 = true := z_chk2_okP (by decide +kernel)
theorem z_x332_p {W : aH → Prop} (hW : z_kp W) {X : aX} (h9 : z_spec (z_JW W) z_D s_P X z_x9) : z_spec (z_JW W) z_D s_P X z_x332 := z_ctx_okP (z_hlenP (z_JW_l hW)) (fun H0 C S => z_clq_okP (z_hlenP (z_JW_l hW)) (z_cons (z_x331_u hW) (z_cons (z_x330_u hW) (z_cons (z_x328_u hW) (z_cons (z_x27_u hW) (z_cons h9 (z_nil)))))) _ H0 C S) z_x332_pk
theorem z_x357_u {W : aH → Prop} (hW : z_kp W) {X : aX} : z_spec (z_JW W) z_D s_P X z_x357 := z_lift hW (z_x357_s (y_jx_l y_JA_x)) (by decide)
theorem z_x356_u {W : aH → Prop} (hW : z_kp W) {X : aX} : z_spec (z_JW W) z_D s_P X z_x356 := z_lift hW (z_x356_s (y_jx_l y_JA_x)) (by decide)
theorem z_x354_u {W : aH → Prop} (hW : z_kp W) {X : aX} : z_spec (z_JW W) z_D s_P X z_x354 := z_lift hW (z_x354_s (y_jx_l y_JA_x)) (by decide)
set_option maxRecDepth 100000 in
theorem z_x358_pk : z_chkP z_D s_P (z_clq z_D z_x358.2.2.2 s_P [z_x357, z_x356, z_x354, z_x27, z_x9]) 3000 z_x358 = true := z_chk2_okP (by decide +kernel)
theorem z_x358_p {W : aH → Prop} (hW : z_kp W) {X : aX} (h9 : z_spec (z_JW W) z_D s_P X z_x9) : z_spec (z_JW W) z_D s_P X z_x358 := z_ctx_okP (z_hlenP (z_JW_l hW)) (fun H0 C S => z_clq_okP (z_hlenP (z_JW_l hW)) (z_cons (z_x357_u hW) (z_cons (z_x356_u hW) (z_cons (z_x354_u hW) (z_cons (z_x27_u hW) (z_cons h9 (z_nil)))))) _ H0 C S) z_x358_pk
theorem z_x383_u {W : aH → Prop} (hW : z_kp W) {X : aX} : z_spec (z_JW W) z_D s_P X z_x383 := z_lift hW (z_x383_s (y_jx_l y_JA_x)) (by decide)
theorem z_x382_u {W : aH → Prop} (hW : z_kp W) {X : aX} : z_spec (z_JW W) z_D s_P X z_x382 := z_lift hW (z_x382_s (y_jx_l y_JA_x)) (by decide)
theorem z_x380_u {W : aH → Prop} (hW : z_kp W) {X : aX} : z_spec (z_JW W) z_D s_P X z_x380 := z_lift hW (z_x380_s (y_jx_l y_JA_x)) (by decide)
set_option maxRecDepth 100000 in
theorem z_x384_pk : z_chkP z_D s_P (z_clq z_D z_x384.2.2.2 s_P [z_x383, z_x382, z_x380, z_x27, z_x9]) 3000 z_x384 = true := z_chk2_okP (by decide +kernel)
theorem z_x384_p {W : aH → Prop} (hW : z_kp W) {X : aX} (h9 : z_spec (z_JW W) z_D s_P X z_x9) : z_spec (z_JW W) z_D s_P X z_x384 := z_ctx_okP (z_hlenP (z_JW_l hW)) (fun H0 C S => z_clq_okP (z_hlenP (z_JW_l hW)) (z_cons (z_x383_u hW) (z_cons (z_x382_u hW) (z_cons (z_x380_u hW) (z_cons (z_x27_u hW) (z_cons h9 (z_nil)))))) _ H0 C S) z_x384_pk
theorem z_x409_u {W : aH → Prop} (hW : z_kp W) {X : aX} : z_spec (z_JW W) z_D s_P X z_x409 := z_lift hW (z_x409_s (y_jx_l y_JA_x)) (by decide)
theorem z_x408_u {W : aH → Prop} (hW : z_kp W) {X : aX} : z_spec (z_JW W) z_D s_P X z_x408 := z_lift hW (z_x408_s (y_jx_l y_JA_x)) (by decide)
theorem z_x406_u {W : aH → Prop} (hW : z_kp W) {X : aX} : z_spec (z_JW W) z_D s_P X z_x406 := z_lift hW (z_x406_s (y_jx_l y_JA_x)) (by decide)
set_option maxRecDepth 100000 in
theorem z_x410_pk : z_chkP z_D s_P (z_clq z_D z_x410.2.2.2 s_P [z_x409, z_x408, z_x406, z_x27, z_x9]) 3000 z_x410 = true := z_chk2_okP (by decide +kernel)
theorem z_x410_p {W : aH → Prop} (hW : z_kp W) {X : aX} (h9 : z_spec (z_JW W) z_D s_P X z_x9) : z_spec (z_JW W) z_D s_P X z_x410 := z_ctx_okP (z_hlenP (z_JW_l hW)) (fun H0 C S => z_clq_okP (z_hlenP (z_JW_l hW)) (z_cons (z_x409_u hW) (z_cons (z_x408_u hW) (z_cons (z_x406_u hW) (z_cons (z_x27_u hW) (z_cons h9 (z_nil)))))) _ H0 C S) z_x410_pk
theorem z_x435_u {W : aH → Prop} (hW : z_kp W) {X : aX} : z_spec (z_JW W) z_D s_P X z_x435 := z_lift hW (z_x435_s (y_jx_l y_JA_x)) (by decide)
theorem z_x434_u {W : aH → Prop} (hW : z_kp W) {X : aX} : z_spec (z_JW W) z_D s_P X z_x434 := z_lift hW (z_x434_s (y_jx_l y_JA_x)) (by decide)
theorem z_x432_u {W : aH → Prop} (hW : z_kp W) {X : aX} : z_spec (z_JW W) z_D s_P X z_x432 := z_lift hW (z_x432_s (y_jx_l y_JA_x)) (by decide)
set_option maxRecDepth 100000 in
theorem z_x436_pk : z_chkP z_D s_P (z_clq z_D z_x436.2.2.2 s_P [z_x435, z_x434, z_x432, z_x27, z_x9]) 3000 z_x436 = true := z_chk2_okP (by decide +kernel)
theorem z_x436_p {W : aH → Prop} (hW : z_kp W) {X : aX} (h9 : z_spec (z_JW W) z_D s_P X z_x9) : z_spec (z_JW W) z_D s_P X z_x436 := z_ctx_okP (z_hlenP (z_JW_l hW)) (fun H0 C S => z_clq_okP (z_hlenP (z_JW_l hW)) (z_cons (z_x435_u hW) (z_cons (z_x434_u hW) (z_cons (z_x432_u hW) (z_cons (z_x27_u hW) (z_cons h9 (z_nil)))))) _ H0 C S) z_x436_pk
theorem z_x461_u {W : aH → Prop} (hW : z_kp W) {X : aX} : z_spec (z_JW W) z_D s_P X z_x461 := z_lift hW (z_x461_s (y_jx_l y_JA_x)) (by decide)
theorem z_x460_u {W : aH → Prop} (hW : z_kp W) {X : aX} : z_spec (z_JW W) z_D s_P X z_x460 := z_lift hW (z_x460_s (y_jx_l y_JA_x)) (by decide)
theorem z_x458_u {W : aH → Prop} (hW : z_kp W) {X : aX} : z_spec (z_JW W) z_D s_P X z_x458 := z_lift hW (z_x458_s (y_jx_l y_JA_x)) (by decide)
set_option maxRecDepth 100000 in
theorem z_x462_pk : z_chkP z_D s_P (z_clq z_D z_x462.2.2.2 s_P [z_x461, z_x460, z_x458, z_x27, z_x9]) 3000 z_x462 = true := z_chk2_okP (by decide +kernel)
theorem z_x462_p {W : aH → Prop} (hW : z_kp W) {X : aX} (h9 : z_spec (z_JW W) z_D s_P X z_x9) : z_spec (z_JW W) z_D s_P X z_x462 := z_ctx_okP (z_hlenP (z_JW_l hW)) (fun H0 C S => z_clq_okP (z_hlenP (z_JW_l hW)) (z_cons (z_x461_u hW) (z_cons (z_x460_u hW) (z_cons (z_x458_u hW) (z_cons (z_x27_u hW) (z_cons h9 (z_nil)))))) _ H0 C S) z_x462_pk
set_option maxRecDepth 100000 in
theorem z_x463_pk : z_chkP z_D s_P (z_clq z_D z_x463.2.2.2 s_P [z_x462, z_x436, z_x410, z_x384, z_x358, z_x332, z_x306, z_x280, z_x254, z_x228, z_x202, z_x176]) 3000 z_x463 = true := z_chk2_okP (by decide +kernel)
theorem z_x463_p {W : aH → Prop} (hW : z_kp W) {X : aX} (h9 : z_spec (z_JW W) z_D s_P X z_x9) : z_spec (z_JW W) z_D s_P X z_x463 := z_ctx_okP (z_hlenP (z_JW_l hW)) (fun H0 C S => z_clq_okP (z_hlenP (z_JW_l hW)) (z_cons (z_x462_p hW h9) (z_cons (z_x436_p hW h9) (z_cons (z_x410_p hW h9) (z_cons (z_x384_p hW h9) (z_cons (z_x358_p hW h9) (z_cons (z_x332_p hW h9) (z_cons (z_x306_p hW h9) (z_cons (z_x280_p hW h9) (z_cons (z_x254_p hW h9) (z_cons (z_x228_p hW h9) (z_cons (z_x202_p hW h9) (z_cons (z_x176_p hW h9) (z_nil))))))))))))) _ H0 C S) z_x463_pk
set_option maxRecDepth 100000 in
theorem z_x464_pk : z_chkP z_D s_P (z_clq z_D z_x464.2.2.2 s_P [z_x458, z_x432, z_x406, z_x380, z_x354, z_x328, z_x302, z_x276, z_x250, z_x224, z_x198, z_x171, z_x17, z_x9]) 3000 z_x464 = true := z_chk2_okP (by decide +kernel)
theorem z_x464_p {W : aH → Prop} (hW : z_kp W) {X : aX} (h9 : z_spec (z_JW W) z_D s_P X z_x9) : z_spec (z_JW W) z_D s_P X z_x464 := z_ctx_okP (z_hlenP (z_JW_l hW)) (fun H0 C S => z_clq_okP (z_hlenP (z_JW_l hW)) (z_cons (z_x458_u hW) (z_cons (z_x432_u hW) (z_cons (z_x406_u hW) (z_cons (z_x380_u hW) (z_cons (z_x354_u hW) (z_cons (z_x328_u hW) (z_cons (z_x302_u hW) (z_cons (z_x276_u hW) (z_cons (z_x250_u hW) (z_cons (z_x224_u hW) (z_cons (z_x198_u hW) (z_cons (z_x171_u hW) (z_cons (z_x17_u hW) (z_cons h9 (z_nil))))))))))))))) _ H0 C S) z_x464_pk
set_option maxRecDepth 100000 in
theorem z_x465_pk : z_chkP z_D s_P (z_clq z_D z_x465.2.2.2 s_P [z_x462, z_x436, z_x410, z_x384, z_x358, z_x332, z_x306, z_x280, z_x254, z_x228, z_x202, z_x176]) 3000 z_x465 = true := z_chk2_okP (by decide +kernel)
theorem z_x465_p {W : aH → Prop} (hW : z_kp W) {X : aX} (h9 : z_spec (z_JW W) z_D s_P X z_x9) : z_spec (z_JW W) z_D s_P X z_x465 := z_ctx_okP (z_hlenP (z_JW_l hW)) (fun H0 C S => z_clq_okP (z_hlenP (z_JW_l hW)) (z_cons (z_x462_p hW h9) (z_cons (z_x436_p hW h9) (z_cons (z_x410_p hW h9) (z_cons (z_x384_p hW h9) (z_cons (z_x358_p hW h9) (z_cons (z_x332_p hW h9) (z_cons (z_x306_p hW h9) (z_cons (z_x280_p hW h9) (z_cons (z_x254_p hW h9) (z_cons (z_x228_p hW h9) (z_cons (z_x202_p hW h9) (z_cons (z_x176_p hW h9) (z_nil))))))))))))) _ H0 C S) z_x465_pk
set_option maxRecDepth 100000 in
theorem z_x466_pk : z_chkP z_D s_P (z_clq z_D z_x466.2.2.2 s_P [z_x462, z_x436, z_x410, z_x384, z_x358, z_x332, z_x306, z_x280, z_x254, z_x228, z_x202, z_x176]) 3000 z_x466 = true := z_chk2_okP (by decide +kernel)
theorem z_x466_p {W : aH → Prop} (hW : z_kp W) {X : aX} (h9 : z_spec (z_JW W) z_D s_P X z_x9) : z_spec (z_JW W) z_D s_P X z_x466 := z_ctx_okP (z_hlenP (z_JW_l hW)) (fun H0 C S => z_clq_okP (z_hlenP (z_JW_l hW)) (z_cons (z_x462_p hW h9) (z_cons (z_x436_p hW h9) (z_cons (z_x410_p hW h9) (z_cons (z_x384_p hW h9) (z_cons (z_x358_p hW h9) (z_cons (z_x332_p hW h9) (z_cons (z_x306_p hW h9) (z_cons (z_x280_p hW h9) (z_cons (z_x254_p hW h9) (z_cons (z_x228_p hW h9) (z_cons (z_x202_p hW h9) (z_cons (z_x176_p hW h9) (z_nil))))))))))))) _ H0 C S) z_x466_pk
theorem z_x478_u {W : aH → Prop} (hW : z_kp W) {X : aX} : z_spec (z_JW W) z_D s_P X z_x478 := z_lift hW (z_x478_s (y_jx_l y_JA_x)) (by decide)
set_option maxRecDepth 100000 in
theorem z_x479_pk : z_chkP z_D s_P (z_clq z_D z_x479.2.2.2 s_P [z_x478, z_x9]) 3000 z_x479 = true := z_chk2_okP (by decide +kernel)
theorem z_x479_p {W : aH → Prop} (hW : z_kp W) {X : aX} (h9 : z_spec (z_JW W) z_D s_P X z_x9) : z_spec (z_JW W) z_D s_P X z_x479 := z_ctx_okP (z_hlenP (z_JW_l hW)) (fun H0 C S => z_clq_okP (z_hlenP (z_JW_l hW)) (z_cons (z_x478_u hW) (z_cons h9 (z_nil))) _ H0 C S) z_x479_pk
theorem z_x490_u {W : aH → Prop} (hW : z_kp W) {X : aX} : z_spec (z_JW W) z_D s_P X z_x490 := z_lift hW (z_x490_s (y_jx_l y_JA_x)) (by decide)
theorem z_x488_u {W : aH → Prop} (hW : z_kp W) {X : aX} : z_spec (z_JW W) z_D s_P X z_x488 := z_lift hW (z_x488_s (y_jx_l y_JA_x)) (by decide)
set_option maxRecDepth 100000 in
theorem z_x491_pk : z_chkP z_D s_P (z_clq z_D z_x491.2.2.2 s_P [z_x490, z_x488, z_x479]) 3000 z_x491 = true := z_chk2_okP (by decide +kernel)
theorem z_x491_p {W : aH → Prop} (hW : z_kp W) {X : aX} (h9 : z_spec (z_JW W) z_D s_P X z_x9) : z_spec (z_JW W) z_D s_P X z_x491 := z_ctx_okP (z_hlenP (z_JW_l hW)) (fun H0 C S => z_clq_okP (z_hlenP (z_JW_l hW)) (z_cons (z_x490_u hW) (z_cons (z_x488_u hW) (z_cons (z_x479_p hW h9) (z_nil)))) _ H0 C S) z_x491_pk
theorem z_x492_u {W : aH → Prop} (hW : z_kp W) {X : aX} : z_spec (z_JW W) z_D s_P X z_x492 := z_lift hW (z_x492_s (y_jx_l y_JA_x)) (by decide)
set_option maxRecDepth 100000 in
theorem z_x493_pk : z_chkP z_D s_P (z_clq z_D z_x493.2.2.2 s_P [z_x492, z_x488, z_x479, z_x13]) 3000 z_x493 = true := z_chk2_okP (by decide +kernel)
theorem z_x493_p {W : aH → Prop} (hW : z_kp W) {X : aX} (h9 : z_spec (z_JW W) z_D s_P X z_x9) : z_spec (z_JW W) z_D s_P X z_x493 := z_ctx_okP (z_hlenP (z_JW_l hW)) (fun H0 C S => z_clq_okP (z_hlenP (z_JW_l hW)) (z_cons (z_x492_u hW) (z_cons (z_x488_u hW) (z_cons (z_x479_p hW h9) (z_cons (z_x13_u hW) (z_nil))))) _ H0 C S) z_x493_pk
theorem z_x495_u {W : aH → Prop} (hW : z_kp W) {X : aX} : z_spec (z_JW W) z_D s_P X z_x495 := z_lift hW (z_x495_s (y_jx_l y_JA_x)) (by decide)
theorem z_x494_u {W : aH → Prop} (hW : z_kp W) {X : aX} : z_spec (z_JW W) z_D s_P X z_x494 := z_lift hW (z_x494_s (y_jx_l y_JA_x)) (by decide)
theorem z_x15_u {W : aH → Prop} (hW : z_kp W) {X : aX} : z_spec (z_JW W) z_D s_P X z_x15 := z_lift hW (z_x15_s (y_jx_l y_JA_x)) (by decide)
set_option maxRecDepth 100000 in
theorem z_x496_pk : z_chkP z_D s_P (z_clq z_D z_x496.2.2.2 s_P [z_x495, z_x494, z_x492, z_x488, z_x479, z_x15, z_x13]) 3000 z_x496 = true := z_chk2_okP (by decide +kernel)
theorem z_x496_p {W : aH → Prop} (hW : z_kp W) {X : aX} (h9 : z_spec (z_JW W) z_D s_P X z_x9) : z_spec (z_JW W) z_D s_P X z_x496 := z_ctx_okP (z_hlenP (z_JW_l hW)) (fun H0 C S => z_clq_okP (z_hlenP (z_JW_l hW)) (z_cons (z_x495_u hW) (z_cons (z_x494_u hW) (z_cons (z_x492_u hW) (z_cons (z_x488_u hW) (z_cons (z_x479_p hW h9) (z_cons (z_x15_u hW) (z_cons (z_x13_u hW) (z_nil)))))))) _ H0 C S) z_x496_pk
theorem z_x499_u {W : aH → Prop} (hW : z_kp W) {X : aX} : z_spec (z_JW W) z_D s_P X z_x499 := z_lift hW (z_x499_s (y_jx_l y_JA_x)) (by decide)
set_option maxRecDepth 100000 in
theorem z_x500_pk : z_chkP z_D s_P (z_clq z_D z_x500.2.2.2 s_P [z_x499, z_x24, z_x17, z_x13, z_x11, z_x9]) 3000 z_x500 = true := z_chk2_okP (by decide +kernel)
theorem z_x500_p {W : aH → Prop} (hW : z_kp W) {X : aX} (h9 : z_spec (z_JW W) z_D s_P X z_x9) : z_spec (z_JW W) z_D s_P X z_x500 := z_ctx_okP (z_hlenP (z_JW_l hW)) (fun H0 C S => z_clq_okP (z_hlenP (z_JW_l hW)) (z_cons (z_x499_u hW) (z_cons (z_x24_u hW) (z_cons (z_x17_u hW) (z_cons (z_x13_u hW) (z_cons (z_x11_u hW) (z_cons h9 (z_nil))))))) _ H0 C S) z_x500_pk
