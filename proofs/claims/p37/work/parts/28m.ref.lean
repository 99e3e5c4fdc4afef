section PT28a
/-! ===== v3: what is seen, as bits; weights now ===== -/
def y_bits (p : Nat → Bool) : Nat → Int32
  | 0 => Int32.ofInt 0
  | n + 1 => y_bits p n ||| cond (p n) (Int32.ofInt 1 <<< (Int32.ofNat n &&& 31)) (Int32.ofInt 0)
def y_bt (node : Int32) : Int32 := if node.toInt < 0 then Int32.ofInt 0 else Int32.ofInt 1 <<< (node &&& 31)
def y_pS (sa : List Int32) (but : Int32) (v : Nat) : Bool := !(decide ((v : Int) = but.toInt)) && decide (y_N sa v = 1)
def y_pN (sa : List Int32) (but : Int32) (v : Nat) : Bool := !(decide ((v : Int) = but.toInt)) && decide (y_N sa v = 0)
def y_nw (sa : List Int32) (nd : Int32) (wl : List Int64) (node : Int32) (so : Bool) (but : Int32) : Int := y_ws wl (y_bits (y_pS sa but) nd.toInt.toNat ||| cond so (y_bt node) (Int32.ofInt 0)) (y_bits (y_pN sa but) nd.toInt.toNat ||| cond so (Int32.ofInt 0) (y_bt node)) (y_ways nd)
theorem y_nw_b {sa : List Int32} {nd : Int32} {wl : List Int64} {node : Int32} {so : Bool} {but : Int32} {h : aH} (hw : y_wl h wl) (n0 : 0 ≤ nd.toInt) (n10 : nd.toInt ≤ 10) : 0 ≤ y_nw sa nd wl node so but ∧ y_nw sa nd wl node so but ≤ 100000000 := by
  have b := y_ws_b hw.2.1 (a := y_bits (y_pS sa but) nd.toInt.toNat ||| cond so (y_bt node) (Int32.ofInt 0)) (b := y_bits (y_pN sa but) nd.toInt.toNat ||| cond so (Int32.ofInt 0) (y_bt node)) (y_ways nd)
  have t := y_tot_m hw.2.1 (y_all n0 n10).2.2
  have w := hw.2.2
  unfold y_nw
  omega
section WG
variable {X : aX} {C S d : Nat} {K0 : Option Value → aH → Nat → Nat → Prop}
theorem y_seenSo_loop {but nd : Int32} {sa : List Int32} : ∀ (t : Nat) (h : aH) (kI b : Int32) (k : Nat), w_hr z_D h → w_f h 19591 = some (.int nd) → w_a h 160 = some (0, .inl sa) → kI.toInt = k → (k : Int) + t = nd.toInt → b = y_bits (y_pS sa but) k →
    (∀ (H : aH), y_fr h H [] [] → K0 (some (.int (y_bits (y_pS sa but) nd.toInt.toNat))) H C S) →
    aOK s_P X d a_m191 4 [some (.ref 155), some (.int but), some (.int b), some (.int kI)] [] h C S K0 := by
  intro t
  induction t with
  | zero =>
    intro h kI b k hr g1 g2 hk hkt hb hK
    refine w_go z_hl [4] [] 40 hr ?_
    intro x hx _ _
    obtain rfl := y_fi g1 hx
    refine ⟨fun q => ?_, fun q => ?_⟩
    · intro H hH
      have := hK H (y_st (y_rf hr) hH (by repeat (first | exact w_nil | refine w_cons (Or.inl (y_m rfl)) ?_ | refine w_cons (Or.inr (by assumption)) ?_)) (by repeat (first | exact w_nil | refine w_cons (Or.inl (y_m rfl)) ?_ | refine w_cons (Or.inr (by assumption)) ?_)))
      rw [show nd.toInt.toNat = k by omega, ← hb] at this
      exact this
    · have : ¬ (nd.toInt ≤ kI.toInt) := y_cif q
      omega
  | succ t ih =>
    intro h kI b k hr g1 g2 hk hkt hb hK
    have hnb := y_ndb hr g1
    have hik : (kI + Int32.ofInt 1).toInt = ((k + 1 : Nat) : Int) := by rw [y_inc (by omega), hk]; rfl
    obtain ⟨ek, kc⟩ := y_ofNat hk (by omega)
    have next : ∀ {H : aH} {x : Int32}, y_fr h H [] [] → x = cond (y_pS sa but k) (Int32.ofInt 1 <<< (Int32.ofNat k &&& 31)) (Int32.ofInt 0) → aOK s_P X d a_m191 4 [some (.ref 155), some (.int but), some (.int (b ||| x)), some (.int (kI + Int32.ofInt 1))] [] H C S K0 := by
      intro H x e hx
      refine ih H _ _ (k + 1) e.1 ((y_fe e rfl).trans g1) ((y_ae e rfl).trans g2) hik (by omega) ?_ (fun H' f => hK H' (y_sq e f rfl rfl))
      rw [hb, hx]
      rfl
    refine w_go z_hl [4] [] 40 hr ?_
    intro x hx _ _
    obtain rfl := y_fi g1 hx
    refine ⟨fun q => ?_, fun q => ⟨fun q2 => ?_, fun q2 => ?_⟩⟩
    · have : nd.toInt ≤ kI.toInt := (y_ci .ge _ _).mp q
      omega
    · have q3 : kI.toInt = but.toInt := (y_ci .eq _ _).mp q2
      intro H hH
      refine next (y_st (y_rf hr) hH (by repeat (first | exact w_nil | refine w_cons (Or.inl (y_m rfl)) ?_ | refine w_cons (Or.inr (by assumption)) ?_)) (by repeat (first | exact w_nil | refine w_cons (Or.inl (y_m rfl)) ?_ | refine w_cons (Or.inr (by assumption)) ?_))) ?_
      unfold y_pS
      rw [decide_eq_true (by omega)]
      rfl
    · have q3 : ¬ (kI.toInt = but.toInt) := y_cif q2
      refine ⟨⟨by omega, by omega⟩, fun l hl len bb => ?_⟩
      obtain rfl := y_ai g2 hl
      refine ⟨fun q4 => ?_, fun q4 => ?_⟩
      · have q5 : (sa.getD kI.toNatClampNeg 0).toInt ≠ (Int32.ofInt 1).toInt := (y_ci .ne _ _).mp q4
        intro H hH
        refine next (y_st (y_rf hr) hH (by repeat (first | exact w_nil | refine w_cons (Or.inl (y_m rfl)) ?_ | refine w_cons (Or.inr (by assumption)) ?_)) (by repeat (first | exact w_nil | refine w_cons (Or.inl (y_m rfl)) ?_ | refine w_cons (Or.inr (by assumption)) ?_))) ?_
        unfold y_pS
        rw [decide_eq_false (p := y_N sa k = 1) (fun e => q5 (by rw [kc]; exact e)), Bool.and_false]
        rfl
      · have q5 : ¬ ((sa.getD kI.toNatClampNeg 0).toInt ≠ (Int32.ofInt 1).toInt) := y_cif q4
        intro H hH
        refine next (y_st (y_rf hr) hH (by repeat (first | exact w_nil | refine w_cons (Or.inl (y_m rfl)) ?_ | refine w_cons (Or.inr (by assumption)) ?_)) (by repeat (first | exact w_nil | refine w_cons (Or.inl (y_m rfl)) ?_ | refine w_cons (Or.inr (by assumption)) ?_))) ?_
        unfold y_pS
        rw [decide_eq_true (p := y_N sa k = 1) (by rw [kc] at q5; exact Decidable.not_not.mp q5), decide_eq_false (by omega), ek]
        rfl
theorem y_seenNot_loop {but nd : Int32} {sa : List Int32} : ∀ (t : Nat) (h : aH) (kI b : Int32) (k : Nat), w_hr z_D h → w_f h 19591 = some (.int nd) → w_a h 160 = some (0, .inl sa) → kI.toInt = k → (k : Int) + t = nd.toInt → b = y_bits (y_pN sa but) k →
    (∀ (H : aH), y_fr h H [] [] → K0 (some (.int (y_bits (y_pN sa but) nd.toInt.toNat))) H C S) →
    aOK s_P X d a_m192 4 [some (.ref 155), some (.int but), some (.int b), some (.int kI)] [] h C S K0 := by
  intro t
  induction t with
  | zero =>
    intro h kI b k hr g1 g2 hk hkt hb hK
    refine w_go z_hl [4] [] 40 hr ?_
    intro x hx _ _
    obtain rfl := y_fi g1 hx
    refine ⟨fun q => ?_, fun q => ?_⟩
    · intro H hH
      have := hK H (y_st (y_rf hr) hH (by repeat (first | exact w_nil | refine w_cons (Or.inl (y_m rfl)) ?_ | refine w_cons (Or.inr (by assumption)) ?_)) (by repeat (first | exact w_nil | refine w_cons (Or.inl (y_m rfl)) ?_ | refine w_cons (Or.inr (by assumption)) ?_)))
      rw [show nd.toInt.toNat = k by omega, ← hb] at this
      exact this
    · have : ¬ (nd.toInt ≤ kI.toInt) := y_cif q
      omega
  | succ t ih =>
    intro h kI b k hr g1 g2 hk hkt hb hK
    have hnb := y_ndb hr g1
    have hik : (kI + Int32.ofInt 1).toInt = ((k + 1 : Nat) : Int) := by rw [y_inc (by omega), hk]; rfl
    obtain ⟨ek, kc⟩ := y_ofNat hk (by omega)
    have next : ∀ {H : aH} {x : Int32}, y_fr h H [] [] → x = cond (y_pN sa but k) (Int32.ofInt 1 <<< (Int32.ofNat k &&& 31)) (Int32.ofInt 0) → aOK s_P X d a_m192 4 [some (.ref 155), some (.int but), some (.int (b ||| x)), some (.int (kI + Int32.ofInt 1))] [] H C S K0 := by
      intro H x e hx
      refine ih H _ _ (k + 1) e.1 ((y_fe e rfl).trans g1) ((y_ae e rfl).trans g2) hik (by omega) ?_ (fun H' f => hK H' (y_sq e f rfl rfl))
      rw [hb, hx]
      rfl
    refine w_go z_hl [4] [] 40 hr ?_
    intro x hx _ _
    obtain rfl := y_fi g1 hx
    refine ⟨fun q => ?_, fun q => ⟨fun q2 => ?_, fun q2 => ?_⟩⟩
    · have : nd.toInt ≤ kI.toInt := (y_ci .ge _ _).mp q
      omega
    · have q3 : kI.toInt = but.toInt := (y_ci .eq _ _).mp q2
      intro H hH
      refine next (y_st (y_rf hr) hH (by repeat (first | exact w_nil | refine w_cons (Or.inl (y_m rfl)) ?_ | refine w_cons (Or.inr (by assumption)) ?_)) (by repeat (first | exact w_nil | refine w_cons (Or.inl (y_m rfl)) ?_ | refine w_cons (Or.inr (by assumption)) ?_))) ?_
      unfold y_pN
      rw [decide_eq_true (by omega)]
      rfl
    · have q3 : ¬ (kI.toInt = but.toInt) := y_cif q2
      refine ⟨⟨by omega, by omega⟩, fun l hl len bb => ?_⟩
      obtain rfl := y_ai g2 hl
      refine ⟨fun q4 => ?_, fun q4 => ?_⟩
      · have q5 : (sa.getD kI.toNatClampNeg 0).toInt ≠ (0 : Int32).toInt := (y_ci .ne _ _).mp q4
        intro H hH
        refine next (y_st (y_rf hr) hH (by repeat (first | exact w_nil | refine w_cons (Or.inl (y_m rfl)) ?_ | refine w_cons (Or.inr (by assumption)) ?_)) (by repeat (first | exact w_nil | refine w_cons (Or.inl (y_m rfl)) ?_ | refine w_cons (Or.inr (by assumption)) ?_))) ?_
        unfold y_pN
        rw [decide_eq_false (p := y_N sa k = 0) (fun e => q5 (by rw [kc]; exact e)), Bool.and_false]
        rfl
      · have q5 : ¬ ((sa.getD kI.toNatClampNeg 0).toInt ≠ (0 : Int32).toInt) := y_cif q4
        intro H hH
        refine next (y_st (y_rf hr) hH (by repeat (first | exact w_nil | refine w_cons (Or.inl (y_m rfl)) ?_ | refine w_cons (Or.inr (by assumption)) ?_)) (by repeat (first | exact w_nil | refine w_cons (Or.inl (y_m rfl)) ?_ | refine w_cons (Or.inr (by assumption)) ?_))) ?_
        unfold y_pN
        rw [decide_eq_true (p := y_N sa k = 0) (by rw [kc] at q5; exact Decidable.not_not.mp q5), decide_eq_false (by omega), ek]
        rfl
theorem y_seenSo {h : aH} {but nd : Int32} {sa : List Int32} (hr : w_hr z_D h) (g1 : w_f h 19591 = some (.int nd)) (g2 : w_a h 160 = some (0, .inl sa)) (hK : ∀ (H : aH), y_fr h H [] [] → K0 (some (.int (y_bits (y_pS sa but) nd.toInt.toNat))) H C S) : aOK s_P X d a_m191 0 [some (.ref 155), some (.int but), none, none] [] h C S K0 := by
  have hnb := y_ndb hr g1
  refine w_go z_hl [4] [] 40 hr ?_
  intro H hH
  have e : y_fr h H [] [] := y_st (y_rf hr) hH (by repeat (first | exact w_nil | refine w_cons (Or.inl (y_m rfl)) ?_ | refine w_cons (Or.inr (by assumption)) ?_)) (by repeat (first | exact w_nil | refine w_cons (Or.inl (y_m rfl)) ?_ | refine w_cons (Or.inr (by assumption)) ?_))
  exact y_seenSo_loop nd.toInt.toNat H _ _ 0 e.1 ((y_fe e rfl).trans g1) ((y_ae e rfl).trans g2) rfl (by omega) rfl (fun H' f => hK H' (y_sq e f rfl rfl))
theorem y_seenNot {h : aH} {but nd : Int32} {sa : List Int32} (hr : w_hr z_D h) (g1 : w_f h 19591 = some (.int nd)) (g2 : w_a h 160 = some (0, .inl sa)) (hK : ∀ (H : aH), y_fr h H [] [] → K0 (some (.int (y_bits (y_pN sa but) nd.toInt.toNat))) H C S) : aOK s_P X d a_m192 0 [some (.ref 155), some (.int but), none, none] [] h C S K0 := by
  have hnb := y_ndb hr g1
  refine w_go z_hl [4] [] 40 hr ?_
  intro H hH
  have e : y_fr h H [] [] := y_st (y_rf hr) hH (by repeat (first | exact w_nil | refine w_cons (Or.inl (y_m rfl)) ?_ | refine w_cons (Or.inr (by assumption)) ?_)) (by repeat (first | exact w_nil | refine w_cons (Or.inl (y_m rfl)) ?_ | refine w_cons (Or.inr (by assumption)) ?_))
  exact y_seenNot_loop nd.toInt.toNat H _ _ 0 e.1 ((y_fe e rfl).trans g1) ((y_ae e rfl).trans g2) rfl (by omega) rfl (fun H' f => hK H' (y_sq e f rfl rfl))
theorem y_nowWith {h : aH} {node but nd : Int32} {sa : List Int32} {wl : List Int64} {b : Bool} (hr : w_hr z_D h) (g1 : w_f h 19591 = some (.int nd)) (g2 : w_a h 160 = some (0, .inl sa)) (hw : y_wl h wl) (hK : ∀ (r : Int64) (H : aH), y_fr h H [] [] → r.toInt = y_nw sa nd wl node b but → K0 (some (.long r)) H C S) : aOK s_P X (d + 2) a_m190 0 [some (.ref 155), some (.int node), some (.int (y_01 b)), some (.int but), none] [] h C S K0 := by
  have fr : ∀ {H : aH} {hf : wF} {ha : wA}, w_rel z_D h hf ha H → hf = [] → ha = [] → y_fr h H [] [] := fun r e1 e2 => by
    subst e1 e2
    exact y_w0 r
  have B : ∀ {H : aH} {x y : Int32}, y_fr h H [] [] → x = cond b (y_bt node) (Int32.ofInt 0) → y = cond b (Int32.ofInt 0) (y_bt node) → aOK s_P X (d + 2) a_m190 46 [some (.ref 155), some (.int node), some (.int (y_01 b)), some (.int but), some (.int (y_bt node))] [.int (y_bits (y_pN sa but) nd.toInt.toNat ||| y), .int (y_bits (y_pS sa but) nd.toInt.toNat ||| x), .ref 155] H C S K0 := by
    intro H x y e hx hy
    subst hx hy
    refine w_go z_hl [] [193] 30 e.1 ?_
    intro H2 h2
    have e2 := y_st e h2 (by repeat (first | exact w_nil | refine w_cons (Or.inl (y_m rfl)) ?_ | refine w_cons (Or.inr (by assumption)) ?_)) (by repeat (first | exact w_nil | refine w_cons (Or.inl (y_m rfl)) ?_ | refine w_cons (Or.inr (by assumption)) ?_))
    refine y_weighs e2.1 ((y_fe e2 rfl).trans g1) (y_wl_fr e2 (fun q => by cases q) hw) (fun r H3 f3 hr3 => ⟨fun n e => (by cases e), ?_⟩)
    have e3 := y_sq e2 f3 rfl rfl
    refine w_go z_hl [] [193] 30 e3.1 ?_
    intro H4 h4
    exact hK r H4 (y_st e3 h4 (by repeat (first | exact w_nil | refine w_cons (Or.inl (y_m rfl)) ?_ | refine w_cons (Or.inr (by assumption)) ?_)) (by repeat (first | exact w_nil | refine w_cons (Or.inl (y_m rfl)) ?_ | refine w_cons (Or.inr (by assumption)) ?_))) hr3
  have A : ∀ {H : aH}, y_fr h H [] [] → aOK s_P X (d + 2) a_m190 13 [some (.ref 155), some (.int node), some (.int (y_01 b)), some (.int but), some (.int (y_bt node))] [] H C S K0 := by
    intro H e
    refine w_go z_hl [] [191, 192] 30 e.1 ?_
    intro H2 h2
    have e2 := y_st e h2 (by repeat (first | exact w_nil | refine w_cons (Or.inl (y_m rfl)) ?_ | refine w_cons (Or.inr (by assumption)) ?_)) (by repeat (first | exact w_nil | refine w_cons (Or.inl (y_m rfl)) ?_ | refine w_cons (Or.inr (by assumption)) ?_))
    refine y_seenSo e2.1 ((y_fe e2 rfl).trans g1) ((y_ae e2 rfl).trans g2) (fun H3 f3 => ⟨fun n e => (by cases e), ?_⟩)
    have e3 := y_sq e2 f3 rfl rfl
    refine w_go z_hl [] [191, 192] 30 e3.1 ?_
    refine ⟨fun q => ?_, fun q => ?_⟩
    · intro H4 h4
      have e4 := y_st e3 h4 (by repeat (first | exact w_nil | refine w_cons (Or.inl (y_m rfl)) ?_ | refine w_cons (Or.inr (by assumption)) ?_)) (by repeat (first | exact w_nil | refine w_cons (Or.inl (y_m rfl)) ?_ | refine w_cons (Or.inr (by assumption)) ?_))
      refine y_seenNot e4.1 ((y_fe e4 rfl).trans g1) ((y_ae e4 rfl).trans g2) (fun H5 f5 => ⟨fun n e => (by cases e), ?_⟩)
      have e5 := y_sq e4 f5 rfl rfl
      refine w_go z_hl [46] [191, 192] 30 e5.1 ?_
      refine ⟨fun q2 => ?_, fun q2 => ?_⟩
      · intro H6 h6
        cases b with
        | true => exact absurd q (by decide)
        | false => exact B (y_st e5 h6 (by repeat (first | exact w_nil | refine w_cons (Or.inl (y_m rfl)) ?_ | refine w_cons (Or.inr (by assumption)) ?_)) (by repeat (first | exact w_nil | refine w_cons (Or.inl (y_m rfl)) ?_ | refine w_cons (Or.inr (by assumption)) ?_))) rfl rfl
      · cases b with
        | true => exact absurd q (by decide)
        | false => exact absurd q2 (by decide)
    · intro H4 h4
      have e4 := y_st e3 h4 (by repeat (first | exact w_nil | refine w_cons (Or.inl (y_m rfl)) ?_ | refine w_cons (Or.inr (by assumption)) ?_)) (by repeat (first | exact w_nil | refine w_cons (Or.inl (y_m rfl)) ?_ | refine w_cons (Or.inr (by assumption)) ?_))
      refine y_seenNot e4.1 ((y_fe e4 rfl).trans g1) ((y_ae e4 rfl).trans g2) (fun H5 f5 => ⟨fun n e => (by cases e), ?_⟩)
      have e5 := y_sq e4 f5 rfl rfl
      refine w_go z_hl [46] [191, 192] 30 e5.1 ?_
      refine ⟨fun q2 => ?_, fun q2 => ?_⟩
      · cases b with
        | false => exact absurd q (by decide)
        | true => exact absurd q2 (by decide)
      · intro H6 h6
        cases b with
        | true => exact B (y_st e5 h6 (by repeat (first | exact w_nil | refine w_cons (Or.inl (y_m rfl)) ?_ | refine w_cons (Or.inr (by assumption)) ?_)) (by repeat (first | exact w_nil | refine w_cons (Or.inl (y_m rfl)) ?_ | refine w_cons (Or.inr (by assumption)) ?_))) rfl rfl
        | false => exact absurd q (by decide)
  refine w_go z_hl [13] [] 30 hr ?_
  refine ⟨fun q => ?_, fun q => ?_⟩
  · have q2 : (0 : Int32).toInt ≤ node.toInt := (y_ci .ge _ _).mp q
    intro H hH
    have := A (y_st (y_rf hr) hH (by repeat (first | exact w_nil | refine w_cons (Or.inl (y_m rfl)) ?_ | refine w_cons (Or.inr (by assumption)) ?_)) (by repeat (first | exact w_nil | refine w_cons (Or.inl (y_m rfl)) ?_ | refine w_cons (Or.inr (by assumption)) ?_)))
    unfold y_bt at this
    rw [if_neg (by rw [show (0 : Int32).toInt = 0 by decide] at q2; omega)] at this
    exact this
  · have q2 : ¬ ((0 : Int32).toInt ≤ node.toInt) := y_cif q
    intro H hH
    have := A (y_st (y_rf hr) hH (by repeat (first | exact w_nil | refine w_cons (Or.inl (y_m rfl)) ?_ | refine w_cons (Or.inr (by assumption)) ?_)) (by repeat (first | exact w_nil | refine w_cons (Or.inl (y_m rfl)) ?_ | refine w_cons (Or.inr (by assumption)) ?_)))
    unfold y_bt at this
    rw [if_pos (by rw [show (0 : Int32).toInt = 0 by decide] at q2; omega)] at this
    exact this
theorem y_now {h : aH} {nd : Int32} {sa : List Int32} {wl : List Int64} (hr : w_hr z_D h) (g1 : w_f h 19591 = some (.int nd)) (g2 : w_a h 160 = some (0, .inl sa)) (hw : y_wl h wl) (hK : ∀ (r : Int64) (H : aH), y_fr h H [] [] → r.toInt = y_nw sa nd wl (Int32.ofInt (-1)) true (Int32.ofInt (-1)) → K0 (some (.long r)) H C S) : aOK s_P X (d + 3) a_m189 0 [some (.ref 155)] [] h C S K0 := by
  refine w_go z_hl [] [190] 30 hr ?_
  intro H hH
  have e : y_fr h H [] [] := y_st (y_rf hr) hH (by repeat (first | exact w_nil | refine w_cons (Or.inl (y_m rfl)) ?_ | refine w_cons (Or.inr (by assumption)) ?_)) (by repeat (first | exact w_nil | refine w_cons (Or.inl (y_m rfl)) ?_ | refine w_cons (Or.inr (by assumption)) ?_))
  refine y_nowWith (b := true) e.1 ((y_fe e rfl).trans g1) ((y_ae e rfl).trans g2) (y_wl_fr e (fun q => by cases q) hw) (fun r H2 f2 hr2 => ⟨fun n e => (by cases e), ?_⟩)
  have e2 := y_sq e f2 rfl rfl
  refine w_go z_hl [] [190] 30 e2.1 ?_
  intro H4 h4
  exact hK r H4 (y_st e2 h4 (by repeat (first | exact w_nil | refine w_cons (Or.inl (y_m rfl)) ?_ | refine w_cons (Or.inr (by assumption)) ?_)) (by repeat (first | exact w_nil | refine w_cons (Or.inl (y_m rfl)) ?_ | refine w_cons (Or.inr (by assumption)) ?_))) hr2
end WG
end PT28a
section PT28b
/-! ===== v3: the reference's chance, moves ===== -/
theorem i_abs (a b : Int32) : b &&& (a ||| b) = b := by
  apply Int32.toBitVec_inj.mp
  rw [Int32.toBitVec_and, Int32.toBitVec_or]
  ext i hi
  rw [BitVec.getElem_and, BitVec.getElem_or]
  cases a.toBitVec[i] <;> cases b.toBitVec[i] <;> rfl
theorem i_or4 (a b c e : Int32) : (a ||| b) ||| (c ||| e) = (a ||| c) ||| (b ||| e) := by ac_rfl
theorem i_orI (a : Int32) : a ||| a = a := Int32.or_self
theorem i_or0 (a : Int32) : a ||| Int32.ofInt 0 = a := by
  rw [show Int32.ofInt 0 = (0 : Int32) by decide]
  exact Int32.or_zero
theorem y_bits_m {p p' : Nat → Bool} (h : ∀ v, p' v = true → p v = true) : ∀ n, y_bits p n ||| y_bits p' n = y_bits p n
  | 0 => by
    show Int32.ofInt 0 ||| Int32.ofInt 0 = Int32.ofInt 0
    exact i_or0 _
  | n + 1 => by
    show (y_bits p n ||| cond (p n) (Int32.ofInt 1 <<< (Int32.ofNat n &&& 31)) (Int32.ofInt 0)) ||| (y_bits p' n ||| cond (p' n) (Int32.ofInt 1 <<< (Int32.ofNat n &&& 31)) (Int32.ofInt 0)) = y_bits p n ||| cond (p n) (Int32.ofInt 1 <<< (Int32.ofNat n &&& 31)) (Int32.ofInt 0)
    rw [i_or4, y_bits_m h n]
    congr 1
    cases q' : p' n with
    | false => exact i_or0 _
    | true =>
      rw [h n q']
      exact i_orI _
theorem y_sel_m {a a' b b' w : Int32} (ha : a ||| a' = a) (hb : b ||| b' = b) (h : y_sel a b w = true) : y_sel a' b' w = true := by
  unfold y_sel at h ⊢
  rw [Bool.and_eq_true] at h ⊢
  obtain ⟨h1, h2⟩ := h
  have h1 := of_decide_eq_true h1
  have h2 := of_decide_eq_true h2
  have ea : a' &&& a = a' := by
    have := i_abs a a'
    rw [ha] at this
    exact this
  have eb : b' &&& b = b' := by
    have := i_abs b b'
    rw [hb] at this
    exact this
  refine ⟨decide_eq_true ?_, decide_eq_true ?_⟩
  · calc w &&& a' = w &&& (a' &&& a) := by rw [ea]
      _ = a' &&& (w &&& a) := by ac_rfl
      _ = a' := by rw [h1, ea]
  · calc w &&& b' = w &&& (b' &&& b) := by rw [eb]
      _ = b' &&& (w &&& b) := by ac_rfl
      _ = 0 := by rw [h2]; exact Int32.and_zero
theorem y_ws_m {wl : List Int64} (h0 : ∀ x ∈ wl, 0 ≤ x.toInt) {a a' b b' : Int32} (ha : a ||| a' = a) (hb : b ||| b' = b) : ∀ n, y_ws wl a b n ≤ y_ws wl a' b' n
  | 0 => Int.le_refl 0
  | n + 1 => by
    show y_ws wl a b n + (if y_sel a b (Int32.ofNat n) then (wl.getD n 0).toInt else 0) ≤ y_ws wl a' b' n + (if y_sel a' b' (Int32.ofNat n) then (wl.getD n 0).toInt else 0)
    have ih := y_ws_m h0 ha hb n
    have hg := y_getD h0 n
    cases q : y_sel a b (Int32.ofNat n) with
    | true =>
      rw [y_sel_m ha hb q, if_pos rfl]
      omega
    | false =>
      rw [if_neg Bool.false_ne_true]
      split <;> omega
theorem y_nw_m {sa : List Int32} {nd : Int32} {wl : List Int64} {seen : Int32} (h0 : ∀ x ∈ wl, 0 ≤ x.toInt) : y_nw sa nd wl (Int32.ofInt (-1)) true (Int32.ofInt (-1)) ≤ y_nw sa nd wl (Int32.ofInt (-1)) true seen := by
  unfold y_nw
  have eb : y_bt (Int32.ofInt (-1)) = Int32.ofInt 0 := by decide
  rw [eb]
  dsimp only [cond_true]
  rw [i_or0, i_or0, i_or0, i_or0]
  refine y_ws_m h0 (y_bits_m (fun v q => ?_) _) (y_bits_m (fun v q => ?_) _) _
  · unfold y_pS at q ⊢
    rw [Bool.and_eq_true] at q ⊢
    exact ⟨by rw [decide_eq_false (by rw [show (Int32.ofInt (-1)).toInt = -1 by decide]; omega)]; rfl, q.2⟩
  · unfold y_pN at q ⊢
    rw [Bool.and_eq_true] at q ⊢
    exact ⟨by rw [decide_eq_false (by rw [show (Int32.ofInt (-1)).toInt = -1 by decide]; omega)]; rfl, q.2⟩
section WG
variable {X : aX} {C S d : Nat} {K0 : Option Value → aH → Nat → Nat → Prop}
theorem q_lowest {h : aH} (hr : w_hr z_D h) {n m : Int64} (hn : -9223372036854775808 < n.toInt) (hm : 1 ≤ m.toInt) (hk : ∀ (u l : Int64) (H : aH), y_fr h H [19587, 19588] [] → w_f H 19587 = some (.long u) → w_f H 19588 = some (.long l) → 1 ≤ l.toInt → l.toInt ≤ m.toInt → -(n.toInt.natAbs : Int) ≤ u.toInt → u.toInt ≤ n.toInt.natAbs → (0 ≤ n.toInt → 0 ≤ u.toInt) → K0 none H C S) : aOK s_P X (d + 1) a_m194 0 [some (.ref 155), some (.long n), none, some (.long m), none, none, none] [] h C S K0 := by
  refine y_lowest hr hn hm (fun g u l H hg hg1 hu hl hl1 hrel => ?_)
  have e : y_fr h H [19587, 19588] [] := y_st (y_mo (y_rf hr) rfl rfl) hrel (by repeat (first | exact w_nil | refine w_cons (Or.inl (y_m rfl)) ?_ | refine w_cons (Or.inr (by assumption)) ?_)) (by repeat (first | exact w_nil | refine w_cons (Or.inl (y_m rfl)) ?_ | refine w_cons (Or.inr (by assumption)) ?_))
  have hub : u.toInt.natAbs ≤ n.toInt.natAbs := by
    rw [hu, Int.natAbs_tdiv]
    exact Nat.div_le_self _ _
  refine hk u l H e (hrel.2.1 19587 _ rfl) (hrel.2.1 19588 _ rfl) hl1 ?_ (by omega) (by omega) (fun q => ?_)
  · rw [hl]
    exact Int.ediv_le_self _ (by omega)
  · rw [hu]
    exact Int.tdiv_nonneg q (by omega)
theorem q_weighsUp {h : aH} (hr : w_hr z_D h) (hJ : y_J h) (hK : ∀ (wl : List Int64) (H : aH), y_fr h H [] [163] → y_J H → y_wl H wl → K0 none H C S) : aOK s_P X (d + 2) a_m188 0 [some (.ref 155), none] [] h C S K0 := by
  have hJ' := hJ
  obtain ⟨q1, q2, q3, q4, q5, q6, q7⟩ := hJ'
  obtain ⟨nd, le, de, ta, n1, n2, n3, n4, c1, c2, c3, c4, c5⟩ := id q1
  obtain ⟨nd', wl, w1, w2, w3, w4, w5⟩ := q4
  obtain rfl := y_fi n1 w1
  obtain ⟨fo, z5, z6, -⟩ := w_arrI hr (o := 159) (t := 0) (n := 10) (lo := -1) (hi := 1) (by decide) rfl
  obtain ⟨b1, b2⟩ := y_ndb hr n1
  have net : y_net h nd le de ta fo := ⟨n1, n2, n3, n4, w_a_at z5, c1, c2, c3, c4⟩
  refine y_weighsUp hr net w2 w5 (fun wl' H e hw' hok => ?_)
  have net2 : y_net H nd le de ta fo := y_net_fr2 e rfl rfl net
  have hwl := y_wok_wl net2 e.1 b1 b2 hw' hok
  exact hK wl' H e ⟨j_net_e (y_fe e rfl) (y_ae e rfl) (y_ae e rfl) (y_ae e rfl) q1, j_dp_e (y_fe e rfl) (y_fe e rfl) (y_ae e rfl) q2, j_old_e (y_ae e rfl) (y_ae e rfl) (y_ae e rfl) (y_ae e rfl) (y_ae e rfl) (y_ae e rfl) q3, ⟨nd, wl', (y_fe e rfl).trans n1, hw', hwl.2.1, hwl.2.2, hok.2⟩, j_seen_e (y_fe e rfl) (y_fe e rfl) (y_ae e rfl) (y_ae e rfl) q5, j_kept_e (y_fe e rfl) (y_ae e rfl) (y_ae e rfl) (y_ae e rfl) (y_ae e rfl) q6, j_land_e (y_fe e rfl) (y_ae e rfl) q7⟩ hwl
theorem y_enters {h : aH} (hr : w_hr z_D h) {v : Int64} {rw' : Int32} (g : w_f h 19585 = some (.int rw')) (r0 : 0 ≤ rw'.toInt) (r7 : rw'.toInt ≤ 7) (hK : ∀ (H : aH) (r2 : Int32), y_fr h H [19585] [154] → w_f H 19585 = some (.int r2) → r2.toInt = rw'.toInt + 1 → K0 none H C S) : aOK s_P X d a_m197 0 [some (.ref 155), some (.long v), none] [] h C S K0 := by
  have hinc : (rw' + Int32.ofInt 1).toInt = rw'.toInt + 1 := y_inc (by omega)
  refine w_go z_hl [] [] 30 hr ?_
  intro x hx _ _
  obtain rfl := y_fi g hx
  refine ⟨⟨by omega, by omega⟩, y_l64 _, fun l hl len bb => ?_⟩
  refine ⟨rfl, y_zini (by show 0 ≤ (rw' + Int32.ofInt 1).toInt; omega) (by show (rw' + Int32.ofInt 1).toInt ≤ 8; omega), ?_⟩
  intro H hH
  exact hK H _ (y_st (y_mo (y_rf hr) rfl rfl) hH (by repeat (first | exact w_nil | refine w_cons (Or.inl (y_m rfl)) ?_ | refine w_cons (Or.inr (by assumption)) ?_)) (by repeat (first | exact w_nil | refine w_cons (Or.inl (y_m rfl)) ?_ | refine w_cons (Or.inr (by assumption)) ?_))) (hH.2.1 19585 _ rfl) hinc
theorem y_tells {h : aH} (hr : w_hr z_D h) {rw' : Int32} (g : w_f h 19585 = some (.int rw')) (r0 : 0 ≤ rw'.toInt) (r6 : rw'.toInt ≤ 6) (hK : ∀ (H : aH) (r2 : Int32), y_fr h H [19585] [154] → w_f H 19585 = some (.int r2) → r2.toInt = rw'.toInt + 2 → K0 none H C S) : aOK s_P X (d + 1) a_m196 0 [some (.ref 155)] [] h C S K0 := by
  have T16 : ∀ {G : aH} {r2 : Int32}, y_fr h G [19585] [154] → w_f G 19585 = some (.int r2) → r2.toInt = rw'.toInt + 2 → aOK s_P X (d + 1) a_m196 16 [some (.ref 155)] [] G C S K0 := by
    intro G r2 e g2 hr2
    refine w_go z_hl [] [197] 30 e.1 ?_
    intro H hH
    have f := y_st (y_rf e.1) hH (by repeat (first | exact w_nil | refine w_cons (Or.inl (y_m rfl)) ?_ | refine w_cons (Or.inr (by assumption)) ?_)) (by repeat (first | exact w_nil | refine w_cons (Or.inl (y_m rfl)) ?_ | refine w_cons (Or.inr (by assumption)) ?_))
    exact hK H r2 (y_sq e f rfl rfl) ((y_fe f rfl).trans g2) hr2
  have T8 : ∀ {G : aH} {r1 : Int32}, y_fr h G [19585] [154] → w_f G 19585 = some (.int r1) → r1.toInt = rw'.toInt + 1 → aOK s_P X (d + 1) a_m196 8 [some (.ref 155)] [] G C S K0 := by
    intro G r1 e g1 hr1
    refine w_go z_hl [] [197] 30 e.1 ?_
    intro x hx _ _
    intro H hH
    have f : y_fr G H [] [] := y_st (y_rf e.1) hH (by repeat (first | exact w_nil | refine w_cons (Or.inl (y_m rfl)) ?_ | refine w_cons (Or.inr (by assumption)) ?_)) (by repeat (first | exact w_nil | refine w_cons (Or.inl (y_m rfl)) ?_ | refine w_cons (Or.inr (by assumption)) ?_))
    refine y_enters f.1 ((y_fe f rfl).trans g1) (by omega) (by omega) (fun H2 r2 e2 g2 hr2 => ⟨fun n e => (by cases e), ?_⟩)
    exact T16 (y_sq e (y_sq (y_mo f rfl rfl) e2 rfl rfl : y_fr G H2 [19585] [154]) rfl rfl) g2 (by omega)
  refine w_go z_hl [] [197] 30 hr ?_
  intro x hx _ _
  intro H hH
  have f : y_fr h H [] [] := y_st (y_rf hr) hH (by repeat (first | exact w_nil | refine w_cons (Or.inl (y_m rfl)) ?_ | refine w_cons (Or.inr (by assumption)) ?_)) (by repeat (first | exact w_nil | refine w_cons (Or.inl (y_m rfl)) ?_ | refine w_cons (Or.inr (by assumption)) ?_))
  refine y_enters f.1 ((y_fe f rfl).trans g) (by omega) (by omega) (fun H2 r1 e2 g2 hr2 => ⟨fun n e => (by cases e), ?_⟩)
  exact T8 (y_sq (y_mo f rfl rfl) e2 rfl rfl) g2 hr2
theorem y_chance_tail {h : aH} {nd node : Int32} {sa : List Int32} {wl : List Int64} (hr : w_hr z_D h) (g1 : w_f h 19591 = some (.int nd)) (g2 : w_a h 160 = some (0, .inl sa)) (hw : y_wl h wl) (hk : ∀ (r : Int32) (H : aH), y_fr h H [19585, 19587, 19588] [154] → K0 (some (.int r)) H C S) : aOK s_P X (d + 4) a_m187 19 [some (.ref 155), some (.int node)] [] h C S K0 := by
  obtain ⟨b1, b2⟩ := y_ndb hr g1
  have T55 : ∀ {G : aH}, y_fr h G [19585, 19587, 19588] [154] → aOK s_P X (d + 4) a_m187 55 [some (.ref 155), some (.int node)] [] G C S K0 := by
    intro G e
    refine w_go z_hl [] [] 30 e.1 ?_
    intro H hH
    exact hk _ H (y_st e hH (by repeat (first | exact w_nil | refine w_cons (Or.inl (y_m rfl)) ?_ | refine w_cons (Or.inr (by assumption)) ?_)) (by repeat (first | exact w_nil | refine w_cons (Or.inl (y_m rfl)) ?_ | refine w_cons (Or.inr (by assumption)) ?_)))
  have T46 : ∀ {G : aH}, y_fr h G [19585, 19587, 19588] [154] → aOK s_P X (d + 4) a_m187 46 [some (.ref 155), some (.int node)] [] G C S K0 := by
    intro G e
    refine w_go z_hl [] [196] 30 e.1 ?_
    refine ⟨rfl, y_zini (by decide) (by decide), fun H hH => ?_⟩
    have e2 := y_st e hH (by repeat (first | exact w_nil | refine w_cons (Or.inl (y_m rfl)) ?_ | refine w_cons (Or.inr (by assumption)) ?_)) (by repeat (first | exact w_nil | refine w_cons (Or.inl (y_m rfl)) ?_ | refine w_cons (Or.inr (by assumption)) ?_))
    refine y_tells e2.1 (hH.2.1 19585 _ rfl) (by decide) (by decide) (fun H2 r2 e3 _ _ => ⟨fun n e => (by cases e), ?_⟩)
    exact T55 (y_sq e2 e3 rfl rfl)
  have T43 : ∀ {G : aH} {a b : Int64}, y_fr h G [] [] → 0 ≤ a.toInt → 1 ≤ b.toInt → aOK s_P X (d + 4) a_m187 43 [some (.ref 155), some (.int node)] [.long b, .long a, .ref 155] G C S K0 := by
    intro G a b e ha hb
    refine w_go z_hl [] [194] 30 e.1 ?_
    intro H hH
    have e2 := y_st e hH (by repeat (first | exact w_nil | refine w_cons (Or.inl (y_m rfl)) ?_ | refine w_cons (Or.inr (by assumption)) ?_)) (by repeat (first | exact w_nil | refine w_cons (Or.inl (y_m rfl)) ?_ | refine w_cons (Or.inr (by assumption)) ?_))
    refine q_lowest e2.1 (by omega) hb (fun u l H2 e3 _ _ _ _ _ _ _ => ⟨fun n e => (by cases e), ?_⟩)
    exact T46 (y_sq (y_mo e2 rfl rfl) e3 rfl rfl)
  have T39 : ∀ {G : aH} {a : Int64}, y_fr h G [] [] → 0 ≤ a.toInt → y_nw sa nd wl (Int32.ofInt (-1)) true (Int32.ofInt (-1)) ≠ 0 → aOK s_P X (d + 4) a_m187 39 [some (.ref 155), some (.int node)] [.long a, .ref 155] G C S K0 := by
    intro G a e ha hne
    refine w_go z_hl [] [189] 30 e.1 ?_
    intro H hH
    have e2 := y_st e hH (by repeat (first | exact w_nil | refine w_cons (Or.inl (y_m rfl)) ?_ | refine w_cons (Or.inr (by assumption)) ?_)) (by repeat (first | exact w_nil | refine w_cons (Or.inl (y_m rfl)) ?_ | refine w_cons (Or.inr (by assumption)) ?_))
    refine y_now e2.1 ((y_fe e2 rfl).trans g1) ((y_ae e2 rfl).trans g2) (y_wl_fr e2 (fun q => by cases q) hw) (fun r H2 e3 hr3 => ⟨fun n e => (by cases e), ?_⟩)
    have := y_nw_b (sa := sa) (node := Int32.ofInt (-1)) (so := true) (but := Int32.ofInt (-1)) hw b1 b2
    exact T43 (y_sq e2 e3 rfl rfl) ha (by omega)
  have T31 : ∀ {G : aH}, y_fr h G [] [] → y_nw sa nd wl (Int32.ofInt (-1)) true (Int32.ofInt (-1)) ≠ 0 → aOK s_P X (d + 4) a_m187 31 [some (.ref 155), some (.int node)] [] G C S K0 := by
    intro G e hne
    refine w_go z_hl [] [190] 30 e.1 ?_
    intro H hH
    have e2 := y_st e hH (by repeat (first | exact w_nil | refine w_cons (Or.inl (y_m rfl)) ?_ | refine w_cons (Or.inr (by assumption)) ?_)) (by repeat (first | exact w_nil | refine w_cons (Or.inl (y_m rfl)) ?_ | refine w_cons (Or.inr (by assumption)) ?_))
    refine y_nowWith (b := true) e2.1 ((y_fe e2 rfl).trans g1) ((y_ae e2 rfl).trans g2) (y_wl_fr e2 (fun q => by cases q) hw) (fun r H2 e3 hr3 => ⟨fun n e => (by cases e), ?_⟩)
    have := y_nw_b (sa := sa) (node := node) (so := true) (but := Int32.ofInt (-1)) hw b1 b2
    exact T39 (y_sq e2 e3 rfl rfl) (by omega) hne
  have T23 : ∀ {G : aH} {r : Int64}, y_fr h G [] [] → r.toInt = y_nw sa nd wl (Int32.ofInt (-1)) true (Int32.ofInt (-1)) → aOK s_P X (d + 4) a_m187 23 [some (.ref 155), some (.int node)] [.long r] G C S K0 := by
    intro G r e hr3
    refine w_go z_hl [31] [] 30 e.1 ?_
    refine ⟨fun q => ?_, fun q => ?_⟩
    · have q2 : r.toInt ≠ (Int64.ofNat 0).toInt := (y_cl .ne _ _).mp q
      intro H hH
      exact T31 (y_st e hH (by repeat (first | exact w_nil | refine w_cons (Or.inl (y_m rfl)) ?_ | refine w_cons (Or.inr (by assumption)) ?_)) (by repeat (first | exact w_nil | refine w_cons (Or.inl (y_m rfl)) ?_ | refine w_cons (Or.inr (by assumption)) ?_))) (fun e0 => q2 (by rw [hr3, e0]; decide))
    · intro H hH
      exact hk _ H (y_st (y_mo e rfl rfl) hH (by repeat (first | exact w_nil | refine w_cons (Or.inl (y_m rfl)) ?_ | refine w_cons (Or.inr (by assumption)) ?_)) (by repeat (first | exact w_nil | refine w_cons (Or.inl (y_m rfl)) ?_ | refine w_cons (Or.inr (by assumption)) ?_)))
  refine w_go z_hl [] [189] 30 hr ?_
  intro H hH
  have e2 : y_fr h H [] [] := y_st (y_rf hr) hH (by repeat (first | exact w_nil | refine w_cons (Or.inl (y_m rfl)) ?_ | refine w_cons (Or.inr (by assumption)) ?_)) (by repeat (first | exact w_nil | refine w_cons (Or.inl (y_m rfl)) ?_ | refine w_cons (Or.inr (by assumption)) ?_))
  refine y_now e2.1 ((y_fe e2 rfl).trans g1) ((y_ae e2 rfl).trans g2) (y_wl_fr e2 (fun q => by cases q) hw) (fun r H2 e3 hr3 => ⟨fun n e => (by cases e), ?_⟩)
  exact T23 (y_sq e2 e3 rfl rfl) hr3
theorem p_chance {h : aH} (hr : w_hr z_D h) (hJ : y_J h) {node : Int32} (hk : ∀ (r : Int32) (H : aH), y_fr h H [19584, 19585, 19587, 19588] [154, 163] → y_J H → K0 (some (.int r)) H C S) : aOK s_P X (d + 4) a_m187 0 [some (.ref 155), some (.int node)] [] h C S K0 := by
  obtain ⟨nd, sm, so, sa, s1, s2, s3, s4, s5⟩ := id hJ.2.2.2.2.1
  have T10 : ∀ {G : aH} {b : Bool}, y_fr h G [19584] [] → aOK s_P X (d + 4) a_m187 10 [some (.ref 155), some (.int node)] [.int (y_01 b)] G C S K0 := by
    intro G b e
    refine w_go z_hl [] [188] 30 e.1 ?_
    refine ⟨fun _ => ?_, fun _ => fun H hH => ?_⟩
    · intro H hH
      have e2 := y_st e hH (by repeat (first | exact w_nil | refine w_cons (Or.inl (y_m rfl)) ?_ | refine w_cons (Or.inr (by assumption)) ?_)) (by repeat (first | exact w_nil | refine w_cons (Or.inl (y_m rfl)) ?_ | refine w_cons (Or.inr (by assumption)) ?_))
      have J2 := y_J_fr e2 rfl rfl hJ
      refine q_weighsUp e2.1 J2 (fun wl H2 e3 J3 hw => ⟨fun n e => (by cases e), ?_⟩)
      have e4 : y_fr h H2 [19584] [163] := y_sq (y_mo e2 rfl rfl) e3 rfl rfl
      refine y_chance_tail e4.1 ((y_fe e4 rfl).trans s1) ((y_ae e4 rfl).trans s4) hw (fun r H5 e5 => ?_)
      exact hk r H5 (y_sq (y_mo e4 rfl rfl) e5 rfl rfl) (y_J_fr e5 rfl rfl J3)
    · have e2 := y_st e hH (by repeat (first | exact w_nil | refine w_cons (Or.inl (y_m rfl)) ?_ | refine w_cons (Or.inr (by assumption)) ?_)) (by repeat (first | exact w_nil | refine w_cons (Or.inl (y_m rfl)) ?_ | refine w_cons (Or.inr (by assumption)) ?_))
      exact hk _ H (y_mo e2 rfl rfl) (y_J_fr e2 rfl rfl hJ)
  refine w_go z_hl [] [178] 30 hr ?_
  refine ⟨rfl, y_zini (by decide) (by decide), fun H1 h1 => ?_⟩
  have e1 : y_fr h H1 [19584] [] := y_st (y_mo (y_rf hr) rfl rfl) h1 (by repeat (first | exact w_nil | refine w_cons (Or.inl (y_m rfl)) ?_ | refine w_cons (Or.inr (by assumption)) ?_)) (by repeat (first | exact w_nil | refine w_cons (Or.inl (y_m rfl)) ?_ | refine w_cons (Or.inr (by assumption)) ?_))
  refine q_isNode (v := node) e1.1 ((y_fe e1 rfl).trans s1) (fun H2 v h2 hv hv2 hvc => ⟨fun n e => (by cases e), ?_⟩) (fun H2 h2 => ⟨fun n e => (by cases e), ?_⟩)
  · exact T10 (y_sq e1 h2 rfl rfl)
  · exact T10 (y_sq e1 h2 rfl rfl)
end WG
end PT28b
section PT28c
/-! ===== v3: the reference's moved, moves, most ===== -/
theorem y_lsub {a b : Int64} (h1 : -9223372036854775808 ≤ a.toInt - b.toInt) (h2 : a.toInt - b.toInt ≤ 9223372036854775807) : (a - b).toInt = a.toInt - b.toInt := by
  rw [Int64.toInt_sub]
  exact Int.bmod_eq_of_le (by omega) (by omega)
theorem y_p8 {a b : Int} (a0 : 0 ≤ a) (a8 : a ≤ 100000000) (b0 : 0 ≤ b) (b8 : b ≤ 100000000) : 0 ≤ a * b ∧ a * b ≤ 10000000000000000 := ⟨Int.mul_nonneg a0 b0, by
  have := Int.mul_le_mul a8 b8 b0 (by decide)
  omega⟩
theorem y_m8 {a b : Int64} (a0 : 0 ≤ a.toInt) (a8 : a.toInt ≤ 100000000) (b0 : 0 ≤ b.toInt) (b8 : b.toInt ≤ 100000000) : (a * b).toInt = a.toInt * b.toInt := by
  have := y_p8 a0 a8 b0 b8
  exact y_mul (by omega) (by omega)
section WG
variable {X : aX} {C S d : Nat} {K0 : Option Value → aH → Nat → Nat → Prop}
theorem y_moved {h : aH} {nd claim seen : Int32} {sa : List Int32} {wl : List Int64} (hr : w_hr z_D h) (g1 : w_f h 19591 = some (.int nd)) (g2 : w_a h 160 = some (0, .inl sa)) (hw : y_wl h wl) (hne : y_nw sa nd wl (Int32.ofInt (-1)) true (Int32.ofInt (-1)) ≠ 0) (hk : ∀ (u l : Int64) (H : aH), y_fr h H [19587, 19588] [] → w_f H 19587 = some (.long u) → w_f H 19588 = some (.long l) → 1 ≤ l.toInt → -10000000000000000 ≤ u.toInt → u.toInt ≤ 10000000000000000 → K0 none H C S) : aOK s_P X (d + 4) a_m201 0 [some (.ref 155), some (.int claim), some (.int seen), none, none, none, none, none, none, none, none] [] h C S K0 := by
  obtain ⟨b1, b2⟩ := y_ndb hr g1
  have bb := fun (node : Int32) (but : Int32) => y_nw_b (sa := sa) (node := node) (so := true) (but := but) hw b1 b2
  have hm := y_nw_m (sa := sa) (nd := nd) (seen := seen) hw.2.1
  have T51 : ∀ {G : aH} {u l : Int64} {o3 o5 o7 o9 : Option Value}, y_fr h G [19587, 19588] [] → w_f G 19587 = some (.long u) → w_f G 19588 = some (.long l) → 1 ≤ l.toInt → -10000000000000000 ≤ u.toInt → u.toInt ≤ 10000000000000000 → aOK s_P X (d + 4) a_m201 51 [some (.ref 155), some (.int claim), some (.int seen), o3, none, o5, none, o7, none, o9, none] [] G C S K0 := by
    intro G u l o3 o5 o7 o9 e f1 f2 f3 f4 f5
    refine w_go z_hl [] [] 30 e.1 ?_
    intro H hH
    have f : y_fr G H [] [] := y_st (y_rf e.1) hH (by repeat (first | exact w_nil | refine w_cons (Or.inl (y_m rfl)) ?_ | refine w_cons (Or.inr (by assumption)) ?_)) (by repeat (first | exact w_nil | refine w_cons (Or.inl (y_m rfl)) ?_ | refine w_cons (Or.inr (by assumption)) ?_))
    exact hk u l H (y_sq e f rfl rfl) ((y_fe f rfl).trans f1) ((y_fe f rfl).trans f2) f3 f4 f5
  have T30 : ∀ {G : aH} {a b c e' : Int64}, y_fr h G [] [] → 0 ≤ a.toInt → a.toInt ≤ 100000000 → 1 ≤ b.toInt → b.toInt ≤ 100000000 → 0 ≤ c.toInt → c.toInt ≤ 100000000 → 1 ≤ e'.toInt → e'.toInt ≤ 100000000 → aOK s_P X (d + 4) a_m201 30 [some (.ref 155), some (.int claim), some (.int seen), some (.long a), none, some (.long b), none, some (.long c), none, none, none] [.long e'] G C S K0 := by
    intro G a b c e' e a0 a8 b0 b8 c0 c8 e0 e8
    refine w_go z_hl [] [194] 40 e.1 ?_
    intro H hH
    have e2 := y_st e hH (by repeat (first | exact w_nil | refine w_cons (Or.inl (y_m rfl)) ?_ | refine w_cons (Or.inr (by assumption)) ?_)) (by repeat (first | exact w_nil | refine w_cons (Or.inl (y_m rfl)) ?_ | refine w_cons (Or.inr (by assumption)) ?_))
    have p1 := y_p8 a0 a8 (show 0 ≤ e'.toInt by omega) e8
    have p2 := y_p8 c0 c8 (show 0 ≤ b.toInt by omega) b8
    have p3 := y_p8 (show 0 ≤ b.toInt by omega) b8 (show 0 ≤ e'.toInt by omega) e8
    have m1 := y_m8 a0 a8 (show 0 ≤ e'.toInt by omega) e8
    have m2 := y_m8 c0 c8 (show 0 ≤ b.toInt by omega) b8
    have m3 := y_m8 (show 0 ≤ b.toInt by omega) b8 (show 0 ≤ e'.toInt by omega) e8
    have p4 : 1 ≤ b.toInt * e'.toInt := Int.mul_pos (by omega) (by omega)
    have s1 : (a * e' - c * b).toInt = a.toInt * e'.toInt - c.toInt * b.toInt := by
      rw [y_lsub (by rw [m1, m2]; omega) (by rw [m1, m2]; omega), m1, m2]
    refine q_lowest (n := a * e' - c * b) (m := b * e') e2.1 (by rw [s1]; omega) (by rw [m3]; exact p4) (fun u l H2 e3 f1 f2 f3 f4 f5 f6 f7 => ⟨fun n e => (by cases e), ?_⟩)
    rw [s1] at f5 f6
    exact T51 (y_sq (y_mo e2 rfl rfl) e3 rfl rfl) f1 f2 f3 (by omega) (by omega)
  have T21 : ∀ {G : aH} {a b c : Int64}, y_fr h G [] [] → 0 ≤ a.toInt → a.toInt ≤ 100000000 → 1 ≤ b.toInt → b.toInt ≤ 100000000 → 0 ≤ c.toInt → c.toInt ≤ 100000000 → aOK s_P X (d + 4) a_m201 21 [some (.ref 155), some (.int claim), some (.int seen), some (.long a), none, some (.long b), none, none, none, none, none] [.long c] G C S K0 := by
    intro G a b c e a0 a8 b0 b8 c0 c8
    refine w_go z_hl [] [190] 40 e.1 ?_
    intro H hH
    have e2 := y_st e hH (by repeat (first | exact w_nil | refine w_cons (Or.inl (y_m rfl)) ?_ | refine w_cons (Or.inr (by assumption)) ?_)) (by repeat (first | exact w_nil | refine w_cons (Or.inl (y_m rfl)) ?_ | refine w_cons (Or.inr (by assumption)) ?_))
    refine y_nowWith (b := true) e2.1 ((y_fe e2 rfl).trans g1) ((y_ae e2 rfl).trans g2) (y_wl_fr e2 (fun q => by cases q) hw) (fun r H2 e3 hr3 => ⟨fun n e => (by cases e), ?_⟩)
    have q1 := bb (Int32.ofInt (-1)) seen
    have q2 := bb (Int32.ofInt (-1)) (Int32.ofInt (-1))
    exact T30 (y_sq e2 e3 rfl rfl) a0 a8 b0 b8 c0 c8 (by omega) (by omega)
  have T12 : ∀ {G : aH} {a b : Int64}, y_fr h G [] [] → 0 ≤ a.toInt → a.toInt ≤ 100000000 → 1 ≤ b.toInt → b.toInt ≤ 100000000 → aOK s_P X (d + 4) a_m201 12 [some (.ref 155), some (.int claim), some (.int seen), some (.long a), none, none, none, none, none, none, none] [.long b] G C S K0 := by
    intro G a b e a0 a8 b0 b8
    refine w_go z_hl [] [190] 40 e.1 ?_
    intro H hH
    have e2 := y_st e hH (by repeat (first | exact w_nil | refine w_cons (Or.inl (y_m rfl)) ?_ | refine w_cons (Or.inr (by assumption)) ?_)) (by repeat (first | exact w_nil | refine w_cons (Or.inl (y_m rfl)) ?_ | refine w_cons (Or.inr (by assumption)) ?_))
    refine y_nowWith (b := true) e2.1 ((y_fe e2 rfl).trans g1) ((y_ae e2 rfl).trans g2) (y_wl_fr e2 (fun q => by cases q) hw) (fun r H2 e3 hr3 => ⟨fun n e => (by cases e), ?_⟩)
    have q1 := bb claim seen
    exact T21 (y_sq e2 e3 rfl rfl) a0 a8 b0 b8 (by omega) (by omega)
  have T7 : ∀ {G : aH} {a : Int64}, y_fr h G [] [] → 0 ≤ a.toInt → a.toInt ≤ 100000000 → aOK s_P X (d + 4) a_m201 7 [some (.ref 155), some (.int claim), some (.int seen), none, none, none, none, none, none, none, none] [.long a] G C S K0 := by
    intro G a e a0 a8
    refine w_go z_hl [] [189] 40 e.1 ?_
    intro H hH
    have e2 := y_st e hH (by repeat (first | exact w_nil | refine w_cons (Or.inl (y_m rfl)) ?_ | refine w_cons (Or.inr (by assumption)) ?_)) (by repeat (first | exact w_nil | refine w_cons (Or.inl (y_m rfl)) ?_ | refine w_cons (Or.inr (by assumption)) ?_))
    refine y_now e2.1 ((y_fe e2 rfl).trans g1) ((y_ae e2 rfl).trans g2) (y_wl_fr e2 (fun q => by cases q) hw) (fun r H2 e3 hr3 => ⟨fun n e => (by cases e), ?_⟩)
    have q1 := bb (Int32.ofInt (-1)) (Int32.ofInt (-1))
    exact T12 (y_sq e2 e3 rfl rfl) a0 a8 (by omega) (by omega)
  refine w_go z_hl [] [190] 40 hr ?_
  intro H hH
  have e2 : y_fr h H [] [] := y_st (y_rf hr) hH (by repeat (first | exact w_nil | refine w_cons (Or.inl (y_m rfl)) ?_ | refine w_cons (Or.inr (by assumption)) ?_)) (by repeat (first | exact w_nil | refine w_cons (Or.inl (y_m rfl)) ?_ | refine w_cons (Or.inr (by assumption)) ?_))
  refine y_nowWith (b := true) e2.1 ((y_fe e2 rfl).trans g1) ((y_ae e2 rfl).trans g2) (y_wl_fr e2 (fun q => by cases q) hw) (fun r H2 e3 hr3 => ⟨fun n e => (by cases e), ?_⟩)
  have q1 := bb claim (Int32.ofInt (-1))
  exact T7 (y_sq e2 e3 rfl rfl) (by omega) (by omega)
theorem y_moves_tail {h : aH} {nd claim seen : Int32} {sa : List Int32} {wl : List Int64} (hr : w_hr z_D h) (g1 : w_f h 19591 = some (.int nd)) (g2 : w_a h 160 = some (0, .inl sa)) (hw : y_wl h wl) (hk : ∀ (r : Int32) (H : aH), y_fr h H [19585, 19587, 19588] [154] → K0 (some (.int r)) H C S) : aOK s_P X (d + 5) a_m200 41 [some (.ref 155), some (.int claim), some (.int seen)] [] h C S K0 := by
  have T68 : ∀ {G : aH}, y_fr h G [19585, 19587, 19588] [154] → aOK s_P X (d + 5) a_m200 68 [some (.ref 155), some (.int claim), some (.int seen)] [] G C S K0 := by
    intro G e
    refine w_go z_hl [] [] 30 e.1 ?_
    intro x hx _ _
    refine ⟨fun _ => ⟨fun _ => fun H hH => ?_, fun _ => fun H hH => ?_⟩, fun _ => fun H hH => ?_⟩
    · exact hk _ H (y_st e hH (by repeat (first | exact w_nil | refine w_cons (Or.inl (y_m rfl)) ?_ | refine w_cons (Or.inr (by assumption)) ?_)) (by repeat (first | exact w_nil | refine w_cons (Or.inl (y_m rfl)) ?_ | refine w_cons (Or.inr (by assumption)) ?_)))
    · exact hk _ H (y_st e hH (by repeat (first | exact w_nil | refine w_cons (Or.inl (y_m rfl)) ?_ | refine w_cons (Or.inr (by assumption)) ?_)) (by repeat (first | exact w_nil | refine w_cons (Or.inl (y_m rfl)) ?_ | refine w_cons (Or.inr (by assumption)) ?_)))
    · exact hk _ H (y_st e hH (by repeat (first | exact w_nil | refine w_cons (Or.inl (y_m rfl)) ?_ | refine w_cons (Or.inr (by assumption)) ?_)) (by repeat (first | exact w_nil | refine w_cons (Or.inl (y_m rfl)) ?_ | refine w_cons (Or.inr (by assumption)) ?_)))
  have T59 : ∀ {G : aH}, y_fr h G [19585, 19587, 19588] [154] → aOK s_P X (d + 5) a_m200 59 [some (.ref 155), some (.int claim), some (.int seen)] [] G C S K0 := by
    intro G e
    refine w_go z_hl [] [196] 30 e.1 ?_
    refine ⟨rfl, y_zini (by decide) (by decide), fun H hH => ?_⟩
    have e2 := y_st e hH (by repeat (first | exact w_nil | refine w_cons (Or.inl (y_m rfl)) ?_ | refine w_cons (Or.inr (by assumption)) ?_)) (by repeat (first | exact w_nil | refine w_cons (Or.inl (y_m rfl)) ?_ | refine w_cons (Or.inr (by assumption)) ?_))
    refine y_tells e2.1 (hH.2.1 19585 _ rfl) (by decide) (by decide) (fun H2 r2 e3 _ _ => ⟨fun n e => (by cases e), ?_⟩)
    exact T68 (y_sq e2 e3 rfl rfl)
  have T45 : ∀ {G : aH} {r : Int64}, y_fr h G [] [] → r.toInt = y_nw sa nd wl (Int32.ofInt (-1)) true (Int32.ofInt (-1)) → aOK s_P X (d + 5) a_m200 45 [some (.ref 155), some (.int claim), some (.int seen)] [.long r] G C S K0 := by
    intro G r e hr3
    refine w_go z_hl [] [201] 30 e.1 ?_
    refine ⟨fun q => ?_, fun q => ?_⟩
    · have q2 : r.toInt ≠ (Int64.ofNat 0).toInt := (y_cl .ne _ _).mp q
      intro H hH
      have e2 := y_st e hH (by repeat (first | exact w_nil | refine w_cons (Or.inl (y_m rfl)) ?_ | refine w_cons (Or.inr (by assumption)) ?_)) (by repeat (first | exact w_nil | refine w_cons (Or.inl (y_m rfl)) ?_ | refine w_cons (Or.inr (by assumption)) ?_))
      refine y_moved e2.1 ((y_fe e2 rfl).trans g1) ((y_ae e2 rfl).trans g2) (y_wl_fr e2 (fun q => by cases q) hw) (fun e0 => q2 (by rw [hr3, e0]; decide)) (fun u l H2 e3 _ _ _ _ _ => ⟨fun n e => (by cases e), ?_⟩)
      exact T59 (y_sq (y_mo e2 rfl rfl) e3 rfl rfl)
    · intro H hH
      exact hk _ H (y_st (y_mo e rfl rfl) hH (by repeat (first | exact w_nil | refine w_cons (Or.inl (y_m rfl)) ?_ | refine w_cons (Or.inr (by assumption)) ?_)) (by repeat (first | exact w_nil | refine w_cons (Or.inl (y_m rfl)) ?_ | refine w_cons (Or.inr (by assumption)) ?_)))
  refine w_go z_hl [] [189] 30 hr ?_
  intro H hH
  have e2 : y_fr h H [] [] := y_st (y_rf hr) hH (by repeat (first | exact w_nil | refine w_cons (Or.inl (y_m rfl)) ?_ | refine w_cons (Or.inr (by assumption)) ?_)) (by repeat (first | exact w_nil | refine w_cons (Or.inl (y_m rfl)) ?_ | refine w_cons (Or.inr (by assumption)) ?_))
  refine y_now e2.1 ((y_fe e2 rfl).trans g1) ((y_ae e2 rfl).trans g2) (y_wl_fr e2 (fun q => by cases q) hw) (fun r H2 e3 hr3 => ⟨fun n e => (by cases e), ?_⟩)
  exact T45 (y_sq e2 e3 rfl rfl) hr3
theorem p_moves {h : aH} (hr : w_hr z_D h) (hJ : y_J h) {claim seen : Int32} (hk : ∀ (r : Int32) (H : aH), y_fr h H [19584, 19585, 19587, 19588] [154, 163] → y_J H → K0 (some (.int r)) H C S) : aOK s_P X (d + 5) a_m200 0 [some (.ref 155), some (.int claim), some (.int seen)] [] h C S K0 := by
  obtain ⟨nd, sm, so, sa, s1, s2, s3, s4, s5⟩ := id hJ.2.2.2.2.1
  obtain ⟨b1, b2⟩ := y_ndb hr s1
  have out : ∀ {G : aH} {r : Int32}, y_fr h G [19584] [] → K0 (some (.int r)) G C S := fun g => hk _ _ (y_mo g rfl rfl) (y_J_fr g rfl rfl hJ)
  have T18 : ∀ {G : aH} {v : Nat}, y_fr h G [19584] [] → seen.toInt = v → v < 10 → aOK s_P X (d + 5) a_m200 18 [some (.ref 155), some (.int claim), some (.int seen)] [.int (y_01 true)] G C S K0 := by
    intro G v e hv hv10
    refine w_go z_hl [] [188] 30 e.1 ?_
    refine ⟨fun q => absurd q (by decide), fun _ => ?_⟩
    refine ⟨⟨by omega, by omega⟩, fun l hl len bb => ⟨fun _ => fun H hH => out (y_st e hH (by repeat (first | exact w_nil | refine w_cons (Or.inl (y_m rfl)) ?_ | refine w_cons (Or.inr (by assumption)) ?_)) (by repeat (first | exact w_nil | refine w_cons (Or.inl (y_m rfl)) ?_ | refine w_cons (Or.inr (by assumption)) ?_))), fun _ => ⟨fun _ => ?_, fun _ => fun H hH => out (y_st e hH (by repeat (first | exact w_nil | refine w_cons (Or.inl (y_m rfl)) ?_ | refine w_cons (Or.inr (by assumption)) ?_)) (by repeat (first | exact w_nil | refine w_cons (Or.inl (y_m rfl)) ?_ | refine w_cons (Or.inr (by assumption)) ?_)))⟩⟩⟩
    intro H hH
    have e2 := y_st e hH (by repeat (first | exact w_nil | refine w_cons (Or.inl (y_m rfl)) ?_ | refine w_cons (Or.inr (by assumption)) ?_)) (by repeat (first | exact w_nil | refine w_cons (Or.inl (y_m rfl)) ?_ | refine w_cons (Or.inr (by assumption)) ?_))
    have J2 := y_J_fr e2 rfl rfl hJ
    refine q_weighsUp e2.1 J2 (fun wl H2 e3 J3 hw => ⟨fun n e => (by cases e), ?_⟩)
    have e4 : y_fr h H2 [19584] [163] := y_sq (y_mo e2 rfl rfl) e3 rfl rfl
    refine y_moves_tail e4.1 ((y_fe e4 rfl).trans s1) ((y_ae e4 rfl).trans s4) hw (fun r H5 e5 => ?_)
    exact hk r H5 (y_sq (y_mo e4 rfl rfl) e5 rfl rfl) (y_J_fr e5 rfl rfl J3)
  have T18n : ∀ {G : aH}, y_fr h G [19584] [] → aOK s_P X (d + 5) a_m200 18 [some (.ref 155), some (.int claim), some (.int seen)] [.int (y_01 false)] G C S K0 := by
    intro G e
    refine w_go z_hl [] [188] 30 e.1 ?_
    exact ⟨fun _ => fun H hH => out (y_st e hH (by repeat (first | exact w_nil | refine w_cons (Or.inl (y_m rfl)) ?_ | refine w_cons (Or.inr (by assumption)) ?_)) (by repeat (first | exact w_nil | refine w_cons (Or.inl (y_m rfl)) ?_ | refine w_cons (Or.inr (by assumption)) ?_))), fun q => absurd q (by decide)⟩
  have T10 : ∀ {G : aH} {b : Bool}, y_fr h G [19584] [] → aOK s_P X (d + 5) a_m200 10 [some (.ref 155), some (.int claim), some (.int seen)] [.int (y_01 b)] G C S K0 := by
    intro G b e
    refine w_go z_hl [] [178] 30 e.1 ?_
    refine ⟨fun _ => fun H hH => out (y_st e hH (by repeat (first | exact w_nil | refine w_cons (Or.inl (y_m rfl)) ?_ | refine w_cons (Or.inr (by assumption)) ?_)) (by repeat (first | exact w_nil | refine w_cons (Or.inl (y_m rfl)) ?_ | refine w_cons (Or.inr (by assumption)) ?_))), fun _ => fun H hH => ?_⟩
    have e2 := y_st e hH (by repeat (first | exact w_nil | refine w_cons (Or.inl (y_m rfl)) ?_ | refine w_cons (Or.inr (by assumption)) ?_)) (by repeat (first | exact w_nil | refine w_cons (Or.inl (y_m rfl)) ?_ | refine w_cons (Or.inr (by assumption)) ?_))
    refine q_isNode (v := seen) e2.1 ((y_fe e2 rfl).trans s1) (fun H2 v h2 hv hv2 hvc => ⟨fun n e => (by cases e), ?_⟩) (fun H2 h2 => ⟨fun n e => (by cases e), ?_⟩)
    · exact T18 (y_sq e2 h2 rfl rfl) hv (by omega)
    · exact T18n (y_sq e2 h2 rfl rfl)
  refine w_go z_hl [] [178] 30 hr ?_
  refine ⟨rfl, y_zini (by decide) (by decide), fun H1 h1 => ?_⟩
  have e1 : y_fr h H1 [19584] [] := y_st (y_mo (y_rf hr) rfl rfl) h1 (by repeat (first | exact w_nil | refine w_cons (Or.inl (y_m rfl)) ?_ | refine w_cons (Or.inr (by assumption)) ?_)) (by repeat (first | exact w_nil | refine w_cons (Or.inl (y_m rfl)) ?_ | refine w_cons (Or.inr (by assumption)) ?_))
  refine q_isNode (v := claim) e1.1 ((y_fe e1 rfl).trans s1) (fun H2 v h2 hv hv2 hvc => ⟨fun n e => (by cases e), ?_⟩) (fun H2 h2 => ⟨fun n e => (by cases e), ?_⟩)
  · exact T10 (y_sq e1 h2 rfl rfl)
  · exact T10 (y_sq e1 h2 rfl rfl)
theorem y_most_loop {nd claim sm : Int32} {sa : List Int32} {wl : List Int64} (m0 : 0 ≤ sm.toInt) (m10 : sm.toInt ≤ 10) (hne : y_nw sa nd wl (Int32.ofInt (-1)) true (Int32.ofInt (-1)) ≠ 0) : ∀ (t : Nat) (h : aH) (best kI : Int32) (bu bl : Int64) (k : Nat) (o8 : Option Value), w_hr z_D h → w_f h 19591 = some (.int nd) → w_f h 19598 = some (.int sm) → w_a h 160 = some (0, .inl sa) → y_wl h wl → kI.toInt = k → (k : Int) + t = sm.toInt → 1 ≤ bl.toInt →
    (∀ (r : Int32) (H : aH), y_fr h H [19585, 19587, 19588] [154, 155] → K0 (some (.int r)) H C S) →
    aOK s_P X (d + 5) a_m202 66 [some (.ref 155), some (.int claim), some (.int best), some (.long bu), none, some (.long bl), none, some (.int kI), o8, none] [] h C S K0 := by
  intro t
  induction t with
  | zero =>
    intro h best kI bu bl k o8 hr g1 g2 g3 hw hk hkt hbl hK
    have T169 : ∀ {G : aH}, y_fr h G [19585, 19587, 19588] [154, 155] → aOK s_P X (d + 5) a_m202 169 [some (.ref 155), some (.int claim), some (.int best), some (.long bu), none, some (.long bl), none, some (.int kI), o8, none] [] G C S K0 := by
      intro G e
      refine w_go z_hl [] [] 30 e.1 ?_
      intro H hH
      exact hK _ H (y_st e hH (by repeat (first | exact w_nil | refine w_cons (Or.inl (y_m rfl)) ?_ | refine w_cons (Or.inr (by assumption)) ?_)) (by repeat (first | exact w_nil | refine w_cons (Or.inl (y_m rfl)) ?_ | refine w_cons (Or.inr (by assumption)) ?_)))
    have T163 : ∀ {G : aH} {r1 : Int32}, y_fr h G [19585, 19587, 19588] [154, 155] → w_f G 19585 = some (.int r1) → r1.toInt = 1 → aOK s_P X (d + 5) a_m202 163 [some (.ref 155), some (.int claim), some (.int best), some (.long bu), none, some (.long bl), none, some (.int kI), o8, none] [] G C S K0 := by
      intro G r1 e f1 hr1
      refine w_go z_hl [] [197] 30 e.1 ?_
      intro H hH
      have f : y_fr G H [] [] := y_st (y_rf e.1) hH (by repeat (first | exact w_nil | refine w_cons (Or.inl (y_m rfl)) ?_ | refine w_cons (Or.inr (by assumption)) ?_)) (by repeat (first | exact w_nil | refine w_cons (Or.inl (y_m rfl)) ?_ | refine w_cons (Or.inr (by assumption)) ?_))
      refine y_enters f.1 ((y_fe f rfl).trans f1) (by omega) (by omega) (fun H2 r2 e2 _ _ => ⟨fun n e => (by cases e), ?_⟩)
      exact T169 (y_sq (y_sq e f rfl rfl) e2 rfl rfl)
    refine w_go z_hl [66] [197] 30 hr ?_
    intro x hx _ _
    obtain rfl := y_fi g2 hx
    refine ⟨fun q => ?_, fun q => ?_⟩
    · refine ⟨rfl, y_zini (by decide) (by decide), fun H hH => ?_⟩
      have e : y_fr h H [19585, 19587, 19588] [154, 155] := y_st (y_mo (y_rf hr) rfl rfl) hH (by repeat (first | exact w_nil | refine w_cons (Or.inl (y_m rfl)) ?_ | refine w_cons (Or.inr (by assumption)) ?_)) (by repeat (first | exact w_nil | refine w_cons (Or.inl (y_m rfl)) ?_ | refine w_cons (Or.inr (by assumption)) ?_))
      refine y_enters e.1 (hH.2.1 19585 _ rfl) (by decide) (by decide) (fun H2 r2 e2 f2 hr2 => ⟨fun n e => (by cases e), ?_⟩)
      exact T163 (y_sq e e2 rfl rfl) f2 (by rw [hr2]; decide)
    · have : ¬ (sm.toInt ≤ kI.toInt) := y_cif q
      omega
  | succ t ih =>
    intro h best kI bu bl k o8 hr g1 g2 g3 hw hk hkt hbl hK
    have hik : (kI + Int32.ofInt 1).toInt = ((k + 1 : Nat) : Int) := by rw [y_inc (by omega), hk]; rfl
    have next : ∀ {H : aH} {best' : Int32} {bu' bl' : Int64} {o : Option Value}, y_fr h H [19587, 19588] [155] → 1 ≤ bl'.toInt → aOK s_P X (d + 5) a_m202 66 [some (.ref 155), some (.int claim), some (.int best'), some (.long bu'), none, some (.long bl'), none, some (.int (kI + Int32.ofInt 1)), o, none] [] H C S K0 := by
      intro H best' bu' bl' o e hbl'
      exact ih H _ _ _ _ (k + 1) _ e.1 ((y_fe e rfl).trans g1) ((y_fe e rfl).trans g2) ((y_ae e rfl).trans g3) (y_wl_fr e (fun q => by revert q; decide) hw) hik (by omega) hbl' (fun r H' f => hK r H' (y_sq (y_mo e rfl rfl) f rfl rfl))
    have T130 : ∀ {G : aH} {far l : Int64}, y_fr h G [19587, 19588] [155] → w_f G 19588 = some (.long l) → 1 ≤ l.toInt → aOK s_P X (d + 5) a_m202 130 [some (.ref 155), some (.int claim), some (.int best), some (.long bu), none, some (.long bl), none, some (.int kI), some (.long far), none] [] G C S K0 := by
      intro G far l e f1 hl
      refine w_go z_hl [66] [] 30 e.1 ?_
      refine ⟨⟨by omega, by omega⟩, fun l1 hl1 len bb => ?_⟩
      intro x hx _ _
      obtain rfl := y_fl f1 hx
      intro H hH
      exact next (y_st e hH (by repeat (first | exact w_nil | refine w_cons (Or.inl (y_m rfl)) ?_ | refine w_cons (Or.inr (by assumption)) ?_)) (by repeat (first | exact w_nil | refine w_cons (Or.inl (y_m rfl)) ?_ | refine w_cons (Or.inr (by assumption)) ?_))) hl
    have T127 : ∀ {G : aH} {far l : Int64} {c : Int32}, y_fr h G [19587, 19588] [155] → w_f G 19588 = some (.long l) → 1 ≤ l.toInt → aOK s_P X (d + 5) a_m202 127 [some (.ref 155), some (.int claim), some (.int best), some (.long bu), none, some (.long bl), none, some (.int kI), some (.long far), none] [.int c] G C S K0 := by
      intro G far l c e f1 hl
      refine w_go z_hl [66, 130] [] 30 e.1 ?_
      refine ⟨fun _ => fun H hH => next (y_st e hH (by repeat (first | exact w_nil | refine w_cons (Or.inl (y_m rfl)) ?_ | refine w_cons (Or.inr (by assumption)) ?_)) (by repeat (first | exact w_nil | refine w_cons (Or.inl (y_m rfl)) ?_ | refine w_cons (Or.inr (by assumption)) ?_))) hbl, fun _ => fun H hH => ?_⟩
      have f : y_fr G H [] [] := y_st (y_rf e.1) hH (by repeat (first | exact w_nil | refine w_cons (Or.inl (y_m rfl)) ?_ | refine w_cons (Or.inr (by assumption)) ?_)) (by repeat (first | exact w_nil | refine w_cons (Or.inl (y_m rfl)) ?_ | refine w_cons (Or.inr (by assumption)) ?_))
      exact T130 (y_sq e f rfl rfl) ((y_fe f rfl).trans f1) hl
    have T108 : ∀ {G : aH} {far l : Int64}, y_fr h G [19587, 19588] [155] → w_f G 19588 = some (.long l) → 1 ≤ l.toInt → aOK s_P X (d + 5) a_m202 108 [some (.ref 155), some (.int claim), some (.int best), some (.long bu), none, some (.long bl), none, some (.int kI), o8, none] [.long far] G C S K0 := by
      intro G far l e f1 hl
      refine w_go z_hl [66, 130] [203] 30 e.1 ?_
      refine ⟨fun _ => fun H hH => ?_, fun _ => ?_⟩
      · have f : y_fr G H [] [] := y_st (y_rf e.1) hH (by repeat (first | exact w_nil | refine w_cons (Or.inl (y_m rfl)) ?_ | refine w_cons (Or.inr (by assumption)) ?_)) (by repeat (first | exact w_nil | refine w_cons (Or.inl (y_m rfl)) ?_ | refine w_cons (Or.inr (by assumption)) ?_))
        exact T130 (y_sq e f rfl rfl) ((y_fe f rfl).trans f1) hl
      · intro x hx _ _
        obtain rfl := y_fl f1 hx
        intro H hH
        have f : y_fr G H [] [] := y_st (y_rf e.1) hH (by repeat (first | exact w_nil | refine w_cons (Or.inl (y_m rfl)) ?_ | refine w_cons (Or.inr (by assumption)) ?_)) (by repeat (first | exact w_nil | refine w_cons (Or.inl (y_m rfl)) ?_ | refine w_cons (Or.inr (by assumption)) ?_))
        refine y_compares (b := l) (e := bl) f.1 (fun q => by rw [q] at hl; exact absurd hl (by decide)) (fun q => by rw [q] at hbl; exact absurd hbl (by decide)) (fun r H2 hr2 e2 => ⟨fun n e => (by cases e), ?_⟩)
        exact T127 (y_sq (y_sq e f rfl rfl) e2 rfl rfl) ((y_fe e2 rfl).trans ((y_fe f rfl).trans f1)) hl
    have T101 : ∀ {G : aH} {u l : Int64}, y_fr h G [19587, 19588] [155] → w_f G 19587 = some (.long u) → w_f G 19588 = some (.long l) → 1 ≤ l.toInt → aOK s_P X (d + 5) a_m202 101 [some (.ref 155), some (.int claim), some (.int best), some (.long bu), none, some (.long bl), none, some (.int kI), o8, none] [] G C S K0 := by
      intro G u l e f0 f1 hl
      refine w_go z_hl [108] [] 30 e.1 ?_
      intro x hx _ _
      obtain rfl := y_fl f0 hx
      refine ⟨fun _ => fun H hH => ?_, fun _ => fun H hH => ?_⟩
      · have f : y_fr G H [] [] := y_st (y_rf e.1) hH (by repeat (first | exact w_nil | refine w_cons (Or.inl (y_m rfl)) ?_ | refine w_cons (Or.inr (by assumption)) ?_)) (by repeat (first | exact w_nil | refine w_cons (Or.inl (y_m rfl)) ?_ | refine w_cons (Or.inr (by assumption)) ?_))
        exact T108 (y_sq e f rfl rfl) ((y_fe f rfl).trans f1) hl
      · have f : y_fr G H [] [] := y_st (y_rf e.1) hH (by repeat (first | exact w_nil | refine w_cons (Or.inl (y_m rfl)) ?_ | refine w_cons (Or.inr (by assumption)) ?_)) (by repeat (first | exact w_nil | refine w_cons (Or.inl (y_m rfl)) ?_ | refine w_cons (Or.inr (by assumption)) ?_))
        exact T108 (y_sq e f rfl rfl) ((y_fe f rfl).trans f1) hl
    refine w_go z_hl [66] [201] 30 hr ?_
    intro x hx _ _
    obtain rfl := y_fi g2 hx
    refine ⟨fun q => ?_, fun q => ?_⟩
    · have : sm.toInt ≤ kI.toInt := (y_ci .ge _ _).mp q
      omega
    · refine ⟨⟨by omega, by omega⟩, fun l1 hl1 len bb => ⟨fun _ => ?_, fun _ => fun H hH => next (y_st (y_mo (y_rf hr) rfl rfl) hH (by repeat (first | exact w_nil | refine w_cons (Or.inl (y_m rfl)) ?_ | refine w_cons (Or.inr (by assumption)) ?_)) (by repeat (first | exact w_nil | refine w_cons (Or.inl (y_m rfl)) ?_ | refine w_cons (Or.inr (by assumption)) ?_))) hbl⟩⟩
      refine ⟨⟨by omega, by omega⟩, fun H hH => ?_⟩
      have f : y_fr h H [] [] := y_st (y_rf hr) hH (by repeat (first | exact w_nil | refine w_cons (Or.inl (y_m rfl)) ?_ | refine w_cons (Or.inr (by assumption)) ?_)) (by repeat (first | exact w_nil | refine w_cons (Or.inl (y_m rfl)) ?_ | refine w_cons (Or.inr (by assumption)) ?_))
      refine y_moved f.1 ((y_fe f rfl).trans g1) ((y_ae f rfl).trans g3) (y_wl_fr f (fun q => by cases q) hw) hne (fun u l H2 e3 f1 f2 f3 _ _ => ⟨fun n e => (by cases e), ?_⟩)
      exact T101 (y_sq (y_mo f rfl rfl) e3 rfl rfl) f1 f2 f3
theorem p_most {h : aH} (hr : w_hr z_D h) (hJ : y_J h) {claim : Int32} (hk : ∀ (r : Int32) (H : aH), y_fr h H [19584, 19585, 19587, 19588] [154, 155, 163] → y_J H → K0 (some (.int r)) H C S) : aOK s_P X (d + 5) a_m202 0 [some (.ref 155), some (.int claim), none, none, none, none, none, none, none, none] [] h C S K0 := by
  obtain ⟨nd, sm, so, sa, s1, s2, s3, s4, s5⟩ := id hJ.2.2.2.2.1
  obtain ⟨b1, b2⟩ := y_ndb hr s1
  obtain ⟨m0, m10⟩ := y_smb hr s2
  have out : ∀ {G : aH} {r : Int32}, y_fr h G [19584] [] → K0 (some (.int r)) G C S := fun g => hk _ _ (y_mo g rfl rfl) (y_J_fr g rfl rfl hJ)
  have T48 : ∀ {G0 G : aH} {wl : List Int64} {r : Int64}, y_fr h G0 [19584] [163] → y_J G0 → y_wl G0 wl → y_fr G0 G [] [] → r.toInt = y_nw sa nd wl (Int32.ofInt (-1)) true (Int32.ofInt (-1)) → aOK s_P X (d + 5) a_m202 48 [some (.ref 155), some (.int claim), none, none, none, none, none, none, none, none] [.long r] G C S K0 := by
    intro G0 G wl r e0 J0 hw e hr3
    have e1 : y_fr h G [19584] [163] := y_sq e0 e rfl rfl
    refine w_go z_hl [66] [] 30 e.1 ?_
    refine ⟨fun q => ?_, fun q => fun H hH => ?_⟩
    · have q2 : r.toInt ≠ (Int64.ofNat 0).toInt := (y_cl .ne _ _).mp q
      intro H hH
      have f : y_fr G0 H [] [] := y_st e hH (by repeat (first | exact w_nil | refine w_cons (Or.inl (y_m rfl)) ?_ | refine w_cons (Or.inr (by assumption)) ?_)) (by repeat (first | exact w_nil | refine w_cons (Or.inl (y_m rfl)) ?_ | refine w_cons (Or.inr (by assumption)) ?_))
      have f1 : y_fr h H [19584] [163] := y_sq e0 f rfl rfl
      refine y_most_loop m0 m10 (fun e0 => q2 (by rw [hr3, e0]; decide)) sm.toInt.toNat H _ _ _ _ 0 _ f.1 ((y_fe f1 rfl).trans s1) ((y_fe f1 rfl).trans s2) ((y_ae f1 rfl).trans s4) (y_wl_fr f (fun q => by cases q) hw) rfl (by omega) (by decide) (fun r' H5 e5 => ?_)
      exact hk r' H5 (y_sq (y_mo f1 rfl rfl) e5 rfl rfl) (y_J_fr e5 rfl rfl (y_J_fr f rfl rfl J0))
    · have f : y_fr G0 H [] [] := y_st e hH (by repeat (first | exact w_nil | refine w_cons (Or.inl (y_m rfl)) ?_ | refine w_cons (Or.inr (by assumption)) ?_)) (by repeat (first | exact w_nil | refine w_cons (Or.inl (y_m rfl)) ?_ | refine w_cons (Or.inr (by assumption)) ?_))
      exact hk _ H (y_sq (y_mo e0 rfl rfl) f rfl rfl) (y_J_fr f rfl rfl J0)
  have T44 : ∀ {G0 : aH} {wl : List Int64}, y_fr h G0 [19584] [163] → y_J G0 → y_wl G0 wl → aOK s_P X (d + 5) a_m202 44 [some (.ref 155), some (.int claim), none, none, none, none, none, none, none, none] [] G0 C S K0 := by
    intro G0 wl e0 J0 hw
    refine w_go z_hl [] [189] 30 e0.1 ?_
    intro H hH
    have f : y_fr G0 H [] [] := y_st (y_rf e0.1) hH (by repeat (first | exact w_nil | refine w_cons (Or.inl (y_m rfl)) ?_ | refine w_cons (Or.inr (by assumption)) ?_)) (by repeat (first | exact w_nil | refine w_cons (Or.inl (y_m rfl)) ?_ | refine w_cons (Or.inr (by assumption)) ?_))
    have f1 : y_fr h H [19584] [163] := y_sq e0 f rfl rfl
    refine y_now f.1 ((y_fe f1 rfl).trans s1) ((y_ae f1 rfl).trans s4) (y_wl_fr f (fun q => by cases q) hw) (fun r H2 e3 hr3 => ⟨fun n e => (by cases e), ?_⟩)
    exact T48 e0 J0 hw (y_sq f e3 rfl rfl) hr3
  have T40 : ∀ {G : aH}, y_fr h G [19584] [] → aOK s_P X (d + 5) a_m202 40 [some (.ref 155), some (.int claim), none, none, none, none, none, none, none, none] [] G C S K0 := by
    intro G e
    refine w_go z_hl [] [188] 30 e.1 ?_
    intro H hH
    have e2 := y_st e hH (by repeat (first | exact w_nil | refine w_cons (Or.inl (y_m rfl)) ?_ | refine w_cons (Or.inr (by assumption)) ?_)) (by repeat (first | exact w_nil | refine w_cons (Or.inl (y_m rfl)) ?_ | refine w_cons (Or.inr (by assumption)) ?_))
    refine q_weighsUp e2.1 (y_J_fr e2 rfl rfl hJ) (fun wl H2 e3 J3 hw => ⟨fun n e => (by cases e), ?_⟩)
    exact T44 (y_sq (y_mo e2 rfl rfl) e3 rfl rfl) J3 hw
  have T10 : ∀ {G : aH} {v : Nat}, y_fr h G [19584] [] → claim.toInt = v → v < 10 → aOK s_P X (d + 5) a_m202 10 [some (.ref 155), some (.int claim), none, none, none, none, none, none, none, none] [.int (y_01 true)] G C S K0 := by
    intro G v e hv hv10
    refine w_go z_hl [40] [] 30 e.1 ?_
    refine ⟨fun q => absurd q (by decide), fun _ => ?_⟩
    intro x hx _ _
    refine ⟨⟨by omega, by omega⟩, fun l hl len bb => ⟨fun _ => ⟨fun _ => ⟨fun _ => fun H hH => T40 (y_st e hH (by repeat (first | exact w_nil | refine w_cons (Or.inl (y_m rfl)) ?_ | refine w_cons (Or.inr (by assumption)) ?_)) (by repeat (first | exact w_nil | refine w_cons (Or.inl (y_m rfl)) ?_ | refine w_cons (Or.inr (by assumption)) ?_))), fun _ => fun H hH => out (y_st e hH (by repeat (first | exact w_nil | refine w_cons (Or.inl (y_m rfl)) ?_ | refine w_cons (Or.inr (by assumption)) ?_)) (by repeat (first | exact w_nil | refine w_cons (Or.inl (y_m rfl)) ?_ | refine w_cons (Or.inr (by assumption)) ?_)))⟩, fun q => absurd q (by decide)⟩, fun _ => ⟨fun q => absurd q (by decide), fun _ => ⟨fun _ => fun H hH => T40 (y_st e hH (by repeat (first | exact w_nil | refine w_cons (Or.inl (y_m rfl)) ?_ | refine w_cons (Or.inr (by assumption)) ?_)) (by repeat (first | exact w_nil | refine w_cons (Or.inl (y_m rfl)) ?_ | refine w_cons (Or.inr (by assumption)) ?_))), fun _ => fun H hH => out (y_st e hH (by repeat (first | exact w_nil | refine w_cons (Or.inl (y_m rfl)) ?_ | refine w_cons (Or.inr (by assumption)) ?_)) (by repeat (first | exact w_nil | refine w_cons (Or.inl (y_m rfl)) ?_ | refine w_cons (Or.inr (by assumption)) ?_)))⟩⟩⟩⟩
  have T10n : ∀ {G : aH}, y_fr h G [19584] [] → aOK s_P X (d + 5) a_m202 10 [some (.ref 155), some (.int claim), none, none, none, none, none, none, none, none] [.int (y_01 false)] G C S K0 := by
    intro G e
    refine w_go z_hl [] [] 30 e.1 ?_
    exact ⟨fun _ => fun H hH => out (y_st e hH (by repeat (first | exact w_nil | refine w_cons (Or.inl (y_m rfl)) ?_ | refine w_cons (Or.inr (by assumption)) ?_)) (by repeat (first | exact w_nil | refine w_cons (Or.inl (y_m rfl)) ?_ | refine w_cons (Or.inr (by assumption)) ?_))), fun q => absurd q (by decide)⟩
  refine w_go z_hl [] [178] 30 hr ?_
  refine ⟨rfl, y_zini (by decide) (by decide), fun H1 h1 => ?_⟩
  have e1 : y_fr h H1 [19584] [] := y_st (y_mo (y_rf hr) rfl rfl) h1 (by repeat (first | exact w_nil | refine w_cons (Or.inl (y_m rfl)) ?_ | refine w_cons (Or.inr (by assumption)) ?_)) (by repeat (first | exact w_nil | refine w_cons (Or.inl (y_m rfl)) ?_ | refine w_cons (Or.inr (by assumption)) ?_))
  refine q_isNode (v := claim) e1.1 ((y_fe e1 rfl).trans s1) (fun H2 v h2 hv hv2 hvc => ⟨fun n e => (by cases e), ?_⟩) (fun H2 h2 => ⟨fun n e => (by cases e), ?_⟩)
  · exact T10 (y_sq e1 h2 rfl rfl) hv (by omega)
  · exact T10n (y_sq e1 h2 rfl rfl)
end WG
end PT28c
section PT28d
/-! ===== v3: the reference's likely ===== -/
theorem y_now_ws {sa : List Int32} {nd : Int32} {wl : List Int64} : y_nw sa nd wl (Int32.ofInt (-1)) true (Int32.ofInt (-1)) = y_ws wl (y_bits (y_pS sa (Int32.ofInt (-1))) nd.toInt.toNat) (y_bits (y_pN sa (Int32.ofInt (-1))) nd.toInt.toNat) (y_ways nd) := by
  unfold y_nw
  have eb : y_bt (Int32.ofInt (-1)) = Int32.ofInt 0 := by decide
  rw [eb]
  dsimp only [cond_true]
  rw [i_or0, i_or0]
section WG
variable {X : aX} {C S d : Nat} {K0 : Option Value → aH → Nat → Nat → Prop}
theorem y_likely_loop {nd : Int32} {sa : List Int32} {wl : List Int64} {sum : Int64} {A B : Int32} (hA : A = y_bits (y_pS sa (Int32.ofInt (-1))) nd.toInt.toNat) (hB : B = y_bits (y_pN sa (Int32.ofInt (-1))) nd.toInt.toNat) (hs : sum.toInt = y_ws wl A B (y_ways nd)) (hs1 : 1 ≤ sum.toInt) : ∀ (t : Nat) (h : aH) (bI wI : Int32) (k : Nat) (o5 : Option Value), w_hr z_D h → w_f h 19591 = some (.int nd) → w_a h 160 = some (0, .inl sa) → y_wl h wl → wI.toInt = k → k + t = y_ways nd → -1 ≤ bI.toInt → bI.toInt < 1024 → (bI.toInt < 0 → y_ws wl A B k = 0) →
    (∀ (r : Int32) (H : aH), y_fr h H [19585, 19587, 19588] [154] → K0 (some (.int r)) H C S) →
    aOK s_P X (d + 3) a_m199 28 [some (.ref 155), some (.long sum), none, some (.int bI), some (.int wI), o5] [] h C S K0 := by
  intro t
  induction t with
  | zero =>
    intro h bI wI k o5 hr g1 g2 hw hk hkt b0 b1 hb hK
    obtain ⟨c1, c2⟩ := y_ndb hr g1
    have hbp : 0 ≤ bI.toInt := by
      rcases Int.lt_or_le bI.toInt 0 with q | q
      · have := hb q
        rw [show k = y_ways nd by omega, ← hs] at this
        omega
      · exact q
    have T126 : ∀ {G : aH}, y_fr h G [19585, 19587, 19588] [154] → aOK s_P X (d + 3) a_m199 126 [some (.ref 155), some (.long sum), none, some (.int bI), some (.int wI), o5] [] G C S K0 := by
      intro G e
      refine w_go z_hl [] [] 30 e.1 ?_
      intro H hH
      exact hK _ H (y_st e hH (by repeat (first | exact w_nil | refine w_cons (Or.inl (y_m rfl)) ?_ | refine w_cons (Or.inr (by assumption)) ?_)) (by repeat (first | exact w_nil | refine w_cons (Or.inl (y_m rfl)) ?_ | refine w_cons (Or.inr (by assumption)) ?_)))
    have T117 : ∀ {G : aH}, y_fr h G [19585, 19587, 19588] [154] → aOK s_P X (d + 3) a_m199 117 [some (.ref 155), some (.long sum), none, some (.int bI), some (.int wI), o5] [] G C S K0 := by
      intro G e
      refine w_go z_hl [] [196] 30 e.1 ?_
      refine ⟨rfl, y_zini (by decide) (by decide), fun H hH => ?_⟩
      have e2 := y_st e hH (by repeat (first | exact w_nil | refine w_cons (Or.inl (y_m rfl)) ?_ | refine w_cons (Or.inr (by assumption)) ?_)) (by repeat (first | exact w_nil | refine w_cons (Or.inl (y_m rfl)) ?_ | refine w_cons (Or.inr (by assumption)) ?_))
      refine y_tells e2.1 (hH.2.1 19585 _ rfl) (by decide) (by decide) (fun H2 r2 e3 _ _ => ⟨fun n e => (by cases e), ?_⟩)
      exact T126 (y_sq e2 e3 rfl rfl)
    refine w_go z_hl [28] [194] 30 hr ?_
    intro x hx y1 y2
    obtain rfl := y_fi g1 hx
    obtain ⟨ea, l1, l2⟩ := y_all y1 y2
    refine ⟨fun q => ?_, fun q => ?_⟩
    · refine ⟨⟨by omega, by omega⟩, fun l hl len bb => ?_⟩
      obtain rfl := y_al hw.1 hl
      intro H hH
      have e : y_fr h H [] [] := y_st (y_rf hr) hH (by repeat (first | exact w_nil | refine w_cons (Or.inl (y_m rfl)) ?_ | refine w_cons (Or.inr (by assumption)) ?_)) (by repeat (first | exact w_nil | refine w_cons (Or.inl (y_m rfl)) ?_ | refine w_cons (Or.inr (by assumption)) ?_))
      have hg := y_getD hw.2.1 bI.toNatClampNeg
      refine q_lowest (n := wl.getD bI.toNatClampNeg 0) (m := sum) e.1 (by omega) hs1 (fun u l H2 e3 _ _ _ _ _ _ _ => ⟨fun n e => (by cases e), ?_⟩)
      exact T117 (y_sq (y_mo e rfl rfl) e3 rfl rfl)
    · have : ¬ ((Int32.ofInt 1 <<< (nd &&& 31) - Int32.ofInt 1).toInt < wI.toInt) := y_cif q
      omega
  | succ t ih =>
    intro h bI wI k o5 hr g1 g2 hw hk hkt b0 b1 hb hK
    obtain ⟨c1, c2⟩ := y_ndb hr g1
    obtain ⟨ea, l1, l2⟩ := y_all c1 c2
    obtain ⟨ew, wc⟩ := y_ofNat hk (by omega)
    have hik : (wI + Int32.ofInt 1).toInt = ((k + 1 : Nat) : Int) := by rw [y_inc (by omega), hk]; rfl
    have next : ∀ {H : aH} {b' : Int32} {o : Option Value}, y_fr h H [] [] → -1 ≤ b'.toInt → b'.toInt < 1024 → (b'.toInt < 0 → y_ws wl A B (k + 1) = 0) → aOK s_P X (d + 3) a_m199 28 [some (.ref 155), some (.long sum), none, some (.int b'), some (.int (wI + Int32.ofInt 1)), o] [] H C S K0 := by
      intro H b' o e q0 q1 q2
      exact ih H _ _ (k + 1) _ e.1 ((y_fe e rfl).trans g1) ((y_ae e rfl).trans g2) (y_wl_fr e (fun q => by cases q) hw) hik (by omega) q0 q1 q2 (fun r H' f => hK r H' (y_sq (y_mo e rfl rfl) f rfl rfl))
    have skip : y_sel A B wI = false → bI.toInt < 0 → y_ws wl A B (k + 1) = 0 := by
      intro q1 q2
      show y_ws wl A B k + (if y_sel A B (Int32.ofNat k) then (wl.getD k 0).toInt else 0) = 0
      rw [← ew, q1, hb q2]
      rfl
    have T69n : ∀ {G : aH}, y_fr h G [] [] → y_sel A B wI = false → aOK s_P X (d + 3) a_m199 69 [some (.ref 155), some (.long sum), none, some (.int bI), some (.int wI), o5] [.int (Int32.ofInt 0)] G C S K0 := by
      intro G e hsel
      refine w_go z_hl [28] [] 30 e.1 ?_
      exact ⟨fun _ => fun H hH => next (y_st e hH (by repeat (first | exact w_nil | refine w_cons (Or.inl (y_m rfl)) ?_ | refine w_cons (Or.inr (by assumption)) ?_)) (by repeat (first | exact w_nil | refine w_cons (Or.inl (y_m rfl)) ?_ | refine w_cons (Or.inr (by assumption)) ?_))) b0 b1 (skip hsel), fun q => absurd q (by decide)⟩
    have T69y : ∀ {G : aH}, y_fr h G [] [] → aOK s_P X (d + 3) a_m199 69 [some (.ref 155), some (.long sum), none, some (.int bI), some (.int wI), o5] [.int (Int32.ofInt 1)] G C S K0 := by
      intro G e
      refine w_go z_hl [28] [] 30 e.1 ?_
      refine ⟨fun q => absurd q (by decide), fun _ => ⟨fun _ => fun H hH => next (y_st e hH (by repeat (first | exact w_nil | refine w_cons (Or.inl (y_m rfl)) ?_ | refine w_cons (Or.inr (by assumption)) ?_)) (by repeat (first | exact w_nil | refine w_cons (Or.inl (y_m rfl)) ?_ | refine w_cons (Or.inr (by assumption)) ?_))) (by omega) (by omega) (fun q => by omega), fun q => ?_⟩⟩
      have hb0 : ¬ (bI.toInt < (0 : Int32).toInt) := y_cif q
      rw [show (0 : Int32).toInt = 0 by decide] at hb0
      refine ⟨⟨by omega, by omega⟩, fun l hl len bb => ⟨⟨by omega, by omega⟩, ⟨fun _ => fun H hH => next (y_st e hH (by repeat (first | exact w_nil | refine w_cons (Or.inl (y_m rfl)) ?_ | refine w_cons (Or.inr (by assumption)) ?_)) (by repeat (first | exact w_nil | refine w_cons (Or.inl (y_m rfl)) ?_ | refine w_cons (Or.inr (by assumption)) ?_))) b0 b1 (fun q => by omega), fun _ => fun H hH => next (y_st e hH (by repeat (first | exact w_nil | refine w_cons (Or.inl (y_m rfl)) ?_ | refine w_cons (Or.inr (by assumption)) ?_)) (by repeat (first | exact w_nil | refine w_cons (Or.inl (y_m rfl)) ?_ | refine w_cons (Or.inr (by assumption)) ?_))) (by omega) (by omega) (fun q => by omega)⟩⟩⟩
    have T60 : ∀ {G : aH}, y_fr h G [] [] → wI &&& A = A → aOK s_P X (d + 3) a_m199 60 [some (.ref 155), some (.long sum), none, some (.int bI), some (.int wI), o5] [.int B, .int wI] G C S K0 := by
      intro G e hwa
      refine w_go z_hl [69] [] 30 e.1 ?_
      refine ⟨fun q => fun H hH => ?_, fun q => fun H hH => ?_⟩
      · have q2 : (wI &&& B).toInt ≠ (0 : Int32).toInt := (y_ci .ne _ _).mp q
        refine T69n (y_st e hH (by repeat (first | exact w_nil | refine w_cons (Or.inl (y_m rfl)) ?_ | refine w_cons (Or.inr (by assumption)) ?_)) (by repeat (first | exact w_nil | refine w_cons (Or.inl (y_m rfl)) ?_ | refine w_cons (Or.inr (by assumption)) ?_))) ?_
        unfold y_sel
        rw [decide_eq_false (p := wI &&& B = 0) (fun e => q2 (by rw [e])), Bool.and_false]
      · exact T69y (y_st e hH (by repeat (first | exact w_nil | refine w_cons (Or.inl (y_m rfl)) ?_ | refine w_cons (Or.inr (by assumption)) ?_)) (by repeat (first | exact w_nil | refine w_cons (Or.inl (y_m rfl)) ?_ | refine w_cons (Or.inr (by assumption)) ?_)))
    have T50 : ∀ {G : aH}, y_fr h G [] [] → aOK s_P X (d + 3) a_m199 50 [some (.ref 155), some (.long sum), none, some (.int bI), some (.int wI), o5] [.int A, .int (wI &&& A)] G C S K0 := by
      intro G e
      refine w_go z_hl [69] [192] 30 e.1 ?_
      refine ⟨fun q => fun H hH => ?_, fun q => fun H hH => ?_⟩
      · have q2 : (wI &&& A).toInt ≠ A.toInt := (y_ci .ne _ _).mp q
        refine T69n (y_st e hH (by repeat (first | exact w_nil | refine w_cons (Or.inl (y_m rfl)) ?_ | refine w_cons (Or.inr (by assumption)) ?_)) (by repeat (first | exact w_nil | refine w_cons (Or.inl (y_m rfl)) ?_ | refine w_cons (Or.inr (by assumption)) ?_))) ?_
        unfold y_sel
        rw [decide_eq_false (p := wI &&& A = A) (fun e => q2 (by rw [e])), Bool.false_and]
      · have q2 : ¬ ((wI &&& A).toInt ≠ A.toInt) := y_cif q
        have e2 := y_st e hH (by repeat (first | exact w_nil | refine w_cons (Or.inl (y_m rfl)) ?_ | refine w_cons (Or.inr (by assumption)) ?_)) (by repeat (first | exact w_nil | refine w_cons (Or.inl (y_m rfl)) ?_ | refine w_cons (Or.inr (by assumption)) ?_))
        refine y_seenNot e2.1 ((y_fe e2 rfl).trans g1) ((y_ae e2 rfl).trans g2) (fun H3 f3 => ⟨fun n e => (by cases e), ?_⟩)
        rw [← hB]
        exact T60 (y_sq e2 f3 rfl rfl) (Int32.toInt_inj.mp (Decidable.not_not.mp q2))
    have T44 : ∀ {G : aH}, y_fr h G [] [] → aOK s_P X (d + 3) a_m199 44 [some (.ref 155), some (.long sum), none, some (.int bI), some (.int wI), o5] [.int A, .int wI] G C S K0 := by
      intro G e
      refine w_go z_hl [] [191] 30 e.1 ?_
      intro H hH
      have e2 := y_st e hH (by repeat (first | exact w_nil | refine w_cons (Or.inl (y_m rfl)) ?_ | refine w_cons (Or.inr (by assumption)) ?_)) (by repeat (first | exact w_nil | refine w_cons (Or.inl (y_m rfl)) ?_ | refine w_cons (Or.inr (by assumption)) ?_))
      refine y_seenSo e2.1 ((y_fe e2 rfl).trans g1) ((y_ae e2 rfl).trans g2) (fun H3 f3 => ⟨fun n e => (by cases e), ?_⟩)
      rw [← hA]
      exact T50 (y_sq e2 f3 rfl rfl)
    refine w_go z_hl [28] [191] 30 hr ?_
    intro x hx y1 y2
    obtain rfl := y_fi g1 hx
    refine ⟨fun q => ?_, fun q => ?_⟩
    · have : (Int32.ofInt 1 <<< (nd &&& 31) - Int32.ofInt 1).toInt < wI.toInt := (y_ci .gt _ _).mp q
      omega
    · intro H hH
      have e : y_fr h H [] [] := y_st (y_rf hr) hH (by repeat (first | exact w_nil | refine w_cons (Or.inl (y_m rfl)) ?_ | refine w_cons (Or.inr (by assumption)) ?_)) (by repeat (first | exact w_nil | refine w_cons (Or.inl (y_m rfl)) ?_ | refine w_cons (Or.inr (by assumption)) ?_))
      refine y_seenSo e.1 ((y_fe e rfl).trans g1) ((y_ae e rfl).trans g2) (fun H3 f3 => ⟨fun n e => (by cases e), ?_⟩)
      rw [← hA]
      exact T44 (y_sq e f3 rfl rfl)
theorem p_likely {h : aH} (hr : w_hr z_D h) (hJ : y_J h) (hk : ∀ (r : Int32) (H : aH), y_fr h H [19584, 19585, 19587, 19588] [154, 163] → y_J H → K0 (some (.int r)) H C S) : aOK s_P X (d + 4) a_m199 0 [some (.ref 155), none, none, none, none, none] [] h C S K0 := by
  obtain ⟨nd, sm, so, sa, s1, s2, s3, s4, s5⟩ := id hJ.2.2.2.2.1
  obtain ⟨b1, b2⟩ := y_ndb hr s1
  have T13 : ∀ {G0 G : aH} {wl : List Int64} {r : Int64}, y_fr h G0 [19584] [163] → y_J G0 → y_wl G0 wl → y_fr G0 G [] [] → r.toInt = y_nw sa nd wl (Int32.ofInt (-1)) true (Int32.ofInt (-1)) → aOK s_P X (d + 4) a_m199 13 [some (.ref 155), none, none, none, none, none] [.long r] G C S K0 := by
    intro G0 G wl r e0 J0 hw e hr3
    refine w_go z_hl [28] [] 30 e.1 ?_
    refine ⟨fun q => ?_, fun q => fun H hH => ?_⟩
    · have q2 : r.toInt ≠ (Int64.ofNat 0).toInt := (y_cl .ne _ _).mp q
      rw [show (Int64.ofNat 0).toInt = 0 by decide] at q2
      have bb := y_nw_b (sa := sa) (node := Int32.ofInt (-1)) (so := true) (but := Int32.ofInt (-1)) hw b1 b2
      intro H hH
      have f : y_fr G0 H [] [] := y_st e hH (by repeat (first | exact w_nil | refine w_cons (Or.inl (y_m rfl)) ?_ | refine w_cons (Or.inr (by assumption)) ?_)) (by repeat (first | exact w_nil | refine w_cons (Or.inl (y_m rfl)) ?_ | refine w_cons (Or.inr (by assumption)) ?_))
      have f1 : y_fr h H [19584] [163] := y_sq e0 f rfl rfl
      refine y_likely_loop rfl rfl (hr3.trans y_now_ws) (by omega) (y_ways nd) H _ _ 0 _ f.1 ((y_fe f1 rfl).trans s1) ((y_ae f1 rfl).trans s4) (y_wl_fr f (fun q => by cases q) hw) rfl (by omega) (by decide) (by decide) (fun _ => rfl) (fun r' H5 e5 => ?_)
      exact hk r' H5 (y_sq (y_mo f1 rfl rfl) e5 rfl rfl) (y_J_fr e5 rfl rfl (y_J_fr f rfl rfl J0))
    · have f : y_fr G0 H [] [] := y_st e hH (by repeat (first | exact w_nil | refine w_cons (Or.inl (y_m rfl)) ?_ | refine w_cons (Or.inr (by assumption)) ?_)) (by repeat (first | exact w_nil | refine w_cons (Or.inl (y_m rfl)) ?_ | refine w_cons (Or.inr (by assumption)) ?_))
      exact hk _ H (y_sq (y_mo e0 rfl rfl) f rfl rfl) (y_J_fr f rfl rfl J0)
  have T9 : ∀ {G0 : aH} {wl : List Int64}, y_fr h G0 [19584] [163] → y_J G0 → y_wl G0 wl → aOK s_P X (d + 4) a_m199 9 [some (.ref 155), none, none, none, none, none] [] G0 C S K0 := by
    intro G0 wl e0 J0 hw
    refine w_go z_hl [] [189] 30 e0.1 ?_
    intro H hH
    have f : y_fr G0 H [] [] := y_st (y_rf e0.1) hH (by repeat (first | exact w_nil | refine w_cons (Or.inl (y_m rfl)) ?_ | refine w_cons (Or.inr (by assumption)) ?_)) (by repeat (first | exact w_nil | refine w_cons (Or.inl (y_m rfl)) ?_ | refine w_cons (Or.inr (by assumption)) ?_))
    have f1 : y_fr h H [19584] [163] := y_sq e0 f rfl rfl
    refine y_now f.1 ((y_fe f1 rfl).trans s1) ((y_ae f1 rfl).trans s4) (y_wl_fr f (fun q => by cases q) hw) (fun r H2 e3 hr3 => ⟨fun n e => (by cases e), ?_⟩)
    exact T13 e0 J0 hw (y_sq f e3 rfl rfl) hr3
  refine w_go z_hl [] [188] 30 hr ?_
  refine ⟨rfl, y_zini (by decide) (by decide), fun H1 h1 => ?_⟩
  have e1 : y_fr h H1 [19584] [] := y_st (y_mo (y_rf hr) rfl rfl) h1 (by repeat (first | exact w_nil | refine w_cons (Or.inl (y_m rfl)) ?_ | refine w_cons (Or.inr (by assumption)) ?_)) (by repeat (first | exact w_nil | refine w_cons (Or.inl (y_m rfl)) ?_ | refine w_cons (Or.inr (by assumption)) ?_))
  refine q_weighsUp e1.1 (y_J_fr e1 rfl rfl hJ) (fun wl H2 e3 J3 hw => ⟨fun n e => (by cases e), ?_⟩)
  exact T9 (y_sq (y_mo e1 rfl rfl) e3 rfl rfl) J3 hw
end WG
end PT28d
section PT28e
/-! ===== v3: the reference's land, mark ===== -/
section WG
variable {X : aX} {C S d : Nat} {K0 : Option Value → aH → Nat → Nat → Prop}
theorem y_land_loop {al kd n f st ln : Int32} (l0 : 0 ≤ ln.toInt) (l7 : ln.toInt ≤ 7) (a1 : 1 ≤ al.toInt) (a2 : al.toInt ≤ 1000000) : ∀ (t : Nat) (h : aH) (vI kI : Int32) (k : Nat) (o8 o9 : Option Value), w_hr z_D h → w_f h 19640 = some (.int ln) → kI.toInt = k → k + t = 6 →
    (∀ (r : Int32) (H : aH), y_fr h H [] [183] → K0 (some (.int r)) H C S) →
    (∀ (H : aH) (v' k' : Int32) (o8 o9 : Option Value), y_fr h H [] [183] → aOK s_P X (d + 1) a_m270 173 [some (.ref 155), some (.int al), some (.int kd), some (.int n), some (.int f), some (.int st), some (.int v'), some (.int k'), o8, o9] [] H C S K0) →
    aOK s_P X (d + 1) a_m270 65 [some (.ref 155), some (.int al), some (.int kd), some (.int n), some (.int f), some (.int st), some (.int vI), some (.int kI), o8, o9] [] h C S K0 := by
  intro t
  induction t with
  | zero =>
    intro h vI kI k o8 o9 hr g1 hk hkt hK hE
    refine w_go z_hl [65, 173] [176] 60 hr ?_
    refine ⟨fun q => fun H hH => hE H _ _ _ _ (y_st (y_mo (y_rf hr) rfl rfl) hH (by repeat (first | exact w_nil | refine w_cons (Or.inl (y_m rfl)) ?_ | refine w_cons (Or.inr (by assumption)) ?_)) (by repeat (first | exact w_nil | refine w_cons (Or.inl (y_m rfl)) ?_ | refine w_cons (Or.inr (by assumption)) ?_))), fun q => ?_⟩
    have : ¬ (((Int8.ofInt 6).toInt32).toInt ≤ kI.toInt) := y_cif q
    rw [y_c6] at this
    omega
  | succ t ih =>
    intro h vI kI k o8 o9 hr g1 hk hkt hK hE
    have hik : (kI + Int32.ofInt 1).toInt = ((k + 1 : Nat) : Int) := by rw [y_inc (by omega), hk]; rfl
    obtain ⟨p, hp⟩ : ∃ p : Nat, ln.toInt = p := ⟨ln.toInt.toNat, by omega⟩
    have i6 := y_i6 hp hk (by omega) (by omega)
    have b6 : 0 ≤ ((Int8.ofInt 6).toInt32 * ln + kI).toInt ∧ ((Int8.ofInt 6).toInt32 * ln + kI).toInt < ((48 : Nat) : Int) := by omega
    have next : ∀ {H : aH} {v' : Int32} {o8 o9 : Option Value}, y_fr h H [] [183] → aOK s_P X (d + 1) a_m270 65 [some (.ref 155), some (.int al), some (.int kd), some (.int n), some (.int f), some (.int st), some (.int v'), some (.int (kI + Int32.ofInt 1)), o8, o9] [] H C S K0 := by
      intro H v' o8 o9 e
      exact ih H _ _ (k + 1) _ _ e.1 ((y_fe e rfl).trans g1) hik (by omega) (fun r H' g => hK r H' (y_sq e g rfl rfl)) (fun H' v' k' o8 o9 g => hE H' v' k' o8 o9 (y_sq e g rfl rfl))
    have T134n : ∀ {G : aH} {i : Int32}, y_fr h G [] [183] → aOK s_P X (d + 1) a_m270 134 [some (.ref 155), some (.int al), some (.int kd), some (.int n), some (.int f), some (.int st), some (.int vI), some (.int kI), some (.int i), some (.int (Int32.ofInt 0))] [] G C S K0 := by
      intro G i e
      refine w_go z_hl [65] [] 60 e.1 ?_
      intro x hx _ _
      obtain rfl := y_fi ((y_fe e rfl).trans g1) hx
      refine ⟨fun _ => ⟨b6, by decide, fun l hl len bb => fun H hH => next (y_st e hH (by repeat (first | exact w_nil | refine w_cons (Or.inl (y_m rfl)) ?_ | refine w_cons (Or.inr (by assumption)) ?_)) (by repeat (first | exact w_nil | refine w_cons (Or.inl (y_m rfl)) ?_ | refine w_cons (Or.inr (by assumption)) ?_)))⟩, fun q => absurd q (by decide)⟩
    have T134y : ∀ {G : aH} {i : Int32}, y_fr h G [] [183] → 0 ≤ i.toInt → i.toInt ≤ 1000000 → aOK s_P X (d + 1) a_m270 134 [some (.ref 155), some (.int al), some (.int kd), some (.int n), some (.int f), some (.int st), some (.int vI), some (.int kI), some (.int i), some (.int (Int32.ofInt 1))] [] G C S K0 := by
      intro G i e i0 i1
      refine w_go z_hl [65] [] 60 e.1 ?_
      intro x hx _ _
      obtain rfl := y_fi ((y_fe e rfl).trans g1) hx
      refine ⟨fun q => absurd q (by decide), fun _ => ⟨b6, ⟨by omega, by omega⟩, fun l hl len bb => fun H hH => next (y_st e hH (by repeat (first | exact w_nil | refine w_cons (Or.inl (y_m rfl)) ?_ | refine w_cons (Or.inr (by assumption)) ?_)) (by repeat (first | exact w_nil | refine w_cons (Or.inl (y_m rfl)) ?_ | refine w_cons (Or.inr (by assumption)) ?_)))⟩⟩
    have T129 : ∀ {G : aH} {i : Int32}, y_fr h G [] [183] → 0 ≤ i.toInt → i.toInt ≤ al.toInt → aOK s_P X (d + 1) a_m270 129 [some (.ref 155), some (.int al), some (.int kd), some (.int n), some (.int f), some (.int st), some (.int vI), some (.int kI), some (.int i), some (.int (Int32.ofInt 1))] [.int (y_01 true)] G C S K0 := by
      intro G i e i0 i1
      refine w_go z_hl [134] [] 60 e.1 ?_
      exact ⟨fun _ => fun H hH => T134y (y_st e hH (by repeat (first | exact w_nil | refine w_cons (Or.inl (y_m rfl)) ?_ | refine w_cons (Or.inr (by assumption)) ?_)) (by repeat (first | exact w_nil | refine w_cons (Or.inl (y_m rfl)) ?_ | refine w_cons (Or.inr (by assumption)) ?_))) i0 (by omega), fun q => absurd q (by decide)⟩
    have T129n : ∀ {G : aH} {i : Int32}, y_fr h G [] [183] → aOK s_P X (d + 1) a_m270 129 [some (.ref 155), some (.int al), some (.int kd), some (.int n), some (.int f), some (.int st), some (.int vI), some (.int kI), some (.int i), some (.int (Int32.ofInt 1))] [.int (y_01 false)] G C S K0 := by
      intro G i e
      refine w_go z_hl [134] [] 60 e.1 ?_
      exact ⟨fun q => absurd q (by decide), fun _ => fun H hH => hK _ H (y_st e hH (by repeat (first | exact w_nil | refine w_cons (Or.inl (y_m rfl)) ?_ | refine w_cons (Or.inr (by assumption)) ?_)) (by repeat (first | exact w_nil | refine w_cons (Or.inl (y_m rfl)) ?_ | refine w_cons (Or.inr (by assumption)) ?_)))⟩
    have T115 : ∀ {G : aH} {i b : Int32}, y_fr h G [] [183] → (b = Int32.ofInt 0 ∨ b = Int32.ofInt 1) → aOK s_P X (d + 1) a_m270 115 [some (.ref 155), some (.int al), some (.int kd), some (.int n), some (.int f), some (.int st), some (.int vI), some (.int kI), some (.int i), some (.int b)] [] G C S K0 := by
      intro G i b e hb
      rcases hb with rfl | rfl
      · refine w_go z_hl [134] [176] 60 e.1 ?_
        exact ⟨fun _ => fun H hH => T134n (y_st e hH (by repeat (first | exact w_nil | refine w_cons (Or.inl (y_m rfl)) ?_ | refine w_cons (Or.inr (by assumption)) ?_)) (by repeat (first | exact w_nil | refine w_cons (Or.inl (y_m rfl)) ?_ | refine w_cons (Or.inr (by assumption)) ?_))), fun q => absurd q (by decide)⟩
      · refine w_go z_hl [134] [176] 60 e.1 ?_
        refine ⟨fun q => absurd q (by decide), fun _ => fun H hH => ?_⟩
        have e2 := y_st e hH (by repeat (first | exact w_nil | refine w_cons (Or.inl (y_m rfl)) ?_ | refine w_cons (Or.inr (by assumption)) ?_)) (by repeat (first | exact w_nil | refine w_cons (Or.inl (y_m rfl)) ?_ | refine w_cons (Or.inr (by assumption)) ?_))
        refine q_in (v := i.toInt64) (lo := Int64.ofNat 0) (hi := al.toInt64) e2.1 (fun H3 h3 l1 l2 => ⟨fun n e => (by cases e), ?_⟩) (fun H3 h3 _ => ⟨fun n e => (by cases e), ?_⟩)
        · rw [y_i2l] at l1
          rw [y_i2l, y_i2l] at l2
          exact T129 (y_sq e2 h3 rfl rfl) l1 l2
        · exact T129n (y_sq e2 h3 rfl rfl)
    have T95 : ∀ {G : aH} {i : Int32}, y_fr h G [] [183] → aOK s_P X (d + 1) a_m270 95 [some (.ref 155), some (.int al), some (.int kd), some (.int n), some (.int f), some (.int st), some (.int vI), some (.int kI), o8, o9] [.int i] G C S K0 := by
      intro G i e
      refine w_go z_hl [115] [] 60 e.1 ?_
      refine ⟨fun _ => fun H hH => T115 (y_st e hH (by repeat (first | exact w_nil | refine w_cons (Or.inl (y_m rfl)) ?_ | refine w_cons (Or.inr (by assumption)) ?_)) (by repeat (first | exact w_nil | refine w_cons (Or.inl (y_m rfl)) ?_ | refine w_cons (Or.inr (by assumption)) ?_))) (Or.inl rfl), fun _ => ⟨fun _ => fun H hH => T115 (y_st e hH (by repeat (first | exact w_nil | refine w_cons (Or.inl (y_m rfl)) ?_ | refine w_cons (Or.inr (by assumption)) ?_)) (by repeat (first | exact w_nil | refine w_cons (Or.inl (y_m rfl)) ?_ | refine w_cons (Or.inr (by assumption)) ?_))) (Or.inl rfl), fun _ => fun H hH => T115 (y_st e hH (by repeat (first | exact w_nil | refine w_cons (Or.inl (y_m rfl)) ?_ | refine w_cons (Or.inr (by assumption)) ?_)) (by repeat (first | exact w_nil | refine w_cons (Or.inl (y_m rfl)) ?_ | refine w_cons (Or.inr (by assumption)) ?_))) (Or.inr rfl)⟩⟩
    have e0 : y_fr h h [] [183] := y_mo (y_rf hr) rfl rfl
    refine w_go z_hl [95, 65] [] 60 hr ?_
    refine ⟨fun q => ?_, fun _ => ⟨fun _ => ⟨fun _ => fun H hH => T95 (y_st e0 hH (by repeat (first | exact w_nil | refine w_cons (Or.inl (y_m rfl)) ?_ | refine w_cons (Or.inr (by assumption)) ?_)) (by repeat (first | exact w_nil | refine w_cons (Or.inl (y_m rfl)) ?_ | refine w_cons (Or.inr (by assumption)) ?_))), fun _ => fun H hH => T95 (y_st e0 hH (by repeat (first | exact w_nil | refine w_cons (Or.inl (y_m rfl)) ?_ | refine w_cons (Or.inr (by assumption)) ?_)) (by repeat (first | exact w_nil | refine w_cons (Or.inl (y_m rfl)) ?_ | refine w_cons (Or.inr (by assumption)) ?_)))⟩, fun _ => fun H hH => T95 (y_st e0 hH (by repeat (first | exact w_nil | refine w_cons (Or.inl (y_m rfl)) ?_ | refine w_cons (Or.inr (by assumption)) ?_)) (by repeat (first | exact w_nil | refine w_cons (Or.inl (y_m rfl)) ?_ | refine w_cons (Or.inr (by assumption)) ?_)))⟩⟩
    have : ((Int8.ofInt 6).toInt32).toInt ≤ kI.toInt := (y_ci .ge _ _).mp q
    rw [y_c6] at this
    omega
theorem p_land {h : aH} (hr : w_hr z_D h) (hJ : y_J h) {al kd n f st : Int32} (hk : ∀ (r : Int32) (H : aH), y_fr h H [19584, 19640] [182, 183] → y_J H → K0 (some (.int r)) H C S) : aOK s_P X (d + 1) a_m270 0 [some (.ref 155), some (.int al), some (.int kd), some (.int n), some (.int f), some (.int st), none, none, none, none] [] h C S K0 := by
  have hJ' := hJ
  obtain ⟨q1, q2, q3, q4, q5, q6, q7⟩ := hJ'
  obtain ⟨ln, pe, l1, l2, l3⟩ := id q7
  obtain ⟨b1, b2⟩ := y_lnb hr l1
  have out : ∀ {G : aH} {r : Int32}, y_fr h G [19584] [183] → K0 (some (.int r)) G C S := fun g => hk _ _ (y_mo g rfl rfl) (y_J_fr g rfl rfl hJ)
  have T173 : ∀ {G : aH} {v' k' : Int32} {o8 o9 : Option Value}, y_fr h G [19584] [183] → ln.toInt ≤ 7 → 1 ≤ al.toInt → al.toInt ≤ 1000000 → aOK s_P X (d + 1) a_m270 173 [some (.ref 155), some (.int al), some (.int kd), some (.int n), some (.int f), some (.int st), some (.int v'), some (.int k'), o8, o9] [] G C S K0 := by
    intro G v' k' o8 o9 e l7 a1 a2
    have hinc : (ln + Int32.ofInt 1).toInt = ln.toInt + 1 := y_inc (by omega)
    refine w_go z_hl [] [] 60 e.1 ?_
    intro x hx _ _
    obtain rfl := y_fi ((y_fe e rfl).trans l1) hx
    refine ⟨⟨by omega, by omega⟩, ⟨by omega, by omega⟩, fun l hl len bb => ?_⟩
    obtain rfl := y_ai ((y_ae e rfl).trans l2) hl
    refine ⟨rfl, y_zini (by show 0 ≤ (ln + Int32.ofInt 1).toInt; omega) (by show (ln + Int32.ofInt 1).toInt ≤ 8; omega), ?_⟩
    intro H hH
    have e2 : y_fr h H [19584, 19640] [182, 183] := y_st (y_mo e rfl rfl) hH (by repeat (first | exact w_nil | refine w_cons (Or.inl (y_m rfl)) ?_ | refine w_cons (Or.inr (by assumption)) ?_)) (by repeat (first | exact w_nil | refine w_cons (Or.inl (y_m rfl)) ?_ | refine w_cons (Or.inr (by assumption)) ?_))
    refine hk _ H e2 ⟨j_net_e (y_fe e2 rfl) (y_ae e2 rfl) (y_ae e2 rfl) (y_ae e2 rfl) q1, j_dp_e (y_fe e2 rfl) (y_fe e2 rfl) (y_ae e2 rfl) q2, j_old_e (y_ae e2 rfl) (y_ae e2 rfl) (y_ae e2 rfl) (y_ae e2 rfl) (y_ae e2 rfl) (y_ae e2 rfl) q3, j_w_e (y_fe e2 rfl) (y_ae e2 rfl) q4, j_seen_e (y_fe e2 rfl) (y_fe e2 rfl) (y_ae e2 rfl) (y_ae e2 rfl) q5, j_kept_e (y_fe e2 rfl) (y_ae e2 rfl) (y_ae e2 rfl) (y_ae e2 rfl) (y_ae e2 rfl) q6, ⟨_, _, hH.2.1 19640 _ rfl, hH.2.2.1 182 _ rfl, fun k hk' => ?_⟩⟩
    rw [y_Nset (show ln.toNatClampNeg < pe.length by show ln.toInt.toNat < _; omega)]
    split
    · exact a1
    · rename_i ne
      refine l3 k ?_
      have hk2 : (k : Int) < (ln + Int32.ofInt 1).toInt := hk'
      have hcl : ln.toNatClampNeg = ln.toInt.toNat := rfl
      omega
  have T46 : ∀ {G : aH}, y_fr h G [19584] [] → ln.toInt ≤ 7 → 1 ≤ al.toInt → al.toInt ≤ 1000000 → aOK s_P X (d + 1) a_m270 46 [some (.ref 155), some (.int al), some (.int kd), some (.int n), some (.int f), some (.int st), none, none, none, none] [] G C S K0 := by
    intro G e l7 a1 a2
    have go : ∀ {H : aH}, y_fr h H [19584] [] → aOK s_P X (d + 1) a_m270 58 [some (.ref 155), some (.int al), some (.int kd), some (.int n), some (.int f), some (.int st), none, none, none, none] [] H C S K0 := by
      intro H e2
      refine w_go z_hl [65] [] 60 e2.1 ?_
      intro H3 h3
      have e3 := y_st e2 h3 (by repeat (first | exact w_nil | refine w_cons (Or.inl (y_m rfl)) ?_ | refine w_cons (Or.inr (by assumption)) ?_)) (by repeat (first | exact w_nil | refine w_cons (Or.inl (y_m rfl)) ?_ | refine w_cons (Or.inr (by assumption)) ?_))
      exact y_land_loop b1 l7 a1 a2 6 H3 _ _ 0 _ _ e3.1 ((y_fe e3 rfl).trans l1) rfl rfl (fun r H4 e4 => out (y_sq (y_mo e3 rfl rfl) e4 rfl rfl)) (fun H4 v' k' o8 o9 e4 => T173 (y_sq (y_mo e3 rfl rfl) e4 rfl rfl) l7 a1 a2)
    refine w_go z_hl [58] [] 60 e.1 ?_
    refine ⟨fun _ => fun H hH => go (y_st e hH (by repeat (first | exact w_nil | refine w_cons (Or.inl (y_m rfl)) ?_ | refine w_cons (Or.inr (by assumption)) ?_)) (by repeat (first | exact w_nil | refine w_cons (Or.inl (y_m rfl)) ?_ | refine w_cons (Or.inr (by assumption)) ?_))), fun _ => ⟨fun _ => fun H hH => go (y_st e hH (by repeat (first | exact w_nil | refine w_cons (Or.inl (y_m rfl)) ?_ | refine w_cons (Or.inr (by assumption)) ?_)) (by repeat (first | exact w_nil | refine w_cons (Or.inl (y_m rfl)) ?_ | refine w_cons (Or.inr (by assumption)) ?_))), fun _ => fun H hH => out (y_st (y_mo e rfl rfl) hH (by repeat (first | exact w_nil | refine w_cons (Or.inl (y_m rfl)) ?_ | refine w_cons (Or.inr (by assumption)) ?_)) (by repeat (first | exact w_nil | refine w_cons (Or.inl (y_m rfl)) ?_ | refine w_cons (Or.inr (by assumption)) ?_)))⟩⟩
  have T26n : ∀ {G : aH}, y_fr h G [19584] [] → aOK s_P X (d + 1) a_m270 26 [some (.ref 155), some (.int al), some (.int kd), some (.int n), some (.int f), some (.int st), none, none, none, none] [.int (y_01 false)] G C S K0 := by
    intro G e
    refine w_go z_hl [] [] 60 e.1 ?_
    exact ⟨fun _ => fun H hH => out (y_st (y_mo e rfl rfl) hH (by repeat (first | exact w_nil | refine w_cons (Or.inl (y_m rfl)) ?_ | refine w_cons (Or.inr (by assumption)) ?_)) (by repeat (first | exact w_nil | refine w_cons (Or.inl (y_m rfl)) ?_ | refine w_cons (Or.inr (by assumption)) ?_))), fun q => absurd q (by decide)⟩
  have T26 : ∀ {G : aH}, y_fr h G [19584] [] → 1 ≤ al.toInt → al.toInt ≤ 1000000 → aOK s_P X (d + 1) a_m270 26 [some (.ref 155), some (.int al), some (.int kd), some (.int n), some (.int f), some (.int st), none, none, none, none] [.int (y_01 true)] G C S K0 := by
    intro G e a1 a2
    refine w_go z_hl [46] [] 60 e.1 ?_
    refine ⟨fun q => absurd q (by decide), fun _ => ⟨fun _ => fun H hH => out (y_st (y_mo e rfl rfl) hH (by repeat (first | exact w_nil | refine w_cons (Or.inl (y_m rfl)) ?_ | refine w_cons (Or.inr (by assumption)) ?_)) (by repeat (first | exact w_nil | refine w_cons (Or.inl (y_m rfl)) ?_ | refine w_cons (Or.inr (by assumption)) ?_))), fun _ => ?_⟩⟩
    intro x hx _ _
    obtain rfl := y_fi ((y_fe e rfl).trans l1) hx
    refine ⟨fun q => fun H hH => ?_, fun _ => fun H hH => out (y_st (y_mo e rfl rfl) hH (by repeat (first | exact w_nil | refine w_cons (Or.inl (y_m rfl)) ?_ | refine w_cons (Or.inr (by assumption)) ?_)) (by repeat (first | exact w_nil | refine w_cons (Or.inl (y_m rfl)) ?_ | refine w_cons (Or.inr (by assumption)) ?_)))⟩
    have q8 : ln.toInt ≠ ((Int8.ofInt 8).toInt32).toInt := (y_ci .ne _ _).mp q
    rw [y_c8] at q8
    exact T46 (y_st e hH (by repeat (first | exact w_nil | refine w_cons (Or.inl (y_m rfl)) ?_ | refine w_cons (Or.inr (by assumption)) ?_)) (by repeat (first | exact w_nil | refine w_cons (Or.inl (y_m rfl)) ?_ | refine w_cons (Or.inr (by assumption)) ?_))) (by omega) a1 a2
  have T14n : ∀ {G : aH}, y_fr h G [19584] [] → aOK s_P X (d + 1) a_m270 14 [some (.ref 155), some (.int al), some (.int kd), some (.int n), some (.int f), some (.int st), none, none, none, none] [.int (y_01 false)] G C S K0 := by
    intro G e
    refine w_go z_hl [] [] 60 e.1 ?_
    exact ⟨fun _ => fun H hH => out (y_st (y_mo e rfl rfl) hH (by repeat (first | exact w_nil | refine w_cons (Or.inl (y_m rfl)) ?_ | refine w_cons (Or.inr (by assumption)) ?_)) (by repeat (first | exact w_nil | refine w_cons (Or.inl (y_m rfl)) ?_ | refine w_cons (Or.inr (by assumption)) ?_))), fun q => absurd q (by decide)⟩
  have T14 : ∀ {G : aH}, y_fr h G [19584] [] → 1 ≤ al.toInt → al.toInt ≤ 1000000 → aOK s_P X (d + 1) a_m270 14 [some (.ref 155), some (.int al), some (.int kd), some (.int n), some (.int f), some (.int st), none, none, none, none] [.int (y_01 true)] G C S K0 := by
    intro G e a1 a2
    refine w_go z_hl [] [176] 60 e.1 ?_
    refine ⟨fun q => absurd q (by decide), fun _ => fun H hH => ?_⟩
    have e2 := y_st e hH (by repeat (first | exact w_nil | refine w_cons (Or.inl (y_m rfl)) ?_ | refine w_cons (Or.inr (by assumption)) ?_)) (by repeat (first | exact w_nil | refine w_cons (Or.inl (y_m rfl)) ?_ | refine w_cons (Or.inr (by assumption)) ?_))
    refine q_in e2.1 (fun H3 h3 _ _ => ⟨fun n e => (by cases e), ?_⟩) (fun H3 h3 _ => ⟨fun n e => (by cases e), ?_⟩)
    · exact T26 (y_sq e2 h3 rfl rfl) a1 a2
    · exact T26n (y_sq e2 h3 rfl rfl)
  refine w_go z_hl [] [176] 30 hr ?_
  refine ⟨rfl, y_zini (by decide) (by decide), fun H1 h1 => ?_⟩
  have e1 : y_fr h H1 [19584] [] := y_st (y_mo (y_rf hr) rfl rfl) h1 (by repeat (first | exact w_nil | refine w_cons (Or.inl (y_m rfl)) ?_ | refine w_cons (Or.inr (by assumption)) ?_)) (by repeat (first | exact w_nil | refine w_cons (Or.inl (y_m rfl)) ?_ | refine w_cons (Or.inr (by assumption)) ?_))
  refine q_in (v := al.toInt64) (lo := Int64.ofNat 1) (hi := Int64.ofInt 1000000) e1.1 (fun H3 h3 a1 a2 => ⟨fun n e => (by cases e), ?_⟩) (fun H3 h3 _ => ⟨fun n e => (by cases e), ?_⟩)
  · rw [y_i2l] at a1 a2
    rw [y_i64 (by decide) (by decide)] at a2
    exact T14 (y_sq e1 h3 rfl rfl) a1 a2
  · exact T14n (y_sq e1 h3 rfl rfl)
theorem p_mark {h : aH} (hr : w_hr z_D h) (hJ : y_J h) {la mk : Int32} (hk : ∀ (r : Int32) (H : aH), y_fr h H [19584, 19585, 19587, 19588] [154] → y_J H → K0 (some (.int r)) H C S) : aOK s_P X (d + 2) a_m271 0 [some (.ref 155), some (.int la), some (.int mk), none] [] h C S K0 := by
  obtain ⟨ln, pe, l1, l2, l3⟩ := id hJ.2.2.2.2.2.2
  obtain ⟨b1, b2⟩ := y_lnb hr l1
  have out : ∀ {G : aH} {r : Int32}, y_fr h G [19584, 19585, 19587, 19588] [154] → K0 (some (.int r)) G C S := fun g => hk _ _ g (y_J_fr g rfl rfl hJ)
  have T76 : ∀ {G : aH} {o3 : Option Value}, y_fr h G [19584, 19585, 19587, 19588] [154] → aOK s_P X (d + 2) a_m271 76 [some (.ref 155), some (.int la), some (.int mk), o3] [] G C S K0 := by
    intro G o3 e
    refine w_go z_hl [] [] 30 e.1 ?_
    intro H hH
    exact out (y_st e hH (by repeat (first | exact w_nil | refine w_cons (Or.inl (y_m rfl)) ?_ | refine w_cons (Or.inr (by assumption)) ?_)) (by repeat (first | exact w_nil | refine w_cons (Or.inl (y_m rfl)) ?_ | refine w_cons (Or.inr (by assumption)) ?_)))
  have T67 : ∀ {G : aH} {o3 : Option Value}, y_fr h G [19584, 19585, 19587, 19588] [154] → aOK s_P X (d + 2) a_m271 67 [some (.ref 155), some (.int la), some (.int mk), o3] [] G C S K0 := by
    intro G o3 e
    refine w_go z_hl [] [196] 30 e.1 ?_
    refine ⟨rfl, y_zini (by decide) (by decide), fun H hH => ?_⟩
    have e2 := y_st e hH (by repeat (first | exact w_nil | refine w_cons (Or.inl (y_m rfl)) ?_ | refine w_cons (Or.inr (by assumption)) ?_)) (by repeat (first | exact w_nil | refine w_cons (Or.inl (y_m rfl)) ?_ | refine w_cons (Or.inr (by assumption)) ?_))
    refine y_tells e2.1 (hH.2.1 19585 _ rfl) (by decide) (by decide) (fun H2 r2 e3 _ _ => ⟨fun n e => (by cases e), ?_⟩)
    exact T76 (y_sq e2 e3 rfl rfl)
  have T30 : ∀ {G : aH} {p k : Nat}, y_fr h G [19584] [] → la.toInt = p → la.toInt < ln.toInt → mk.toInt = k → k < 6 → aOK s_P X (d + 2) a_m271 30 [some (.ref 155), some (.int la), some (.int mk), none] [.int (y_01 true)] G C S K0 := by
    intro G p k e hp hp2 hk' hk6
    have i6 := y_i6 hp hk' (by omega) (by omega)
    have b6 : 0 ≤ ((Int8.ofInt 6).toInt32 * la + mk).toInt ∧ ((Int8.ofInt 6).toInt32 * la + mk).toInt < ((48 : Nat) : Int) := by omega
    have pc := y_cl1 hp
    refine w_go z_hl [] [194] 60 e.1 ?_
    refine ⟨fun _ => ?_, fun q => absurd q (by decide)⟩
    refine ⟨b6, fun l hl len bb => ⟨fun q => ?_, fun _ => fun H hH => out (y_st (y_mo e rfl rfl) hH (by repeat (first | exact w_nil | refine w_cons (Or.inl (y_m rfl)) ?_ | refine w_cons (Or.inr (by assumption)) ?_)) (by repeat (first | exact w_nil | refine w_cons (Or.inl (y_m rfl)) ?_ | refine w_cons (Or.inr (by assumption)) ?_)))⟩⟩
    have q0 : (0 : Int32).toInt ≤ (l.getD ((Int8.ofInt 6).toInt32 * la + mk).toNatClampNeg 0).toInt := (y_ci .ge _ _).mp q
    refine ⟨⟨by omega, by omega⟩, fun l' hl' len' bb' => ?_⟩
    obtain rfl := y_ai ((y_ae e rfl).trans l2) hl'
    intro H hH
    have e2 := y_st e hH (by repeat (first | exact w_nil | refine w_cons (Or.inl (y_m rfl)) ?_ | refine w_cons (Or.inr (by assumption)) ?_)) (by repeat (first | exact w_nil | refine w_cons (Or.inl (y_m rfl)) ?_ | refine w_cons (Or.inr (by assumption)) ?_))
    have h1 := l3 p (by omega)
    refine q_lowest (n := (l.getD ((Int8.ofInt 6).toInt32 * la + mk).toNatClampNeg 0).toInt64) (m := (pe.getD la.toNatClampNeg 0).toInt64) e2.1 (by rw [y_i2l]; rw [show (0 : Int32).toInt = 0 by decide] at q0; omega) (by rw [y_i2l, pc]; exact h1) (fun u l H2 e3 _ _ _ _ _ _ _ => ⟨fun n e => (by cases e), ?_⟩)
    exact T67 (y_sq (y_mo e2 rfl rfl) e3 rfl rfl)
  have T30n : ∀ {G : aH}, y_fr h G [19584] [] → aOK s_P X (d + 2) a_m271 30 [some (.ref 155), some (.int la), some (.int mk), none] [.int (y_01 false)] G C S K0 := by
    intro G e
    refine w_go z_hl [] [] 60 e.1 ?_
    exact ⟨fun q => absurd q (by decide), fun _ => fun H hH => out (y_st (y_mo e rfl rfl) hH (by repeat (first | exact w_nil | refine w_cons (Or.inl (y_m rfl)) ?_ | refine w_cons (Or.inr (by assumption)) ?_)) (by repeat (first | exact w_nil | refine w_cons (Or.inl (y_m rfl)) ?_ | refine w_cons (Or.inr (by assumption)) ?_)))⟩
  have T18 : ∀ {G : aH} {p : Nat}, y_fr h G [19584] [] → la.toInt = p → la.toInt < ln.toInt → aOK s_P X (d + 2) a_m271 18 [some (.ref 155), some (.int la), some (.int mk), none] [.int (y_01 true)] G C S K0 := by
    intro G p e hp hp2
    refine w_go z_hl [] [176] 60 e.1 ?_
    refine ⟨fun q => absurd q (by decide), fun _ => fun H hH => ?_⟩
    have e2 := y_st e hH (by repeat (first | exact w_nil | refine w_cons (Or.inl (y_m rfl)) ?_ | refine w_cons (Or.inr (by assumption)) ?_)) (by repeat (first | exact w_nil | refine w_cons (Or.inl (y_m rfl)) ?_ | refine w_cons (Or.inr (by assumption)) ?_))
    refine q_in (v := mk.toInt64) (lo := Int64.ofNat 0) (hi := Int64.ofInt 5) e2.1 (fun H3 h3 a1 a2 => ⟨fun n e => (by cases e), ?_⟩) (fun H3 h3 _ => ⟨fun n e => (by cases e), ?_⟩)
    · rw [y_i2l] at a1 a2
      rw [y_i64 (by decide) (by decide)] at a2
      have a1 : 0 ≤ mk.toInt := a1
      exact T30 (k := mk.toInt.toNat) (y_sq e2 h3 rfl rfl) hp hp2 (by omega) (by omega)
    · exact T30n (y_sq e2 h3 rfl rfl)
  have T18n : ∀ {G : aH}, y_fr h G [19584] [] → aOK s_P X (d + 2) a_m271 18 [some (.ref 155), some (.int la), some (.int mk), none] [.int (y_01 false)] G C S K0 := by
    intro G e
    refine w_go z_hl [] [] 60 e.1 ?_
    exact ⟨fun _ => fun H hH => out (y_st (y_mo e rfl rfl) hH (by repeat (first | exact w_nil | refine w_cons (Or.inl (y_m rfl)) ?_ | refine w_cons (Or.inr (by assumption)) ?_)) (by repeat (first | exact w_nil | refine w_cons (Or.inl (y_m rfl)) ?_ | refine w_cons (Or.inr (by assumption)) ?_))), fun q => absurd q (by decide)⟩
  refine w_go z_hl [] [176] 30 hr ?_
  refine ⟨rfl, y_zini (by decide) (by decide), ?_⟩
  intro x hx _ _
  obtain rfl := y_fi l1 hx
  intro H1 h1
  have e1 : y_fr h H1 [19584] [] := y_st (y_mo (y_rf hr) rfl rfl) h1 (by repeat (first | exact w_nil | refine w_cons (Or.inl (y_m rfl)) ?_ | refine w_cons (Or.inr (by assumption)) ?_)) (by repeat (first | exact w_nil | refine w_cons (Or.inl (y_m rfl)) ?_ | refine w_cons (Or.inr (by assumption)) ?_))
  refine q_in (v := la.toInt64) (lo := Int64.ofNat 0) (hi := (ln - Int32.ofInt 1).toInt64) e1.1 (fun H3 h3 a1 a2 => ⟨fun n e => (by cases e), ?_⟩) (fun H3 h3 _ => ⟨fun n e => (by cases e), ?_⟩)
  · rw [y_i2l] at a1
    rw [y_i2l, y_i2l, y_sub1 b1] at a2
    have a1 : 0 ≤ la.toInt := a1
    exact T18 (p := la.toInt.toNat) (y_sq e1 h3 rfl rfl) (by omega) (by omega)
  · exact T18n (y_sq e1 h3 rfl rfl)
end WG
end PT28e
section PT28f
/-! ===== v3: the reference's choices, byLot ===== -/
def y_ch (n k : Nat) : Nat → Nat
  | 0 => 1
  | i + 1 => y_ch n k i * (n - k + (i + 1)) / (i + 1)
def y_chk (n k : Nat) : Bool := (List.range (k + 1)).all (fun i => Nat.ble 1 (y_ch n k i) && Nat.ble (y_ch n k i) 155117520)
set_option maxRecDepth 100000 in
theorem y_ch0 : (List.range 31).all (fun n => (List.range (n + 1)).all (fun k => y_chk n k)) = true := by decide +kernel
theorem y_ch_b {n k i : Nat} (hn : n ≤ 30) (hk : k ≤ n) (hi : i ≤ k) : 1 ≤ y_ch n k i ∧ y_ch n k i ≤ 155117520 := by
  have h1 := List.all_eq_true.mp y_ch0 n (List.mem_range.mpr (by omega))
  have h2 := List.all_eq_true.mp h1 k (List.mem_range.mpr (by omega))
  have h3 := List.all_eq_true.mp h2 i (List.mem_range.mpr (by omega))
  rw [Bool.and_eq_true] at h3
  exact ⟨Nat.ble_eq.mp h3.1, Nat.ble_eq.mp h3.2⟩
theorem y_div64 {a b : Int64} {m n : Nat} (ha : a.toInt = m) (hb : b.toInt = n) (hn : 1 ≤ n) : (a / b).toInt = ((m / n : Nat) : Int) := by
  have h1 := a.toInt_lt
  rw [Int64.toInt_div, ha, hb]
  have e : Int.tdiv (m : Int) (n : Int) = ((m / n : Nat) : Int) := by
    rw [Int.tdiv_eq_ediv_of_nonneg (by omega)]
    rfl
  rw [e]
  have h2 : m / n ≤ m := Nat.div_le_self m n
  generalize m / n = q at h2 ⊢
  exact Int.bmod_eq_of_le (by omega) (by omega)
theorem y_mul64 {a b : Int64} {m n : Nat} (p : Nat) (ha : a.toInt = m) (hb : b.toInt = n) (hp : m * n = p) (h : p < 9223372036854775808) : (a * b).toInt = p := by
  rw [Int64.toInt_mul, ha, hb, ← Int.natCast_mul, hp]
  exact Int.bmod_eq_of_le (by omega) (by omega)
theorem y_add64 {a b : Int64} {m n : Nat} (p : Nat) (ha : a.toInt = m) (hb : b.toInt = n) (hp : m + n = p) (h : p < 9223372036854775808) : (a + b).toInt = p := by
  rw [Int64.toInt_add, ha, hb, show (m : Int) + n = p by omega]
  exact Int.bmod_eq_of_le (by omega) (by omega)
theorem y_subS {a b : Int32} {m n : Nat} (p : Nat) (ha : a.toInt = m) (hb : b.toInt = n) (hp : n + p = m) (h : p < 2147483648) : (a - b).toInt = p := by
  rw [Int32.toInt_sub, ha, hb, show (m : Int) - n = p by omega]
  exact Int.bmod_eq_of_le (by omega) (by omega)
section WG
variable {X : aX} {C S d : Nat} {K0 : Option Value → aH → Nat → Nat → Prop}
theorem y_choices_loop {nI kI : Int32} {n k : Nat} (hn : nI.toInt = n) (hk : kI.toInt = k) (n30 : n ≤ 30) (hkn : k ≤ n) : ∀ (t : Nat) (h : aH) (c : Int64) (iI : Int32) (i : Nat), w_hr z_D h → iI.toInt = ((i + 1 : Nat) : Int) → i + t = k → c.toInt = y_ch n k i →
    (∀ (r : Int64) (H : aH), y_fr h H [] [] → r.toInt = y_ch n k k → K0 (some (.long r)) H C S) →
    aOK s_P X d a_m277 16 [some (.int nI), some (.int kI), some (.long c), none, some (.int iI)] [] h C S K0 := by
  intro t
  induction t with
  | zero =>
    intro h c iI i hr hi hit hc hK
    refine w_go z_hl [16] [] 30 hr ?_
    refine ⟨fun q => fun H hH => hK c H (y_st (y_rf hr) hH (by repeat (first | exact w_nil | refine w_cons (Or.inl (y_m rfl)) ?_ | refine w_cons (Or.inr (by assumption)) ?_)) (by repeat (first | exact w_nil | refine w_cons (Or.inl (y_m rfl)) ?_ | refine w_cons (Or.inr (by assumption)) ?_))) (by rw [hc, show i = k by omega]), fun q => ?_⟩
    have : ¬ (kI.toInt < iI.toInt) := y_cif q
    omega
  | succ t ih =>
    intro h c iI i hr hi hit hc hK
    have b := y_ch_b n30 hkn (show i ≤ k by omega)
    have b2 := y_ch_b n30 hkn (show i + 1 ≤ k by omega)
    have hii : (iI + Int32.ofInt 1).toInt = ((i + 1 + 1 : Nat) : Int) := by rw [y_inc (by omega), hi]; rfl
    have s1 := y_addS (n - k + (i + 1)) (y_subS (n - k) hn hk (by omega) (by omega)) hi rfl (by omega)
    have hle : y_ch n k i * (n - k + (i + 1)) ≤ 155117520 * 60 := Nat.mul_le_mul b.2 (by omega)
    have m1 : (c * (nI - kI + iI).toInt64).toInt = ((y_ch n k i * (n - k + (i + 1)) : Nat) : Int) := y_mul64 _ hc (by rw [y_i2l]; exact s1) rfl (by omega)
    have d1 : (c * (nI - kI + iI).toInt64 / iI.toInt64).toInt = ((y_ch n k (i + 1) : Nat) : Int) := y_div64 m1 (by rw [y_i2l]; exact hi) (by omega)
    refine w_go z_hl [16] [] 30 hr ?_
    refine ⟨fun q => ?_, fun q => ?_⟩
    · have : kI.toInt < iI.toInt := (y_ci .gt _ _).mp q
      omega
    · refine ⟨fun e => ?_, fun H hH => ?_⟩
      · have e2 : iI.toInt64.toInt = 0 := by rw [e]; rfl
        rw [y_i2l] at e2
        omega
      · have e : y_fr h H [] [] := y_st (y_rf hr) hH (by repeat (first | exact w_nil | refine w_cons (Or.inl (y_m rfl)) ?_ | refine w_cons (Or.inr (by assumption)) ?_)) (by repeat (first | exact w_nil | refine w_cons (Or.inl (y_m rfl)) ?_ | refine w_cons (Or.inr (by assumption)) ?_))
        exact ih H _ _ (i + 1) e.1 hii (by omega) d1 (fun r H' f => hK r H' (y_sq e f rfl rfl))
theorem y_choices {h : aH} (hr : w_hr z_D h) {nI kI : Int32} (n0 : 0 ≤ nI.toInt) (n30 : nI.toInt ≤ 30) (hK : ∀ (r : Int64) (H : aH) (v : Nat), y_fr h H [] [] → r.toInt = v → v ≤ 155117520 → (0 ≤ kI.toInt → kI.toInt ≤ nI.toInt → 1 ≤ v) → K0 (some (.long r)) H C S) : aOK s_P X d a_m277 0 [some (.int nI), some (.int kI), none, none, none] [] h C S K0 := by
  refine w_go z_hl [16] [] 30 hr ?_
  refine ⟨fun q => fun H hH => ?_, fun q => ⟨fun q2 => fun H hH => ?_, fun q2 => fun H hH => ?_⟩⟩
  · have q3 : kI.toInt < (0 : Int32).toInt := (y_ci .lt _ _).mp q
    rw [show (0 : Int32).toInt = 0 by decide] at q3
    exact hK _ H 0 (y_st (y_rf hr) hH (by repeat (first | exact w_nil | refine w_cons (Or.inl (y_m rfl)) ?_ | refine w_cons (Or.inr (by assumption)) ?_)) (by repeat (first | exact w_nil | refine w_cons (Or.inl (y_m rfl)) ?_ | refine w_cons (Or.inr (by assumption)) ?_))) rfl (by omega) (fun _ _ => by omega)
  · have q3 : ¬ (kI.toInt < (0 : Int32).toInt) := y_cif q
    rw [show (0 : Int32).toInt = 0 by decide] at q3
    have q4 : kI.toInt ≤ nI.toInt := (y_ci .le _ _).mp q2
    have e : y_fr h H [] [] := y_st (y_rf hr) hH (by repeat (first | exact w_nil | refine w_cons (Or.inl (y_m rfl)) ?_ | refine w_cons (Or.inr (by assumption)) ?_)) (by repeat (first | exact w_nil | refine w_cons (Or.inl (y_m rfl)) ?_ | refine w_cons (Or.inr (by assumption)) ?_))
    refine y_choices_loop (n := nI.toInt.toNat) (k := kI.toInt.toNat) (by omega) (by omega) (by omega) (by omega) kI.toInt.toNat H _ _ 0 e.1 rfl (by omega) rfl (fun r H' f hr' => ?_)
    have b := y_ch_b (n := nI.toInt.toNat) (k := kI.toInt.toNat) (i := kI.toInt.toNat) (by omega) (by omega) (by omega)
    exact hK r H' _ (y_sq e f rfl rfl) hr' b.2 (fun _ _ => b.1)
  · have q4 : ¬ (kI.toInt ≤ nI.toInt) := y_cif q2
    exact hK _ H 0 (y_st (y_rf hr) hH (by repeat (first | exact w_nil | refine w_cons (Or.inl (y_m rfl)) ?_ | refine w_cons (Or.inr (by assumption)) ?_)) (by repeat (first | exact w_nil | refine w_cons (Or.inl (y_m rfl)) ?_ | refine w_cons (Or.inr (by assumption)) ?_))) rfl (by omega) (fun _ _ => by omega)
theorem y_lot_all {de on dy : Int32} (d0 : 0 ≤ dy.toInt) (d30 : dy.toInt ≤ 30) : ∀ (t : Nat) (h : aH) (aI kI : Int32) (a k : Nat), w_hr z_D h → w_f h 19643 = some (.int dy) → aI.toInt = a → kI.toInt = k → (k : Int) + t = dy.toInt → a ≤ k →
    (∀ (H : aH) (aI' : Int32) (a' : Nat) (k' : Int32), y_fr h H [] [] → aI'.toInt = a' → (a' : Int) ≤ dy.toInt → aOK s_P X (d + 1) a_m276 33 [some (.ref 155), some (.int de), some (.int on), some (.int aI'), some (.int k'), none, none] [] H C S K0) →
    aOK s_P X (d + 1) a_m276 5 [some (.ref 155), some (.int de), some (.int on), some (.int aI), some (.int kI), none, none] [] h C S K0 := by
  intro t
  induction t with
  | zero =>
    intro h aI kI a k hr g1 ha hk hkt hak hK
    refine w_go z_hl [5, 33] [] 40 hr ?_
    intro x hx _ _
    obtain rfl := y_fi g1 hx
    refine ⟨fun q => fun H hH => hK H _ _ _ (y_st (y_rf hr) hH (by repeat (first | exact w_nil | refine w_cons (Or.inl (y_m rfl)) ?_ | refine w_cons (Or.inr (by assumption)) ?_)) (by repeat (first | exact w_nil | refine w_cons (Or.inl (y_m rfl)) ?_ | refine w_cons (Or.inr (by assumption)) ?_))) ha (by omega), fun q => ?_⟩
    have : ¬ (dy.toInt ≤ kI.toInt) := y_cif q
    omega
  | succ t ih =>
    intro h aI kI a k hr g1 ha hk hkt hak hK
    have hik : (kI + Int32.ofInt 1).toInt = ((k + 1 : Nat) : Int) := by rw [y_inc (by omega), hk]; rfl
    have z1 : (aI + Int32.ofInt 1).toInt = ((a + 1 : Nat) : Int) := by rw [y_inc (by omega), ha]; rfl
    have z0 : (aI + Int32.ofInt 0).toInt = (a : Int) := by rw [show Int32.ofInt 0 = (0 : Int32) by decide, Int32.add_zero]; exact ha
    refine w_go z_hl [5, 33] [] 40 hr ?_
    intro x hx _ _
    obtain rfl := y_fi g1 hx
    refine ⟨fun q => ?_, fun q => ?_⟩
    · have : dy.toInt ≤ kI.toInt := (y_ci .ge _ _).mp q
      omega
    · refine ⟨⟨by omega, by omega⟩, fun l hl len bb => ⟨fun _ => fun H hH => ?_, fun _ => fun H hH => ?_⟩⟩
      · have e : y_fr h H [] [] := y_st (y_rf hr) hH (by repeat (first | exact w_nil | refine w_cons (Or.inl (y_m rfl)) ?_ | refine w_cons (Or.inr (by assumption)) ?_)) (by repeat (first | exact w_nil | refine w_cons (Or.inl (y_m rfl)) ?_ | refine w_cons (Or.inr (by assumption)) ?_))
        exact ih H _ _ a (k + 1) e.1 ((y_fe e rfl).trans g1) z0 hik (by omega) (by omega) (fun H' a1 a2 a3 f => hK H' a1 a2 a3 (y_sq e f rfl rfl))
      · have e : y_fr h H [] [] := y_st (y_rf hr) hH (by repeat (first | exact w_nil | refine w_cons (Or.inl (y_m rfl)) ?_ | refine w_cons (Or.inr (by assumption)) ?_)) (by repeat (first | exact w_nil | refine w_cons (Or.inl (y_m rfl)) ?_ | refine w_cons (Or.inr (by assumption)) ?_))
        exact ih H _ _ (a + 1) (k + 1) e.1 ((y_fe e rfl).trans g1) z1 hik (by omega) (by omega) (fun H' a1 a2 a3 f => hK H' a1 a2 a3 (y_sq e f rfl rfl))
theorem y_lot_sum {de on dy al : Int32} {a : Nat} (hal : al.toInt = a) (had : (a : Int) ≤ dy.toInt) (d30 : dy.toInt ≤ 30) (e0 : 0 ≤ de.toInt) (ed : de.toInt ≤ dy.toInt) : ∀ (t : Nat) (h : aH) (sum : Int64) (iI : Int32) (i s : Nat), w_hr z_D h → w_f h 19643 = some (.int dy) → iI.toInt = i → de.toInt < (i : Int) + t → i ≤ 100 → sum.toInt = s → s ≤ i * 24061445010950400 →
    (∀ (H : aH), y_fr h H [19587, 19588] [] → K0 none H C S) →
    aOK s_P X (d + 2) a_m276 39 [some (.ref 155), some (.int de), some (.int on), some (.int al), some (.long sum), none, some (.int iI)] [] h C S K0 := by
  intro t
  induction t with
  | zero =>
    intro h sum iI i s hr g1 hi hit i100 hs hsb hK
    have T90 : ∀ {G : aH}, y_fr h G [19587, 19588] [] → aOK s_P X (d + 2) a_m276 90 [some (.ref 155), some (.int de), some (.int on), some (.int al), some (.long sum), none, some (.int iI)] [] G C S K0 := by
      intro G e
      refine w_go z_hl [] [] 30 e.1 ?_
      intro H hH
      exact hK H (y_st e hH (by repeat (first | exact w_nil | refine w_cons (Or.inl (y_m rfl)) ?_ | refine w_cons (Or.inr (by assumption)) ?_)) (by repeat (first | exact w_nil | refine w_cons (Or.inl (y_m rfl)) ?_ | refine w_cons (Or.inr (by assumption)) ?_)))
    have T87 : ∀ {G : aH} {c : Int64}, y_fr h G [] [] → 1 ≤ c.toInt → aOK s_P X (d + 2) a_m276 87 [some (.ref 155), some (.int de), some (.int on), some (.int al), some (.long sum), none, some (.int iI)] [.long c, .long sum, .ref 155] G C S K0 := by
      intro G c e hc
      refine w_go z_hl [] [194] 30 e.1 ?_
      intro H hH
      have e2 := y_st e hH (by repeat (first | exact w_nil | refine w_cons (Or.inl (y_m rfl)) ?_ | refine w_cons (Or.inr (by assumption)) ?_)) (by repeat (first | exact w_nil | refine w_cons (Or.inl (y_m rfl)) ?_ | refine w_cons (Or.inr (by assumption)) ?_))
      refine q_lowest e2.1 (by omega) hc (fun u l H2 e3 _ _ _ _ _ _ _ => ⟨fun n e => (by cases e), ?_⟩)
      exact T90 (y_sq (y_mo e2 rfl rfl) e3 rfl rfl)
    refine w_go z_hl [39] [277] 40 hr ?_
    refine ⟨fun q => ?_, fun q => ?_⟩
    · intro x hx _ _
      obtain rfl := y_fi g1 hx
      intro H hH
      have e : y_fr h H [] [] := y_st (y_rf hr) hH (by repeat (first | exact w_nil | refine w_cons (Or.inl (y_m rfl)) ?_ | refine w_cons (Or.inr (by assumption)) ?_)) (by repeat (first | exact w_nil | refine w_cons (Or.inl (y_m rfl)) ?_ | refine w_cons (Or.inr (by assumption)) ?_))
      refine y_choices e.1 (by omega) d30 (fun r H2 v e2 hr2 hv hv1 => ⟨fun n e => (by cases e), ?_⟩)
      have := hv1 e0 ed
      exact T87 (y_sq e e2 rfl rfl) (by omega)
    · have : ¬ (de.toInt < iI.toInt) := y_cif q
      omega
  | succ t ih =>
    intro h sum iI i s hr g1 hi hit i100 hs hsb hK
    have hii : (iI + Int32.ofInt 1).toInt = ((i + 1 : Nat) : Int) := by rw [y_inc (by omega), hi]; rfl
    by_cases hgt : de.toInt < (i : Int)
    · exact (fun ih0 => ih0) (by
        have T90 : ∀ {G : aH}, y_fr h G [19587, 19588] [] → aOK s_P X (d + 2) a_m276 90 [some (.ref 155), some (.int de), some (.int on), some (.int al), some (.long sum), none, some (.int iI)] [] G C S K0 := by
          intro G e
          refine w_go z_hl [] [] 30 e.1 ?_
          intro H hH
          exact hK H (y_st e hH (by repeat (first | exact w_nil | refine w_cons (Or.inl (y_m rfl)) ?_ | refine w_cons (Or.inr (by assumption)) ?_)) (by repeat (first | exact w_nil | refine w_cons (Or.inl (y_m rfl)) ?_ | refine w_cons (Or.inr (by assumption)) ?_)))
        have T87 : ∀ {G : aH} {c : Int64}, y_fr h G [] [] → 1 ≤ c.toInt → aOK s_P X (d + 2) a_m276 87 [some (.ref 155), some (.int de), some (.int on), some (.int al), some (.long sum), none, some (.int iI)] [.long c, .long sum, .ref 155] G C S K0 := by
          intro G c e hc
          refine w_go z_hl [] [194] 30 e.1 ?_
          intro H hH
          have e2 := y_st e hH (by repeat (first | exact w_nil | refine w_cons (Or.inl (y_m rfl)) ?_ | refine w_cons (Or.inr (by assumption)) ?_)) (by repeat (first | exact w_nil | refine w_cons (Or.inl (y_m rfl)) ?_ | refine w_cons (Or.inr (by assumption)) ?_))
          refine q_lowest e2.1 (by omega) hc (fun u l H2 e3 _ _ _ _ _ _ _ => ⟨fun n e => (by cases e), ?_⟩)
          exact T90 (y_sq (y_mo e2 rfl rfl) e3 rfl rfl)
        refine w_go z_hl [39] [277] 40 hr ?_
        refine ⟨fun q => ?_, fun q => ?_⟩
        · intro x hx _ _
          obtain rfl := y_fi g1 hx
          intro H hH
          have e : y_fr h H [] [] := y_st (y_rf hr) hH (by repeat (first | exact w_nil | refine w_cons (Or.inl (y_m rfl)) ?_ | refine w_cons (Or.inr (by assumption)) ?_)) (by repeat (first | exact w_nil | refine w_cons (Or.inl (y_m rfl)) ?_ | refine w_cons (Or.inr (by assumption)) ?_))
          refine y_choices e.1 (by omega) d30 (fun r H2 v e2 hr2 hv hv1 => ⟨fun n e => (by cases e), ?_⟩)
          have := hv1 e0 ed
          exact T87 (y_sq e e2 rfl rfl) (by omega)
        · have : ¬ (de.toInt < iI.toInt) := y_cif q
          omega)
    · have T66 : ∀ {G : aH} {c1 c2 : Int64} {v1 v2 : Nat}, y_fr h G [] [] → c1.toInt = v1 → v1 ≤ 155117520 → c2.toInt = v2 → v2 ≤ 155117520 → aOK s_P X (d + 2) a_m276 66 [some (.ref 155), some (.int de), some (.int on), some (.int al), some (.long sum), none, some (.int iI)] [.long c2, .long c1, .long sum] G C S K0 := by
        intro G c1 c2 v1 v2 e h1 b1 h2 b2
        have hp : v1 * v2 ≤ 155117520 * 155117520 := Nat.mul_le_mul b1 b2
        have m1 : (c1 * c2).toInt = ((v1 * v2 : Nat) : Int) := y_mul64 _ h1 h2 rfl (by omega)
        have a1 : (sum + c1 * c2).toInt = ((s + v1 * v2 : Nat) : Int) := y_add64 _ hs m1 rfl (by omega)
        refine w_go z_hl [39] [] 40 e.1 ?_
        intro H hH
        have e2 := y_st e hH (by repeat (first | exact w_nil | refine w_cons (Or.inl (y_m rfl)) ?_ | refine w_cons (Or.inr (by assumption)) ?_)) (by repeat (first | exact w_nil | refine w_cons (Or.inl (y_m rfl)) ?_ | refine w_cons (Or.inr (by assumption)) ?_))
        exact ih H _ _ (i + 1) (s + v1 * v2) e2.1 ((y_fe e2 rfl).trans g1) hii (by omega) (by omega) a1 (by omega) (fun H' f => hK H' (y_sq (y_mo e2 rfl rfl) f rfl rfl))
      have T53 : ∀ {G : aH} {c1 : Int64} {v1 : Nat}, y_fr h G [] [] → c1.toInt = v1 → v1 ≤ 155117520 → aOK s_P X (d + 2) a_m276 53 [some (.ref 155), some (.int de), some (.int on), some (.int al), some (.long sum), none, some (.int iI)] [.long c1, .long sum] G C S K0 := by
        intro G c1 v1 e h1 b1
        obtain ⟨y, hy⟩ : ∃ y : Nat, dy.toInt = y := ⟨dy.toInt.toNat, by omega⟩
        have s1 := y_subS (y - a) hy hal (by omega) (by omega)
        refine w_go z_hl [] [277] 40 e.1 ?_
        intro x hx _ _
        obtain rfl := y_fi ((y_fe e rfl).trans g1) hx
        intro H hH
        have e2 := y_st e hH (by repeat (first | exact w_nil | refine w_cons (Or.inl (y_m rfl)) ?_ | refine w_cons (Or.inr (by assumption)) ?_)) (by repeat (first | exact w_nil | refine w_cons (Or.inl (y_m rfl)) ?_ | refine w_cons (Or.inr (by assumption)) ?_))
        refine y_choices (nI := dy - al) (kI := de - iI) e2.1 (by omega) (by omega) (fun r H2 v e3 hr2 hv hv1 => ⟨fun n e => (by cases e), ?_⟩)
        exact T66 (y_sq e2 e3 rfl rfl) h1 b1 hr2 hv
      refine w_go z_hl [39] [277] 40 hr ?_
      refine ⟨fun q => ?_, fun q => ?_⟩
      · have : de.toInt < iI.toInt := (y_ci .gt _ _).mp q
        omega
      · intro H hH
        have e : y_fr h H [] [] := y_st (y_rf hr) hH (by repeat (first | exact w_nil | refine w_cons (Or.inl (y_m rfl)) ?_ | refine w_cons (Or.inr (by assumption)) ?_)) (by repeat (first | exact w_nil | refine w_cons (Or.inl (y_m rfl)) ?_ | refine w_cons (Or.inr (by assumption)) ?_))
        refine y_choices (nI := al) (kI := iI) e.1 (by omega) (by omega) (fun r H2 v e3 hr2 hv hv1 => ⟨fun n e => (by cases e), ?_⟩)
        exact T53 (y_sq e e3 rfl rfl) hr2 hv
theorem y_byLot {h : aH} (hr : w_hr z_D h) {de on dy : Int32} (g1 : w_f h 19643 = some (.int dy)) (d0 : 0 ≤ dy.toInt) (d30 : dy.toInt ≤ 30) (e0 : 0 ≤ de.toInt) (ed : de.toInt ≤ dy.toInt) (o0 : 0 ≤ on.toInt) (o60 : on.toInt ≤ 60) (hK : ∀ (H : aH), y_fr h H [19587, 19588] [] → K0 none H C S) : aOK s_P X (d + 2) a_m276 0 [some (.ref 155), some (.int de), some (.int on), none, none, none, none] [] h C S K0 := by
  refine w_go z_hl [5] [] 40 hr ?_
  intro H hH
  have e : y_fr h H [] [] := y_st (y_rf hr) hH (by repeat (first | exact w_nil | refine w_cons (Or.inl (y_m rfl)) ?_ | refine w_cons (Or.inr (by assumption)) ?_)) (by repeat (first | exact w_nil | refine w_cons (Or.inl (y_m rfl)) ?_ | refine w_cons (Or.inr (by assumption)) ?_))
  refine y_lot_all d0 d30 dy.toInt.toNat H _ _ 0 0 e.1 ((y_fe e rfl).trans g1) rfl rfl (by omega) (by omega) (fun H2 aI' a' k' e2 ha ha2 => ?_)
  have e3 := y_sq e e2 rfl rfl
  refine w_go z_hl [39] [] 40 e3.1 ?_
  intro H4 h4
  have e4 := y_st e3 h4 (by repeat (first | exact w_nil | refine w_cons (Or.inl (y_m rfl)) ?_ | refine w_cons (Or.inr (by assumption)) ?_)) (by repeat (first | exact w_nil | refine w_cons (Or.inl (y_m rfl)) ?_ | refine w_cons (Or.inr (by assumption)) ?_))
  exact y_lot_sum ha ha2 d30 e0 ed 32 H4 _ _ on.toInt.toNat 0 e4.1 ((y_fe e4 rfl).trans g1) (by omega) (by omega) (by omega) rfl (by omega) (fun H' f => hK H' (y_sq (y_mo e4 rfl rfl) f rfl rfl))
end WG
end PT28f
section PT28g
/-! ===== v3: the reference's goesOn, apart ===== -/
def y_z (l : List Int32) : Nat → Nat
  | 0 => 0
  | n + 1 => y_z l n + if l.getD n 0 = 0 then 1 else 0
theorem y_z_le (l : List Int32) : ∀ n, y_z l n ≤ n
  | 0 => Nat.le_refl 0
  | n + 1 => by
    show y_z l n + (if l.getD n 0 = 0 then 1 else 0) ≤ n + 1
    have := y_z_le l n
    split <;> omega
theorem y_z_ge {l : List Int32} {k : Nat} {x : Int32} (hl : k < l.length) : ∀ {n : Nat}, n ≤ k → y_z (l.set k x) n = y_z l n
  | 0, _ => rfl
  | n + 1, h => by
    show y_z (l.set k x) n + (if (l.set k x).getD n 0 = 0 then 1 else 0) = y_z l n + (if l.getD n 0 = 0 then 1 else 0)
    rw [y_z_ge hl (by omega), y_gset hl, if_neg (show ¬ n = k by omega)]
theorem y_z_set {l : List Int32} {k : Nat} {x : Int32} (hl : k < l.length) (h0 : l.getD k 0 = 0) (hx : x ≠ 0) : ∀ {n : Nat}, k < n → y_z (l.set k x) n + 1 = y_z l n
  | 0, h => absurd h (by omega)
  | n + 1, h => by
    show y_z (l.set k x) n + (if (l.set k x).getD n 0 = 0 then 1 else 0) + 1 = y_z l n + (if l.getD n 0 = 0 then 1 else 0)
    rw [y_gset hl]
    by_cases q : n = k
    · subst q
      rw [if_pos rfl, if_neg hx, if_pos h0, y_z_ge hl (Nat.le_refl n)]
    · rw [if_neg q]
      have := y_z_set hl h0 hx (n := n) (by omega)
      omega
theorem y_set0 {l : List Int32} {k : Nat} (hl : k < l.length) (h0 : l.getD k 0 = 0) : l.set k (Int32.ofInt 0) = l := by
  apply List.ext_getElem? 
  intro i
  rw [List.getElem?_set]
  split
  · rename_i e
    subst e
    rw [List.getElem?_eq_getElem hl]
    rw [List.getD_eq_getElem?_getD, List.getElem?_eq_getElem hl] at h0
    have h0' : l[k] = 0 := h0
    rw [h0']
    rfl
  · rfl
section WG
variable {X : aX} {C S d : Nat} {K0 : Option Value → aH → Nat → Nat → Prop}
theorem y_leansOn {h : aH} (hr : w_hr z_D h) {v on : Int32} (v0 : 0 ≤ v.toInt) (v10 : v.toInt < 10) (hK : ∀ (b : Bool) (H : aH), y_fr h H [] [] → K0 (some (.int (y_01 b))) H C S) : aOK s_P X (d + 1) a_m211 0 [some (.ref 155), some (.int v), some (.int on)] [] h C S K0 := by
  refine w_go z_hl [] [] 60 hr ?_
  refine ⟨⟨by omega, by omega⟩, fun l hl len bb => ⟨fun _ => ⟨by decide, fun H hH => ?_⟩, fun _ => ⟨⟨by omega, by omega⟩, fun l2 hl2 len2 bb2 => ⟨fun _ => ⟨by decide, ⟨fun _ => ⟨by decide, fun H hH => ?_⟩, fun q => absurd q (by decide)⟩⟩, fun _ => ⟨by decide, ⟨fun q => absurd q (by decide), fun _ => ⟨by decide, fun H hH => ?_⟩⟩⟩⟩⟩⟩⟩
  · exact hK false H (y_st (y_rf hr) hH (by repeat (first | exact w_nil | refine w_cons (Or.inl (y_m rfl)) ?_ | refine w_cons (Or.inr (by assumption)) ?_)) (by repeat (first | exact w_nil | refine w_cons (Or.inl (y_m rfl)) ?_ | refine w_cons (Or.inr (by assumption)) ?_)))
  · exact hK false H (y_st (y_rf hr) hH (by repeat (first | exact w_nil | refine w_cons (Or.inl (y_m rfl)) ?_ | refine w_cons (Or.inr (by assumption)) ?_)) (by repeat (first | exact w_nil | refine w_cons (Or.inl (y_m rfl)) ?_ | refine w_cons (Or.inr (by assumption)) ?_)))
  · exact hK true H (y_st (y_rf hr) hH (by repeat (first | exact w_nil | refine w_cons (Or.inl (y_m rfl)) ?_ | refine w_cons (Or.inr (by assumption)) ?_)) (by repeat (first | exact w_nil | refine w_cons (Or.inl (y_m rfl)) ?_ | refine w_cons (Or.inr (by assumption)) ?_)))
theorem y_given_loop {node gv nd : Int32} (n0 : 0 ≤ nd.toInt) (n10 : nd.toInt ≤ 10) : ∀ (M : Nat) (h : aH) (its rI vI oI : Int32), w_hr z_D h → w_f h 19591 = some (.int nd) → 0 ≤ rI.toInt → rI.toInt < nd.toInt → 0 ≤ vI.toInt → vI.toInt < nd.toInt → 0 ≤ oI.toInt → oI.toInt ≤ nd.toInt → ((nd.toInt - rI.toInt) * 12 + (nd.toInt - vI.toInt)) * 12 + (nd.toInt - oI.toInt) ≤ M →
    (∀ (b : Bool) (H : aH), y_fr h H [] [] → K0 (some (.int (y_01 b))) H C S) →
    aOK s_P X (d + 2) a_m212 31 [some (.ref 155), some (.int node), some (.int gv), some (.int its), some (.int rI), some (.int vI), some (.int oI)] [] h C S K0 := by
  intro M
  induction M with
  | zero =>
    intro h its rI vI oI hr g1 r0 r1 v0 v1 o0 o1 hM hK
    omega
  | succ M ih =>
    intro h its rI vI oI hr g1 r0 r1 v0 v1 o0 o1 hM hK
    have ir : (rI + Int32.ofInt 1).toInt = rI.toInt + 1 := y_inc (by omega)
    have iv : (vI + Int32.ofInt 1).toInt = vI.toInt + 1 := y_inc (by omega)
    have z0 : (Int32.ofInt 0).toInt = 0 := by decide
    have again : ∀ {H : aH} {its' r' v' o' : Int32}, y_fr h H [] [] → 0 ≤ r'.toInt → r'.toInt < nd.toInt → 0 ≤ v'.toInt → v'.toInt < nd.toInt → 0 ≤ o'.toInt → o'.toInt ≤ nd.toInt → ((nd.toInt - r'.toInt) * 12 + (nd.toInt - v'.toInt)) * 12 + (nd.toInt - o'.toInt) ≤ M → aOK s_P X (d + 2) a_m212 31 [some (.ref 155), some (.int node), some (.int gv), some (.int its'), some (.int r'), some (.int v'), some (.int o')] [] H C S K0 := fun e a1 a2 a3 a4 a5 a6 a7 => ih _ _ _ _ _ e.1 ((y_fe e rfl).trans g1) a1 a2 a3 a4 a5 a6 a7 (fun b H' f => hK b H' (y_sq e f rfl rfl))
    have T69 : ∀ {G : aH} {x : Int32}, y_fr h G [] [] → oI.toInt < nd.toInt → aOK s_P X (d + 2) a_m212 69 [some (.ref 155), some (.int node), some (.int gv), some (.int its), some (.int rI), some (.int vI), some (.int oI)] [.int x, .int its] G C S K0 := by
      intro G x e ho
      have io : (oI + Int32.ofInt 1).toInt = oI.toInt + 1 := y_inc (by omega)
      refine w_go z_hl [31] [] 30 e.1 ?_
      intro H hH
      exact again (y_st e hH (by repeat (first | exact w_nil | refine w_cons (Or.inl (y_m rfl)) ?_ | refine w_cons (Or.inr (by assumption)) ?_)) (by repeat (first | exact w_nil | refine w_cons (Or.inl (y_m rfl)) ?_ | refine w_cons (Or.inr (by assumption)) ?_))) r0 r1 v0 v1 (by omega) (by omega) (by omega)
    have T58 : ∀ {G : aH} {b : Bool}, y_fr h G [] [] → oI.toInt < nd.toInt → aOK s_P X (d + 2) a_m212 58 [some (.ref 155), some (.int node), some (.int gv), some (.int its), some (.int rI), some (.int vI), some (.int oI)] [.int (y_01 b), .int its] G C S K0 := by
      intro G b e ho
      refine w_go z_hl [69] [] 30 e.1 ?_
      exact ⟨fun _ => fun H hH => T69 (y_st e hH (by repeat (first | exact w_nil | refine w_cons (Or.inl (y_m rfl)) ?_ | refine w_cons (Or.inr (by assumption)) ?_)) (by repeat (first | exact w_nil | refine w_cons (Or.inl (y_m rfl)) ?_ | refine w_cons (Or.inr (by assumption)) ?_))) ho, fun _ => fun H hH => T69 (y_st e hH (by repeat (first | exact w_nil | refine w_cons (Or.inl (y_m rfl)) ?_ | refine w_cons (Or.inr (by assumption)) ?_)) (by repeat (first | exact w_nil | refine w_cons (Or.inl (y_m rfl)) ?_ | refine w_cons (Or.inr (by assumption)) ?_))) ho⟩
    refine w_go z_hl [31, 69] [211] 60 hr ?_
    intro x hx _ _
    obtain rfl := y_fi g1 hx
    refine ⟨fun q => ?_, fun q => ?_⟩
    · have q2 : nd.toInt ≤ oI.toInt := (y_ci .ge _ _).mp q
      refine ⟨fun q3 => ?_, fun q3 => fun H hH => ?_⟩
      · have q4 : nd.toInt ≤ (vI + Int32.ofInt 1).toInt := (y_ci .ge _ _).mp q3
        refine ⟨fun q5 => ⟨fun _ => ⟨by decide, fun H hH => hK false H (y_st (y_rf hr) hH (by repeat (first | exact w_nil | refine w_cons (Or.inl (y_m rfl)) ?_ | refine w_cons (Or.inr (by assumption)) ?_)) (by repeat (first | exact w_nil | refine w_cons (Or.inl (y_m rfl)) ?_ | refine w_cons (Or.inr (by assumption)) ?_)))⟩, fun _ => ⟨by decide, fun H hH => hK true H (y_st (y_rf hr) hH (by repeat (first | exact w_nil | refine w_cons (Or.inl (y_m rfl)) ?_ | refine w_cons (Or.inr (by assumption)) ?_)) (by repeat (first | exact w_nil | refine w_cons (Or.inl (y_m rfl)) ?_ | refine w_cons (Or.inr (by assumption)) ?_)))⟩⟩, fun q5 => ⟨fun q7 => ?_, fun q7 => fun H hH => ?_⟩⟩
        · have q6 : nd.toInt ≤ (Int32.ofInt 0).toInt := (y_ci .ge _ _).mp q7
          omega
        · have q6 : ¬ (nd.toInt ≤ (rI + Int32.ofInt 1).toInt) := y_cif q5
          exact again (y_st (y_rf hr) hH (by repeat (first | exact w_nil | refine w_cons (Or.inl (y_m rfl)) ?_ | refine w_cons (Or.inr (by assumption)) ?_)) (by repeat (first | exact w_nil | refine w_cons (Or.inl (y_m rfl)) ?_ | refine w_cons (Or.inr (by assumption)) ?_))) (by omega) (by omega) (by omega) (by omega) (by omega) (by omega) (by omega)
      · have q4 : ¬ (nd.toInt ≤ (vI + Int32.ofInt 1).toInt) := y_cif q3
        exact again (y_st (y_rf hr) hH (by repeat (first | exact w_nil | refine w_cons (Or.inl (y_m rfl)) ?_ | refine w_cons (Or.inr (by assumption)) ?_)) (by repeat (first | exact w_nil | refine w_cons (Or.inl (y_m rfl)) ?_ | refine w_cons (Or.inr (by assumption)) ?_))) r0 r1 (by omega) (by omega) (by omega) (by omega) (by omega)
    · have q2 : ¬ (nd.toInt ≤ oI.toInt) := y_cif q
      have lO : ∀ {H : aH}, y_fr h H [] [] → aOK s_P X (d + 1) a_m211 0 [some (.ref 155), some (.int vI), some (.int oI)] [] H C S (w_KF s_P X K0 (d + 1) [(a_m212, 58, [some (.ref 155), some (.int node), some (.int gv), some (.int its), some (.int rI), some (.int vI), some (.int oI)], [.int its])]) := by
        intro H e
        refine y_leansOn e.1 v0 (by omega) (fun b H2 e2 => ⟨fun n e => (by cases e), ?_⟩)
        exact T58 (y_sq e e2 rfl rfl) (by omega)
      refine ⟨fun _ => ⟨by decide, ⟨fun _ => fun H hH => T69 (y_st (y_rf hr) hH (by repeat (first | exact w_nil | refine w_cons (Or.inl (y_m rfl)) ?_ | refine w_cons (Or.inr (by assumption)) ?_)) (by repeat (first | exact w_nil | refine w_cons (Or.inl (y_m rfl)) ?_ | refine w_cons (Or.inr (by assumption)) ?_))) (by omega), fun q => absurd q (by decide)⟩⟩, fun _ => ⟨by decide, ⟨fun q => absurd q (by decide), fun _ => fun H hH => lO (y_st (y_rf hr) hH (by repeat (first | exact w_nil | refine w_cons (Or.inl (y_m rfl)) ?_ | refine w_cons (Or.inr (by assumption)) ?_)) (by repeat (first | exact w_nil | refine w_cons (Or.inl (y_m rfl)) ?_ | refine w_cons (Or.inr (by assumption)) ?_)))⟩⟩⟩
theorem y_given {h : aH} (hr : w_hr z_D h) {node gv nd : Int32} (g1 : w_f h 19591 = some (.int nd)) (hK : ∀ (b : Bool) (H : aH), y_fr h H [] [] → K0 (some (.int (y_01 b))) H C S) : aOK s_P X (d + 2) a_m212 0 [some (.ref 155), some (.int node), some (.int gv), none, none, none, none] [] h C S K0 := by
  obtain ⟨b1, b2⟩ := y_ndb hr g1
  have z0 : (Int32.ofInt 0).toInt = 0 := by decide
  refine w_go z_hl [31] [] 60 hr ?_
  intro x hx _ _
  obtain rfl := y_fi g1 hx
  refine ⟨fun q => ⟨fun _ => ⟨by decide, fun H hH => hK false H (y_st (y_rf hr) hH (by repeat (first | exact w_nil | refine w_cons (Or.inl (y_m rfl)) ?_ | refine w_cons (Or.inr (by assumption)) ?_)) (by repeat (first | exact w_nil | refine w_cons (Or.inl (y_m rfl)) ?_ | refine w_cons (Or.inr (by assumption)) ?_)))⟩, fun _ => ⟨by decide, fun H hH => hK true H (y_st (y_rf hr) hH (by repeat (first | exact w_nil | refine w_cons (Or.inl (y_m rfl)) ?_ | refine w_cons (Or.inr (by assumption)) ?_)) (by repeat (first | exact w_nil | refine w_cons (Or.inl (y_m rfl)) ?_ | refine w_cons (Or.inr (by assumption)) ?_)))⟩⟩, fun q => ⟨fun q7 => ?_, fun q7 => fun H hH => ?_⟩⟩
  · have q6 : nd.toInt ≤ (Int32.ofInt 0).toInt := (y_ci .ge _ _).mp q7
    have q8 : ¬ (nd.toInt ≤ (Int32.ofInt 0).toInt) := y_cif q
    omega
  · have q8 : ¬ (nd.toInt ≤ (Int32.ofInt 0).toInt) := y_cif q
    have e : y_fr h H [] [] := y_st (y_rf hr) hH (by repeat (first | exact w_nil | refine w_cons (Or.inl (y_m rfl)) ?_ | refine w_cons (Or.inr (by assumption)) ?_)) (by repeat (first | exact w_nil | refine w_cons (Or.inl (y_m rfl)) ?_ | refine w_cons (Or.inr (by assumption)) ?_))
    exact y_given_loop b1 b2 2000 H _ _ _ _ e.1 ((y_fe e rfl).trans g1) (by omega) (by omega) (by omega) (by omega) (by omega) (by omega) (by omega) (fun b H' f => hK b H' (y_sq e f rfl rfl))
def y_GO (X : aX) (C S d N : Nat) : Prop := ∀ (h : aH) (from' here end' gv nd : Int32) (p : Nat) (l : List Int32) (K0 : Option Value → aH → Nat → Nat → Prop), w_hr z_D h → w_f h 19591 = some (.int nd) → w_a h 164 = some (2, .inl l) → l.length = 10 → here.toInt = p → p < 10 → y_z (l.set p (Int32.ofInt 1)) 10 ≤ N →
    (∀ (r : Int32) (H : aH), 0 ≤ r.toInt → r.toInt ≤ 1 → y_fr h H [] [164] → (w_a H 164 = some (2, .inl l) ∨ w_a H 164 = some (2, .inl (l.set p (Int32.ofInt 0)))) → K0 (some (.int r)) H C S) →
    aOK s_P X (N + d + 3) a_m210 0 [some (.ref 155), some (.int from'), some (.int here), some (.int end'), some (.int gv), none, none, none, none] [] h C S K0
theorem y_goes_loop {N : Nat} (ih : ∀ N', N = N' + 1 → y_GO X C S d N') {from' here end' gv nd : Int32} {p : Nat} {l1 : List Int32} (n0 : 0 ≤ nd.toInt) (n10 : nd.toInt ≤ 10) (hl1 : l1.length = 10) (hp : here.toInt = p) (p10 : p < 10) (hz : y_z l1 10 ≤ N) : ∀ (t : Nat) (h : aH) (isI nI : Int32) (k : Nat) (o7 o8 : Option Value), w_hr z_D h → w_f h 19591 = some (.int nd) → w_a h 164 = some (2, .inl l1) → nI.toInt = k → (k : Int) + t = nd.toInt → 0 ≤ isI.toInt → isI.toInt ≤ 1 →
    (∀ (r : Int32) (H : aH), 0 ≤ r.toInt → r.toInt ≤ 1 → y_fr h H [] [164] → w_a H 164 = some (2, .inl (l1.set p (Int32.ofInt 0))) → K0 (some (.int r)) H C S) →
    aOK s_P X (N + d + 3) a_m210 20 [some (.ref 155), some (.int from'), some (.int here), some (.int end'), some (.int gv), some (.int isI), some (.int nI), o7, o8] [] h C S K0 := by
  intro t
  induction t with
  | zero =>
    intro h isI nI k o7 o8 hr g1 g2 hk hkt i0 i1 hK
    have T162 : ∀ {G : aH}, y_fr h G [] [] → aOK s_P X (N + d + 3) a_m210 162 [some (.ref 155), some (.int from'), some (.int here), some (.int end'), some (.int gv), some (.int isI), some (.int nI), o7, o8] [] G C S K0 := by
      intro G e
      refine w_go z_hl [] [] 30 e.1 ?_
      refine ⟨⟨by omega, by omega⟩, by decide, fun l hl len bb => ?_⟩
      obtain rfl := y_ai ((y_ae e rfl).trans g2) hl
      refine ⟨⟨i0, i1⟩, fun H hH => ?_⟩
      have A := hH.2.2.1 164 _ rfl
      rw [y_cl1 hp] at A
      exact hK _ H i0 i1 (y_st (y_mo e rfl rfl) hH (by repeat (first | exact w_nil | refine w_cons (Or.inl (y_m rfl)) ?_ | refine w_cons (Or.inr (by assumption)) ?_)) (by repeat (first | exact w_nil | refine w_cons (Or.inl (y_m rfl)) ?_ | refine w_cons (Or.inr (by assumption)) ?_))) A
    refine w_go z_hl [20, 162] [] 30 hr ?_
    intro x hx _ _
    obtain rfl := y_fi g1 hx
    refine ⟨fun _ => fun H hH => T162 (y_st (y_rf hr) hH (by repeat (first | exact w_nil | refine w_cons (Or.inl (y_m rfl)) ?_ | refine w_cons (Or.inr (by assumption)) ?_)) (by repeat (first | exact w_nil | refine w_cons (Or.inl (y_m rfl)) ?_ | refine w_cons (Or.inr (by assumption)) ?_))), fun q => ?_⟩
    have : ¬ (nd.toInt ≤ nI.toInt) := y_cif q
    omega
  | succ t iht =>
    intro h isI nI k o7 o8 hr g1 g2 hk hkt i0 i1 hK
    have ink : (nI + Int32.ofInt 1).toInt = ((k + 1 : Nat) : Int) := by rw [y_inc (by omega), hk]; rfl
    have kc := y_cl1 hk
    have T162 : ∀ {G : aH}, y_fr h G [] [] → aOK s_P X (N + d + 3) a_m210 162 [some (.ref 155), some (.int from'), some (.int here), some (.int end'), some (.int gv), some (.int isI), some (.int nI), o7, o8] [] G C S K0 := by
      intro G e
      refine w_go z_hl [] [] 30 e.1 ?_
      refine ⟨⟨by omega, by omega⟩, by decide, fun l hl len bb => ?_⟩
      obtain rfl := y_ai ((y_ae e rfl).trans g2) hl
      refine ⟨⟨i0, i1⟩, fun H hH => ?_⟩
      have A := hH.2.2.1 164 _ rfl
      rw [y_cl1 hp] at A
      exact hK _ H i0 i1 (y_st (y_mo e rfl rfl) hH (by repeat (first | exact w_nil | refine w_cons (Or.inl (y_m rfl)) ?_ | refine w_cons (Or.inr (by assumption)) ?_)) (by repeat (first | exact w_nil | refine w_cons (Or.inl (y_m rfl)) ?_ | refine w_cons (Or.inr (by assumption)) ?_))) A
    have next : ∀ {G : aH} {is' : Int32} {o7 o8 : Option Value}, y_fr h G [] [164] → w_a G 164 = some (2, .inl l1) → 0 ≤ is'.toInt → is'.toInt ≤ 1 → aOK s_P X (N + d + 3) a_m210 156 [some (.ref 155), some (.int from'), some (.int here), some (.int end'), some (.int gv), some (.int is'), some (.int nI), o7, o8] [] G C S K0 := by
      intro G is' o7 o8 e a j0 j1
      refine w_go z_hl [20] [] 30 e.1 ?_
      intro H hH
      have f : y_fr G H [] [] := y_st (y_rf e.1) hH (by repeat (first | exact w_nil | refine w_cons (Or.inl (y_m rfl)) ?_ | refine w_cons (Or.inr (by assumption)) ?_)) (by repeat (first | exact w_nil | refine w_cons (Or.inl (y_m rfl)) ?_ | refine w_cons (Or.inr (by assumption)) ?_))
      have e2 := y_sq e f rfl rfl
      exact iht H _ _ (k + 1) _ _ e2.1 ((y_fe e2 rfl).trans g1) ((y_ae f rfl).trans a) ink (by omega) j0 j1 (fun r H' u1 u2 u3 u4 => hK r H' u1 u2 (y_sq e2 u3 rfl rfl) u4)
    have T146 : ∀ {G : aH} {r : Int32} {o7 o8 : Option Value}, y_fr h G [] [164] → w_a G 164 = some (2, .inl l1) → aOK s_P X (N + d + 3) a_m210 146 [some (.ref 155), some (.int from'), some (.int here), some (.int end'), some (.int gv), some (.int isI), some (.int nI), o7, o8] [.int r] G C S K0 := by
      intro G r o7 o8 e a
      refine w_go z_hl [156] [] 30 e.1 ?_
      refine ⟨fun _ => fun H hH => ?_, fun _ => fun H hH => ?_⟩
      · have f : y_fr G H [] [] := y_st (y_rf e.1) hH (by repeat (first | exact w_nil | refine w_cons (Or.inl (y_m rfl)) ?_ | refine w_cons (Or.inr (by assumption)) ?_)) (by repeat (first | exact w_nil | refine w_cons (Or.inl (y_m rfl)) ?_ | refine w_cons (Or.inr (by assumption)) ?_))
        exact next (y_sq e f rfl rfl) ((y_ae f rfl).trans a) (by decide) (by decide)
      · have f : y_fr G H [] [] := y_st (y_rf e.1) hH (by repeat (first | exact w_nil | refine w_cons (Or.inl (y_m rfl)) ?_ | refine w_cons (Or.inr (by assumption)) ?_)) (by repeat (first | exact w_nil | refine w_cons (Or.inl (y_m rfl)) ?_ | refine w_cons (Or.inr (by assumption)) ?_))
        exact next (y_sq e f rfl rfl) ((y_ae f rfl).trans a) (by decide) (by decide)
    have T131 : ∀ {G : aH} {fr : Int32} {o8 : Option Value}, y_fr h G [] [] → l1.getD k 0 = 0 → aOK s_P X (N + d + 3) a_m210 131 [some (.ref 155), some (.int from'), some (.int here), some (.int end'), some (.int gv), some (.int isI), some (.int nI), some (.int fr), o8] [] G C S K0 := by
      intro G fr o8 e hl0
      have hzz := y_z_set (l := l1) (k := k) (x := Int32.ofInt 1) (by omega) hl0 (by decide) (n := 10) (by omega)
      obtain ⟨N', hN⟩ : ∃ N', N = N' + 1 := ⟨N - 1, by omega⟩
      refine w_go z_hl [156] [210] 30 e.1 ?_
      refine ⟨fun _ => fun H hH => ?_, fun _ => fun H hH => ?_⟩
      · have f := y_st e hH (by repeat (first | exact w_nil | refine w_cons (Or.inl (y_m rfl)) ?_ | refine w_cons (Or.inr (by assumption)) ?_)) (by repeat (first | exact w_nil | refine w_cons (Or.inl (y_m rfl)) ?_ | refine w_cons (Or.inr (by assumption)) ?_))
        exact next (y_mo f rfl rfl) ((y_ae f rfl).trans g2) (by decide) (by decide)
      · have f := y_st e hH (by repeat (first | exact w_nil | refine w_cons (Or.inl (y_m rfl)) ?_ | refine w_cons (Or.inr (by assumption)) ?_)) (by repeat (first | exact w_nil | refine w_cons (Or.inl (y_m rfl)) ?_ | refine w_cons (Or.inr (by assumption)) ?_))
        refine aOK_deep (d := N' + d + 3) (by omega) ?_
        refine ih N' hN H _ _ _ _ nd k l1 _ f.1 ((y_fe f rfl).trans g1) ((y_ae f rfl).trans g2) hl1 hk (by omega) (by omega) (fun r H2 u1 u2 u3 u4 => ⟨fun n e => (by cases e), ?_⟩)
        refine T146 (y_sq (y_mo f rfl rfl) u3 rfl rfl) ?_
        rcases u4 with u4 | u4
        · exact u4
        · rw [y_set0 (by omega) hl0] at u4
          exact u4
    have T129 : ∀ {G : aH} {fr : Int32} {o7 o8 : Option Value}, y_fr h G [] [] → l1.getD k 0 = 0 → aOK s_P X (N + d + 3) a_m210 129 [some (.ref 155), some (.int from'), some (.int here), some (.int end'), some (.int gv), some (.int isI), some (.int nI), o7, o8] [.int fr] G C S K0 := by
      intro G fr o7 o8 e hl0
      refine w_go z_hl [131] [] 30 e.1 ?_
      intro H hH
      exact T131 (y_st e hH (by repeat (first | exact w_nil | refine w_cons (Or.inl (y_m rfl)) ?_ | refine w_cons (Or.inr (by assumption)) ?_)) (by repeat (first | exact w_nil | refine w_cons (Or.inl (y_m rfl)) ?_ | refine w_cons (Or.inr (by assumption)) ?_))) hl0
    have T112 : ∀ {G : aH} {fr : Int32} {o7 o8 : Option Value}, y_fr h G [] [] → l1.getD k 0 = 0 → aOK s_P X (N + d + 3) a_m210 112 [some (.ref 155), some (.int from'), some (.int here), some (.int end'), some (.int gv), some (.int isI), some (.int nI), o7, o8] [.int fr] G C S K0 := by
      intro G fr o7 o8 e hl0
      refine w_go z_hl [129] [] 30 e.1 ?_
      intro H hH
      exact T129 (y_st e hH (by repeat (first | exact w_nil | refine w_cons (Or.inl (y_m rfl)) ?_ | refine w_cons (Or.inr (by assumption)) ?_)) (by repeat (first | exact w_nil | refine w_cons (Or.inl (y_m rfl)) ?_ | refine w_cons (Or.inr (by assumption)) ?_))) hl0
    have T98 : ∀ {G : aH} {b : Int32} {x7 : Int32} {o8 : Option Value}, y_fr h G [] [] → l1.getD k 0 = 0 → aOK s_P X (N + d + 3) a_m210 98 [some (.ref 155), some (.int from'), some (.int here), some (.int end'), some (.int gv), some (.int isI), some (.int nI), some (.int x7), o8] [.int b] G C S K0 := by
      intro G b x7 o8 e hl0
      refine w_go z_hl [129] [212] 40 e.1 ?_
      refine ⟨fun _ => ⟨fun _ => ⟨by decide, ⟨fun q => absurd q (by decide), fun _ => fun H hH => T129 (y_st e hH (by repeat (first | exact w_nil | refine w_cons (Or.inl (y_m rfl)) ?_ | refine w_cons (Or.inr (by assumption)) ?_)) (by repeat (first | exact w_nil | refine w_cons (Or.inl (y_m rfl)) ?_ | refine w_cons (Or.inr (by assumption)) ?_))) hl0⟩⟩, fun _ => ⟨by decide, ⟨fun _ => fun H hH => T129 (y_st e hH (by repeat (first | exact w_nil | refine w_cons (Or.inl (y_m rfl)) ?_ | refine w_cons (Or.inr (by assumption)) ?_)) (by repeat (first | exact w_nil | refine w_cons (Or.inl (y_m rfl)) ?_ | refine w_cons (Or.inr (by assumption)) ?_))) hl0, fun q => absurd q (by decide)⟩⟩⟩, fun _ => fun H hH => ?_⟩
      have f := y_st e hH (by repeat (first | exact w_nil | refine w_cons (Or.inl (y_m rfl)) ?_ | refine w_cons (Or.inr (by assumption)) ?_)) (by repeat (first | exact w_nil | refine w_cons (Or.inl (y_m rfl)) ?_ | refine w_cons (Or.inr (by assumption)) ?_))
      refine y_given f.1 ((y_fe f rfl).trans g1) (fun b H2 e2 => ⟨fun n e => (by cases e), ?_⟩)
      exact T112 (y_sq f e2 rfl rfl) hl0
    have T90 : ∀ {G : aH} {b : Int32} {x7 : Int32} {o8 : Option Value}, y_fr h G [] [] → l1.getD k 0 = 0 → aOK s_P X (N + d + 3) a_m210 90 [some (.ref 155), some (.int from'), some (.int here), some (.int end'), some (.int gv), some (.int isI), some (.int nI), some (.int x7), o8] [.int b] G C S K0 := by
      intro G b x7 o8 e hl0
      refine w_go z_hl [98] [] 40 e.1 ?_
      exact ⟨fun _ => fun H hH => T98 (y_st e hH (by repeat (first | exact w_nil | refine w_cons (Or.inl (y_m rfl)) ?_ | refine w_cons (Or.inr (by assumption)) ?_)) (by repeat (first | exact w_nil | refine w_cons (Or.inl (y_m rfl)) ?_ | refine w_cons (Or.inr (by assumption)) ?_))) hl0, fun _ => fun H hH => T98 (y_st e hH (by repeat (first | exact w_nil | refine w_cons (Or.inl (y_m rfl)) ?_ | refine w_cons (Or.inr (by assumption)) ?_)) (by repeat (first | exact w_nil | refine w_cons (Or.inl (y_m rfl)) ?_ | refine w_cons (Or.inr (by assumption)) ?_))) hl0⟩
    have T80 : ∀ {G : aH} {b : Int32} {x7 : Int32} {o8 : Option Value}, y_fr h G [] [] → l1.getD k 0 = 0 → aOK s_P X (N + d + 3) a_m210 80 [some (.ref 155), some (.int from'), some (.int here), some (.int end'), some (.int gv), some (.int isI), some (.int nI), some (.int x7), o8] [.int b] G C S K0 := by
      intro G b x7 o8 e hl0
      refine w_go z_hl [98] [211] 40 e.1 ?_
      refine ⟨fun _ => fun H hH => T98 (y_st e hH (by repeat (first | exact w_nil | refine w_cons (Or.inl (y_m rfl)) ?_ | refine w_cons (Or.inr (by assumption)) ?_)) (by repeat (first | exact w_nil | refine w_cons (Or.inl (y_m rfl)) ?_ | refine w_cons (Or.inr (by assumption)) ?_))) hl0, fun _ => fun H hH => ?_⟩
      have f := y_st e hH (by repeat (first | exact w_nil | refine w_cons (Or.inl (y_m rfl)) ?_ | refine w_cons (Or.inr (by assumption)) ?_)) (by repeat (first | exact w_nil | refine w_cons (Or.inl (y_m rfl)) ?_ | refine w_cons (Or.inr (by assumption)) ?_))
      refine y_leansOn f.1 (by omega) (by omega) (fun b H2 e2 => ⟨fun n e => (by cases e), ?_⟩)
      exact T90 (y_sq f e2 rfl rfl) hl0
    have T67 : ∀ {G : aH} {o7 o8 : Option Value}, y_fr h G [] [] → l1.getD k 0 = 0 → aOK s_P X (N + d + 3) a_m210 67 [some (.ref 155), some (.int from'), some (.int here), some (.int end'), some (.int gv), some (.int isI), some (.int nI), o7, o8] [] G C S K0 := by
      intro G o7 o8 e hl0
      refine w_go z_hl [131] [211] 40 e.1 ?_
      refine ⟨fun _ => fun H hH => T131 (y_st e hH (by repeat (first | exact w_nil | refine w_cons (Or.inl (y_m rfl)) ?_ | refine w_cons (Or.inr (by assumption)) ?_)) (by repeat (first | exact w_nil | refine w_cons (Or.inl (y_m rfl)) ?_ | refine w_cons (Or.inr (by assumption)) ?_))) hl0, fun _ => fun H hH => ?_⟩
      have f := y_st e hH (by repeat (first | exact w_nil | refine w_cons (Or.inl (y_m rfl)) ?_ | refine w_cons (Or.inr (by assumption)) ?_)) (by repeat (first | exact w_nil | refine w_cons (Or.inl (y_m rfl)) ?_ | refine w_cons (Or.inr (by assumption)) ?_))
      refine y_leansOn f.1 (by omega) (by omega) (fun b H2 e2 => ⟨fun n e => (by cases e), ?_⟩)
      exact T80 (y_sq f e2 rfl rfl) hl0
    have T61 : ∀ {G : aH} {b : Int32} {o7 o8 : Option Value}, y_fr h G [] [] → l1.getD k 0 = 0 → aOK s_P X (N + d + 3) a_m210 61 [some (.ref 155), some (.int from'), some (.int here), some (.int end'), some (.int gv), some (.int isI), some (.int nI), o7, o8] [.int b] G C S K0 := by
      intro G b o7 o8 e hl0
      refine w_go z_hl [67, 156] [] 40 e.1 ?_
      refine ⟨fun _ => fun H hH => T67 (y_st e hH (by repeat (first | exact w_nil | refine w_cons (Or.inl (y_m rfl)) ?_ | refine w_cons (Or.inr (by assumption)) ?_)) (by repeat (first | exact w_nil | refine w_cons (Or.inl (y_m rfl)) ?_ | refine w_cons (Or.inr (by assumption)) ?_))) hl0, fun _ => fun H hH => ?_⟩
      have f := y_st e hH (by repeat (first | exact w_nil | refine w_cons (Or.inl (y_m rfl)) ?_ | refine w_cons (Or.inr (by assumption)) ?_)) (by repeat (first | exact w_nil | refine w_cons (Or.inl (y_m rfl)) ?_ | refine w_cons (Or.inr (by assumption)) ?_))
      exact next (y_mo f rfl rfl) ((y_ae f rfl).trans g2) i0 i1
    have T51 : ∀ {G : aH} {b : Int32} {o7 o8 : Option Value}, y_fr h G [] [] → l1.getD k 0 = 0 → aOK s_P X (N + d + 3) a_m210 51 [some (.ref 155), some (.int from'), some (.int here), some (.int end'), some (.int gv), some (.int isI), some (.int nI), o7, o8] [.int b] G C S K0 := by
      intro G b o7 o8 e hl0
      refine w_go z_hl [67, 156] [211] 40 e.1 ?_
      refine ⟨fun _ => fun H hH => T67 (y_st e hH (by repeat (first | exact w_nil | refine w_cons (Or.inl (y_m rfl)) ?_ | refine w_cons (Or.inr (by assumption)) ?_)) (by repeat (first | exact w_nil | refine w_cons (Or.inl (y_m rfl)) ?_ | refine w_cons (Or.inr (by assumption)) ?_))) hl0, fun _ => fun H hH => ?_⟩
      have f := y_st e hH (by repeat (first | exact w_nil | refine w_cons (Or.inl (y_m rfl)) ?_ | refine w_cons (Or.inr (by assumption)) ?_)) (by repeat (first | exact w_nil | refine w_cons (Or.inl (y_m rfl)) ?_ | refine w_cons (Or.inr (by assumption)) ?_))
      refine y_leansOn f.1 (by omega) (by omega) (fun b H2 e2 => ⟨fun n e => (by cases e), ?_⟩)
      exact T61 (y_sq f e2 rfl rfl) hl0
    refine w_go z_hl [20, 162, 156] [211] 40 hr ?_
    intro x hx _ _
    obtain rfl := y_fi g1 hx
    refine ⟨fun _ => fun H hH => T162 (y_st (y_rf hr) hH (by repeat (first | exact w_nil | refine w_cons (Or.inl (y_m rfl)) ?_ | refine w_cons (Or.inr (by assumption)) ?_)) (by repeat (first | exact w_nil | refine w_cons (Or.inl (y_m rfl)) ?_ | refine w_cons (Or.inr (by assumption)) ?_))), fun q => ⟨fun _ => fun H hH => T162 (y_st (y_rf hr) hH (by repeat (first | exact w_nil | refine w_cons (Or.inl (y_m rfl)) ?_ | refine w_cons (Or.inr (by assumption)) ?_)) (by repeat (first | exact w_nil | refine w_cons (Or.inl (y_m rfl)) ?_ | refine w_cons (Or.inr (by assumption)) ?_))), fun _ => ?_⟩⟩
    refine ⟨⟨by omega, by omega⟩, fun l hl len bb => ?_⟩
    obtain rfl := y_ai g2 hl
    refine ⟨fun _ => fun H hH => ?_, fun q2 => fun H hH => ?_⟩
    · have f : y_fr h H [] [] := y_st (y_rf hr) hH (by repeat (first | exact w_nil | refine w_cons (Or.inl (y_m rfl)) ?_ | refine w_cons (Or.inr (by assumption)) ?_)) (by repeat (first | exact w_nil | refine w_cons (Or.inl (y_m rfl)) ?_ | refine w_cons (Or.inr (by assumption)) ?_))
      exact next (y_mo f rfl rfl) ((y_ae f rfl).trans g2) i0 i1
    · have q3 : ¬ ((l1.getD nI.toNatClampNeg 0).toInt ≠ (0 : Int32).toInt) := y_cif q2
      rw [kc] at q3
      have hl0 : l1.getD k 0 = 0 := Int32.toInt_inj.mp (Decidable.not_not.mp q3)
      have f : y_fr h H [] [] := y_st (y_rf hr) hH (by repeat (first | exact w_nil | refine w_cons (Or.inl (y_m rfl)) ?_ | refine w_cons (Or.inr (by assumption)) ?_)) (by repeat (first | exact w_nil | refine w_cons (Or.inl (y_m rfl)) ?_ | refine w_cons (Or.inr (by assumption)) ?_))
      refine y_leansOn f.1 (by omega) (by omega) (fun b H2 e2 => ⟨fun n e => (by cases e), ?_⟩)
      exact T51 (y_sq f e2 rfl rfl) hl0
theorem y_goes_step {N : Nat} (ih : ∀ N', N = N' + 1 → y_GO X C S d N') : y_GO X C S d N := by
  intro h from' here end' gv nd p l K0 hr g1 g2 hl hp p10 hz hK
  obtain ⟨b1, b2⟩ := y_ndb hr g1
  refine w_go z_hl [20] [] 30 hr ?_
  refine ⟨fun _ => ?_, fun _ => ?_⟩
  · refine ⟨⟨by omega, by omega⟩, by decide, fun l' hl' len bb => ?_⟩
    obtain rfl := y_ai g2 hl'
    intro H hH
    have e : y_fr h H [] [164] := y_st (y_mo (y_rf hr) rfl rfl) hH (by repeat (first | exact w_nil | refine w_cons (Or.inl (y_m rfl)) ?_ | refine w_cons (Or.inr (by assumption)) ?_)) (by repeat (first | exact w_nil | refine w_cons (Or.inl (y_m rfl)) ?_ | refine w_cons (Or.inr (by assumption)) ?_))
    have A := hH.2.2.1 164 _ rfl
    rw [y_cl1 hp] at A
    refine y_goes_loop ih b1 b2 (by rw [List.length_set]; exact hl) hp p10 hz nd.toInt.toNat H _ _ 0 _ _ e.1 ((y_fe e rfl).trans g1) A rfl (by omega) (by decide) (by decide) (fun r H2 u1 u2 u3 u4 => ?_)
    refine hK r H2 u1 u2 (y_sq e u3 rfl rfl) (Or.inr ?_)
    rw [List.set_set] at u4
    exact u4
  · refine ⟨by decide, fun H hH => ?_⟩
    have e : y_fr h H [] [] := y_st (y_rf hr) hH (by repeat (first | exact w_nil | refine w_cons (Or.inl (y_m rfl)) ?_ | refine w_cons (Or.inr (by assumption)) ?_)) (by repeat (first | exact w_nil | refine w_cons (Or.inl (y_m rfl)) ?_ | refine w_cons (Or.inr (by assumption)) ?_))
    exact hK _ H (by decide) (by decide) (y_mo e rfl rfl) (Or.inl ((y_ae e rfl).trans g2))
theorem y_goes : ∀ (N : Nat), y_GO X C S d N
  | 0 => y_goes_step (fun N' e => absurd e (by omega))
  | N + 1 => y_goes_step (fun N' e => by
    have : N = N' := by omega
    subst this
    exact y_goes N)
theorem y_areTwo {h : aH} (hr : w_hr z_D h) {a b gv nd : Int32} (g1 : w_f h 19591 = some (.int nd)) (yes : ∀ (H : aH), y_fr h H [] [] → 0 ≤ a.toInt → a.toInt < nd.toInt → 0 ≤ b.toInt → b.toInt < nd.toInt → 0 ≤ gv.toInt → K0 (some (.int (Int32.ofInt 1))) H C S) (no : ∀ (H : aH), y_fr h H [] [] → K0 (some (.int (Int32.ofInt 0))) H C S) : aOK s_P X (d + 2) a_m209 0 [some (.ref 155), some (.int a), some (.int b), some (.int gv)] [] h C S K0 := by
  have N49 : ∀ {G : aH}, y_fr h G [] [] → aOK s_P X (d + 2) a_m209 49 [some (.ref 155), some (.int a), some (.int b), some (.int gv)] [] G C S K0 := by
    intro G e
    refine w_go z_hl [] [] 30 e.1 ?_
    exact ⟨by decide, fun H hH => no H (y_st e hH (by repeat (first | exact w_nil | refine w_cons (Or.inl (y_m rfl)) ?_ | refine w_cons (Or.inr (by assumption)) ?_)) (by repeat (first | exact w_nil | refine w_cons (Or.inl (y_m rfl)) ?_ | refine w_cons (Or.inr (by assumption)) ?_)))⟩
  have T26 : ∀ {G : aH}, y_fr h G [] [] → 0 ≤ a.toInt → a.toInt < nd.toInt → 0 ≤ b.toInt → b.toInt < nd.toInt → 0 ≤ gv.toInt → aOK s_P X (d + 2) a_m209 26 [some (.ref 155), some (.int a), some (.int b), some (.int gv)] [.int (y_01 true)] G C S K0 := by
    intro G e a0 a1 b0 b1 v0
    refine w_go z_hl [49] [] 40 e.1 ?_
    refine ⟨fun q => absurd q (by decide), fun _ => ⟨fun _ => ⟨by decide, ⟨fun q => absurd q (by decide), fun _ => ⟨fun _ => ⟨by decide, ⟨fun q => absurd q (by decide), fun _ => ⟨by decide, fun H hH => yes H (y_st e hH (by repeat (first | exact w_nil | refine w_cons (Or.inl (y_m rfl)) ?_ | refine w_cons (Or.inr (by assumption)) ?_)) (by repeat (first | exact w_nil | refine w_cons (Or.inl (y_m rfl)) ?_ | refine w_cons (Or.inr (by assumption)) ?_))) a0 a1 b0 b1 v0⟩⟩⟩, fun _ => ⟨by decide, ⟨fun _ => fun H hH => N49 (y_st e hH (by repeat (first | exact w_nil | refine w_cons (Or.inl (y_m rfl)) ?_ | refine w_cons (Or.inr (by assumption)) ?_)) (by repeat (first | exact w_nil | refine w_cons (Or.inl (y_m rfl)) ?_ | refine w_cons (Or.inr (by assumption)) ?_))), fun q => absurd q (by decide)⟩⟩⟩⟩⟩, fun _ => ⟨by decide, ⟨fun _ => fun H hH => N49 (y_st e hH (by repeat (first | exact w_nil | refine w_cons (Or.inl (y_m rfl)) ?_ | refine w_cons (Or.inr (by assumption)) ?_)) (by repeat (first | exact w_nil | refine w_cons (Or.inl (y_m rfl)) ?_ | refine w_cons (Or.inr (by assumption)) ?_))), fun q => absurd q (by decide)⟩⟩⟩⟩
  have T26n : ∀ {G : aH}, y_fr h G [] [] → aOK s_P X (d + 2) a_m209 26 [some (.ref 155), some (.int a), some (.int b), some (.int gv)] [.int (y_01 false)] G C S K0 := by
    intro G e
    refine w_go z_hl [49] [] 40 e.1 ?_
    exact ⟨fun _ => fun H hH => N49 (y_st e hH (by repeat (first | exact w_nil | refine w_cons (Or.inl (y_m rfl)) ?_ | refine w_cons (Or.inr (by assumption)) ?_)) (by repeat (first | exact w_nil | refine w_cons (Or.inl (y_m rfl)) ?_ | refine w_cons (Or.inr (by assumption)) ?_))), fun q => absurd q (by decide)⟩
  have T13 : ∀ {G : aH}, y_fr h G [] [] → 0 ≤ a.toInt → a.toInt < nd.toInt → 0 ≤ b.toInt → b.toInt < nd.toInt → aOK s_P X (d + 2) a_m209 13 [some (.ref 155), some (.int a), some (.int b), some (.int gv)] [.int (y_01 true)] G C S K0 := by
    intro G e a0 a1 b0 b1
    refine w_go z_hl [49] [174] 40 e.1 ?_
    refine ⟨fun q => absurd q (by decide), fun _ => ⟨fun _ => fun H hH => N49 (y_st e hH (by repeat (first | exact w_nil | refine w_cons (Or.inl (y_m rfl)) ?_ | refine w_cons (Or.inr (by assumption)) ?_)) (by repeat (first | exact w_nil | refine w_cons (Or.inl (y_m rfl)) ?_ | refine w_cons (Or.inr (by assumption)) ?_))), fun _ => fun H hH => ?_⟩⟩
    have f := y_st e hH (by repeat (first | exact w_nil | refine w_cons (Or.inl (y_m rfl)) ?_ | refine w_cons (Or.inr (by assumption)) ?_)) (by repeat (first | exact w_nil | refine w_cons (Or.inl (y_m rfl)) ?_ | refine w_cons (Or.inr (by assumption)) ?_))
    refine q_isSet (v := gv) f.1 ((y_fe f rfl).trans g1) (fun H2 vv h2 hv _ _ => ⟨fun n e => (by cases e), ?_⟩) (fun H2 h2 => ⟨fun n e => (by cases e), ?_⟩)
    · exact T26 (y_sq f h2 rfl rfl) a0 a1 b0 b1 (by omega)
    · exact T26n (y_sq f h2 rfl rfl)
  have T13n : ∀ {G : aH}, y_fr h G [] [] → aOK s_P X (d + 2) a_m209 13 [some (.ref 155), some (.int a), some (.int b), some (.int gv)] [.int (y_01 false)] G C S K0 := by
    intro G e
    refine w_go z_hl [49] [] 40 e.1 ?_
    exact ⟨fun _ => fun H hH => N49 (y_st e hH (by repeat (first | exact w_nil | refine w_cons (Or.inl (y_m rfl)) ?_ | refine w_cons (Or.inr (by assumption)) ?_)) (by repeat (first | exact w_nil | refine w_cons (Or.inl (y_m rfl)) ?_ | refine w_cons (Or.inr (by assumption)) ?_))), fun q => absurd q (by decide)⟩
  have T5 : ∀ {G : aH}, y_fr h G [] [] → 0 ≤ a.toInt → a.toInt < nd.toInt → aOK s_P X (d + 2) a_m209 5 [some (.ref 155), some (.int a), some (.int b), some (.int gv)] [.int (y_01 true)] G C S K0 := by
    intro G e a0 a1
    refine w_go z_hl [49] [178] 40 e.1 ?_
    refine ⟨fun q => absurd q (by decide), fun _ => fun H hH => ?_⟩
    have f := y_st e hH (by repeat (first | exact w_nil | refine w_cons (Or.inl (y_m rfl)) ?_ | refine w_cons (Or.inr (by assumption)) ?_)) (by repeat (first | exact w_nil | refine w_cons (Or.inl (y_m rfl)) ?_ | refine w_cons (Or.inr (by assumption)) ?_))
    refine q_isNode (v := b) f.1 ((y_fe f rfl).trans g1) (fun H2 vv h2 hv hv2 _ => ⟨fun n e => (by cases e), ?_⟩) (fun H2 h2 => ⟨fun n e => (by cases e), ?_⟩)
    · exact T13 (y_sq f h2 rfl rfl) a0 a1 (by omega) (by omega)
    · exact T13n (y_sq f h2 rfl rfl)
  have T5n : ∀ {G : aH}, y_fr h G [] [] → aOK s_P X (d + 2) a_m209 5 [some (.ref 155), some (.int a), some (.int b), some (.int gv)] [.int (y_01 false)] G C S K0 := by
    intro G e
    refine w_go z_hl [49] [] 40 e.1 ?_
    exact ⟨fun _ => fun H hH => N49 (y_st e hH (by repeat (first | exact w_nil | refine w_cons (Or.inl (y_m rfl)) ?_ | refine w_cons (Or.inr (by assumption)) ?_)) (by repeat (first | exact w_nil | refine w_cons (Or.inl (y_m rfl)) ?_ | refine w_cons (Or.inr (by assumption)) ?_))), fun q => absurd q (by decide)⟩
  refine w_go z_hl [] [178] 40 hr ?_
  intro H hH
  have f : y_fr h H [] [] := y_st (y_rf hr) hH (by repeat (first | exact w_nil | refine w_cons (Or.inl (y_m rfl)) ?_ | refine w_cons (Or.inr (by assumption)) ?_)) (by repeat (first | exact w_nil | refine w_cons (Or.inl (y_m rfl)) ?_ | refine w_cons (Or.inr (by assumption)) ?_))
  refine q_isNode (v := a) f.1 ((y_fe f rfl).trans g1) (fun H2 vv h2 hv hv2 _ => ⟨fun n e => (by cases e), ?_⟩) (fun H2 h2 => ⟨fun n e => (by cases e), ?_⟩)
  · exact T5 (y_sq f h2 rfl rfl) (by omega) (by omega)
  · exact T5n (y_sq f h2 rfl rfl)
theorem p_apart {h : aH} (hr : w_hr z_D h) (hJ : y_J h) {a b gv : Int32} (hk : ∀ (r : Int32) (H : aH), y_fr h H [19584] [164] → y_J H → K0 (some (.int r)) H C S) : aOK s_P X (d + 14) a_m208 0 [some (.ref 155), some (.int a), some (.int b), some (.int gv)] [] h C S K0 := by
  obtain ⟨nd, sm, so, sa, s1, s2, s3, s4, s5⟩ := id hJ.2.2.2.2.1
  obtain ⟨b1, b2⟩ := y_ndb hr s1
  have out : ∀ {G : aH} {r : Int32}, y_fr h G [19584] [164] → K0 (some (.int r)) G C S := fun g => hk _ _ g (y_J_fr g rfl rfl hJ)
  have T23 : ∀ {G : aH} {r : Int32}, y_fr h G [19584] [164] → aOK s_P X (d + 14) a_m208 23 [some (.ref 155), some (.int a), some (.int b), some (.int gv)] [.int r] G C S K0 := by
    intro G r e
    refine w_go z_hl [] [] 40 e.1 ?_
    refine ⟨fun _ => ⟨fun _ => fun H hH => out (y_st e hH (by repeat (first | exact w_nil | refine w_cons (Or.inl (y_m rfl)) ?_ | refine w_cons (Or.inr (by assumption)) ?_)) (by repeat (first | exact w_nil | refine w_cons (Or.inl (y_m rfl)) ?_ | refine w_cons (Or.inr (by assumption)) ?_))), fun q => absurd q (by decide)⟩, fun _ => ⟨fun q => absurd q (by decide), fun _ => fun H hH => out (y_st e hH (by repeat (first | exact w_nil | refine w_cons (Or.inl (y_m rfl)) ?_ | refine w_cons (Or.inr (by assumption)) ?_)) (by repeat (first | exact w_nil | refine w_cons (Or.inl (y_m rfl)) ?_ | refine w_cons (Or.inr (by assumption)) ?_)))⟩⟩
  have T12 : ∀ {G : aH}, y_fr h G [19584] [] → 0 ≤ a.toInt → a.toInt < nd.toInt → aOK s_P X (d + 14) a_m208 12 [some (.ref 155), some (.int a), some (.int b), some (.int gv)] [.int (Int32.ofInt 1)] G C S K0 := by
    intro G e a0 a1
    refine w_go z_hl [] [210] 40 e.1 ?_
    refine ⟨fun q => absurd q (by decide), fun _ => fun H hH => ?_⟩
    have f := y_st e hH (by repeat (first | exact w_nil | refine w_cons (Or.inl (y_m rfl)) ?_ | refine w_cons (Or.inr (by assumption)) ?_)) (by repeat (first | exact w_nil | refine w_cons (Or.inl (y_m rfl)) ?_ | refine w_cons (Or.inr (by assumption)) ?_))
    obtain ⟨l, z1, z2, -⟩ := w_arrI f.1 (o := 164) (t := 2) (n := 10) (lo := 0) (hi := 1) (by decide) rfl
    refine aOK_deep (d := 10 + d + 3) (by omega) ?_
    refine y_goes 10 H _ _ _ _ nd a.toInt.toNat l _ f.1 ((y_fe f rfl).trans s1) (w_a_at z1) z2 (by omega) (by omega) (y_z_le _ _) (fun r H2 u1 u2 u3 u4 => ⟨fun n e => (by cases e), ?_⟩)
    exact T23 (y_sq (y_mo f rfl rfl) u3 rfl rfl)
  have T12n : ∀ {G : aH}, y_fr h G [19584] [] → aOK s_P X (d + 14) a_m208 12 [some (.ref 155), some (.int a), some (.int b), some (.int gv)] [.int (Int32.ofInt 0)] G C S K0 := by
    intro G e
    refine w_go z_hl [] [] 40 e.1 ?_
    exact ⟨fun _ => fun H hH => out (y_st (y_mo e rfl rfl) hH (by repeat (first | exact w_nil | refine w_cons (Or.inl (y_m rfl)) ?_ | refine w_cons (Or.inr (by assumption)) ?_)) (by repeat (first | exact w_nil | refine w_cons (Or.inl (y_m rfl)) ?_ | refine w_cons (Or.inr (by assumption)) ?_))), fun q => absurd q (by decide)⟩
  refine w_go z_hl [] [209] 30 hr ?_
  refine ⟨rfl, y_zini (by decide) (by decide), fun H1 h1 => ?_⟩
  have e1 : y_fr h H1 [19584] [] := y_st (y_mo (y_rf hr) rfl rfl) h1 (by repeat (first | exact w_nil | refine w_cons (Or.inl (y_m rfl)) ?_ | refine w_cons (Or.inr (by assumption)) ?_)) (by repeat (first | exact w_nil | refine w_cons (Or.inl (y_m rfl)) ?_ | refine w_cons (Or.inr (by assumption)) ?_))
  refine y_areTwo e1.1 ((y_fe e1 rfl).trans s1) (fun H2 h2 a0 a1 _ _ _ => ⟨fun n e => (by cases e), ?_⟩) (fun H2 h2 => ⟨fun n e => (by cases e), ?_⟩)
  · exact T12 (y_sq e1 h2 rfl rfl) a0 a1
  · exact T12n (y_sq e1 h2 rfl rfl)
end WG
end PT28g
section PT28h
/-! ===== v3: the zeros behind a bit ===== -/
set_option maxRecDepth 100000 in
theorem y_one0 : (List.range 1024).all (fun b => Nat.blt 1 (y_pl b 10) || Nat.blt (y_pl b 10) 1 || [1, 2, 4, 8, 16, 32, 64, 128, 256, 512].elem b) = true := by decide +kernel
theorem y_one {b : Nat} (hb : b < 1024) (h1 : y_pl b 10 = 1) : b = 1 ∨ b = 2 ∨ b = 4 ∨ b = 8 ∨ b = 16 ∨ b = 32 ∨ b = 64 ∨ b = 128 ∨ b = 256 ∨ b = 512 := by
  have := List.all_eq_true.mp y_one0 b (List.mem_range.mpr hb)
  rw [h1] at this
  have h2 := List.elem_iff.mp (show List.elem b [1, 2, 4, 8, 16, 32, 64, 128, 256, 512] = true from this)
  simp only [List.mem_cons, List.not_mem_nil, or_false] at h2
  exact h2
section WG
variable {X : aX} {C S d : Nat} {K0 : Option Value → aH → Nat → Nat → Prop}
theorem y_ntz {h : aH} (hr : w_hr z_D h) {x : Int32} {b : Nat} (hx : x.toInt = b) (hb : b < 1024) (h1 : y_pl b 10 = 1) (hK : ∀ (r : Int32) (H : aH), y_fr h H [] [] → 0 ≤ r.toInt → r.toInt ≤ 9 → K0 (some (.int r)) H C S) : aOK s_P X d a_m269 0 [some (.int x), none] [] h C S K0 := by
  have e := (y_ofNat hx (by omega)).1
  subst e
  rcases y_one hb h1 with rfl | rfl | rfl | rfl | rfl | rfl | rfl | rfl | rfl | rfl <;>
  · refine w_go z_hl [] [] 80 hr ?_
    repeat (first | refine ⟨fun q => absurd q (by decide), fun _ => ?_⟩ | refine ⟨fun _ => ?_, fun q => absurd q (by decide)⟩)
    intro H hH
    exact hK _ H (y_st (y_rf hr) hH (by repeat (first | exact w_nil | refine w_cons (Or.inl (y_m rfl)) ?_ | refine w_cons (Or.inr (by assumption)) ?_)) (by repeat (first | exact w_nil | refine w_cons (Or.inl (y_m rfl)) ?_ | refine w_cons (Or.inr (by assumption)) ?_))) (by decide) (by decide)
end WG
end PT28h
section PT28i
/-! ===== v3: the reference's test ===== -/
section WG
variable {X : aX} {C S d : Nat} {K0 : Option Value → aH → Nat → Nat → Prop}
theorem y_test_loop {node n mk cl : Int32} {wi wo t1 t0 p q : Int64} {x13 x14 : Int32} (p0 : 0 ≤ p.toInt) (q1 : 1 ≤ q.toInt) : ∀ (t : Nat) (h : aH) (u l : Int64) (kI : Int32) (k : Nat), w_hr z_D h → w_f h 19587 = some (.long u) → w_f h 19588 = some (.long l) → 0 ≤ u.toInt → u.toInt ≤ 1000000000000000000 → 1 ≤ l.toInt → l.toInt ≤ 1000000000000000000 → kI.toInt = k → n.toInt ≤ (k : Int) + t → n.toInt ≤ 6 →
    (∀ (G : aH) (u' l' : Int64) (k' : Int32), y_fr h G [19587, 19588, 19589] [] → w_f G 19587 = some (.long u') → w_f G 19588 = some (.long l') → 0 ≤ u'.toInt → u'.toInt ≤ 1000000000000000000 → 1 ≤ l'.toInt → l'.toInt ≤ 1000000000000000000 → aOK s_P X (d + 3) a_m268 312 [some (.ref 155), some (.int node), some (.int n), some (.int mk), some (.int cl), some (.long wi), none, some (.long wo), none, some (.long t1), none, some (.long t0), none, some (.int x13), some (.int x14), some (.long p), none, some (.long q), none, some (.int k')] [] G C S K0) →
    aOK s_P X (d + 3) a_m268 283 [some (.ref 155), some (.int node), some (.int n), some (.int mk), some (.int cl), some (.long wi), none, some (.long wo), none, some (.long t1), none, some (.long t0), none, some (.int x13), some (.int x14), some (.long p), none, some (.long q), none, some (.int kI)] [] h C S K0 := by
  intro t
  induction t with
  | zero =>
    intro h u l kI k hr f1 f2 u0 u1 l0 l1 hk hnt n6 hE
    refine w_go z_hl [283, 312] [] 40 hr ?_
    refine ⟨fun _ => fun H hH => ?_, fun q => ?_⟩
    · have e : y_fr h H [] [] := y_st (y_rf hr) hH (by repeat (first | exact w_nil | refine w_cons (Or.inl (y_m rfl)) ?_ | refine w_cons (Or.inr (by assumption)) ?_)) (by repeat (first | exact w_nil | refine w_cons (Or.inl (y_m rfl)) ?_ | refine w_cons (Or.inr (by assumption)) ?_))
      exact hE H u l kI (y_mo e rfl rfl) ((y_fe e rfl).trans f1) ((y_fe e rfl).trans f2) u0 u1 l0 l1
    · have : ¬ (n.toInt ≤ kI.toInt) := y_cif q
      omega
  | succ t ih =>
    intro h u l kI k hr f1 f2 u0 u1 l0 l1 hk hnt n6 hE
    have out : ∀ {H : aH}, y_fr h H [] [] → aOK s_P X (d + 3) a_m268 312 [some (.ref 155), some (.int node), some (.int n), some (.int mk), some (.int cl), some (.long wi), none, some (.long wo), none, some (.long t1), none, some (.long t0), none, some (.int x13), some (.int x14), some (.long p), none, some (.long q), none, some (.int kI)] [] H C S K0 := fun e => hE _ u l kI (y_mo e rfl rfl) ((y_fe e rfl).trans f1) ((y_fe e rfl).trans f2) u0 u1 l0 l1
    have T306 : ∀ {G : aH} {u' l' : Int64}, y_fr h G [19587, 19588, 19589] [] → w_f G 19587 = some (.long u') → w_f G 19588 = some (.long l') → 0 ≤ u'.toInt → u'.toInt ≤ 1000000000000000000 → 1 ≤ l'.toInt → l'.toInt ≤ 1000000000000000000 → kI.toInt < n.toInt → aOK s_P X (d + 3) a_m268 306 [some (.ref 155), some (.int node), some (.int n), some (.int mk), some (.int cl), some (.long wi), none, some (.long wo), none, some (.long t1), none, some (.long t0), none, some (.int x13), some (.int x14), some (.long p), none, some (.long q), none, some (.int kI)] [] G C S K0 := by
      intro G u' l' e g1 g2 a0 a1 b0 b1 hkn
      have ik : (kI + Int32.ofInt 1).toInt = ((k + 1 : Nat) : Int) := by rw [y_inc (by omega), hk]; rfl
      refine w_go z_hl [283] [] 40 e.1 ?_
      intro H hH
      have f : y_fr G H [] [] := y_st (y_rf e.1) hH (by repeat (first | exact w_nil | refine w_cons (Or.inl (y_m rfl)) ?_ | refine w_cons (Or.inr (by assumption)) ?_)) (by repeat (first | exact w_nil | refine w_cons (Or.inl (y_m rfl)) ?_ | refine w_cons (Or.inr (by assumption)) ?_))
      have e2 := y_sq e f rfl rfl
      exact ih H u' l' _ (k + 1) e2.1 ((y_fe f rfl).trans g1) ((y_fe f rfl).trans g2) a0 a1 b0 b1 ik (by omega) n6 (fun G' u'' l'' k'' v1 v2 v3 v4 v5 v6 v7 => hE G' u'' l'' k'' (y_sq e2 v1 rfl rfl) v2 v3 v4 v5 v6 v7)
    have TT : ∀ {H : aH}, y_fr h H [] [] → kI.toInt < n.toInt → aOK s_P X (d + 2) a_m215 0 [some (.ref 155), some (.long p), none, some (.long q), none, none, none, none, none, none, none, none, none, none, none, none, none] [] H C S (w_KF s_P X K0 (d + 2) [(a_m268, 306, [some (.ref 155), some (.int node), some (.int n), some (.int mk), some (.int cl), some (.long wi), none, some (.long wo), none, some (.long t1), none, some (.long t0), none, some (.int x13), some (.int x14), some (.long p), none, some (.long q), none, some (.int kI)], [])]) := by
      intro H e hkn
      refine y_times (n := p) (m := q) e.1 p0 q1 ((y_fe e rfl).trans f1) ((y_fe e rfl).trans f2) u0 l0 (fun u' l' H2 a0 b0 a1 b1 g1 g2 e2 => ⟨fun n e => (by cases e), ?_⟩)
      exact T306 (y_sq (y_mo e rfl rfl) e2 rfl rfl) g1 g2 a0 a1 b0 b1 hkn
    refine w_go z_hl [283, 312] [215] 40 hr ?_
    refine ⟨fun _ => fun H hH => out (y_st (y_rf hr) hH (by repeat (first | exact w_nil | refine w_cons (Or.inl (y_m rfl)) ?_ | refine w_cons (Or.inr (by assumption)) ?_)) (by repeat (first | exact w_nil | refine w_cons (Or.inl (y_m rfl)) ?_ | refine w_cons (Or.inr (by assumption)) ?_))), fun q => ?_⟩
    have hkn : ¬ (n.toInt ≤ kI.toInt) := y_cif q
    refine ⟨fun _ => fun H hH => TT (y_st (y_rf hr) hH (by repeat (first | exact w_nil | refine w_cons (Or.inl (y_m rfl)) ?_ | refine w_cons (Or.inr (by assumption)) ?_)) (by repeat (first | exact w_nil | refine w_cons (Or.inl (y_m rfl)) ?_ | refine w_cons (Or.inr (by assumption)) ?_))) (by omega), fun _ => ⟨fun _ => fun H hH => out (y_st (y_rf hr) hH (by repeat (first | exact w_nil | refine w_cons (Or.inl (y_m rfl)) ?_ | refine w_cons (Or.inr (by assumption)) ?_)) (by repeat (first | exact w_nil | refine w_cons (Or.inl (y_m rfl)) ?_ | refine w_cons (Or.inr (by assumption)) ?_))), fun _ => fun H hH => TT (y_st (y_rf hr) hH (by repeat (first | exact w_nil | refine w_cons (Or.inl (y_m rfl)) ?_ | refine w_cons (Or.inr (by assumption)) ?_)) (by repeat (first | exact w_nil | refine w_cons (Or.inl (y_m rfl)) ?_ | refine w_cons (Or.inr (by assumption)) ?_))) (by omega)⟩⟩
theorem y_test_tail {h : aH} (hr : w_hr z_D h) {node n mk cl : Int32} {wi wo t1 t0 : Int64} {v : Nat} (hv : node.toInt = v) (v10 : v < 10) (n6 : n.toInt ≤ 6) (w0 : 0 ≤ wi.toInt) (w8 : wi.toInt ≤ 100000000) (o0 : 0 ≤ wo.toInt) (o8 : wo.toInt ≤ 100000000) (a0 : 0 ≤ t1.toInt) (b0 : 0 ≤ t0.toInt) (hk : ∀ (r : Int32) (H : aH), y_fr h H [19585, 19587, 19588, 19589] [154] → K0 (some (.int r)) H C S) : aOK s_P X (d + 3) a_m268 163 [some (.ref 155), some (.int node), some (.int n), some (.int mk), some (.int cl), some (.long wi), none, some (.long wo), none, some (.long t1), none, some (.long t0), none, none, none, none, none, none, none, none] [] h C S K0 := by
  have T364 : ∀ {G : aH} {ls : aL}, y_fr h G [19585, 19587, 19588, 19589] [154] → aOK s_P X (d + 3) a_m268 364 ls [] G C S K0 := by
    intro G ls e
    refine w_go z_hl [] [] 40 e.1 ?_
    intro H hH
    exact hk _ H (y_st e hH (by repeat (first | exact w_nil | refine w_cons (Or.inl (y_m rfl)) ?_ | refine w_cons (Or.inr (by assumption)) ?_)) (by repeat (first | exact w_nil | refine w_cons (Or.inl (y_m rfl)) ?_ | refine w_cons (Or.inr (by assumption)) ?_)))
  have T355 : ∀ {G : aH} {o13 o14 o15 o17 o19 : Option Value}, y_fr h G [19585, 19587, 19588, 19589] [154] → aOK s_P X (d + 3) a_m268 355 [some (.ref 155), some (.int node), some (.int n), some (.int mk), some (.int cl), some (.long wi), none, some (.long wo), none, some (.long t1), none, some (.long t0), none, o13, o14, o15, none, o17, none, o19] [] G C S K0 := by
    intro G o13 o14 o15 o17 o19 e
    refine w_go z_hl [] [196] 30 e.1 ?_
    refine ⟨rfl, y_zini (by decide) (by decide), fun H hH => ?_⟩
    have e2 := y_st e hH (by repeat (first | exact w_nil | refine w_cons (Or.inl (y_m rfl)) ?_ | refine w_cons (Or.inr (by assumption)) ?_)) (by repeat (first | exact w_nil | refine w_cons (Or.inl (y_m rfl)) ?_ | refine w_cons (Or.inr (by assumption)) ?_))
    refine y_tells e2.1 (hH.2.1 19585 _ rfl) (by decide) (by decide) (fun H2 r2 e3 _ _ => ⟨fun n e => (by cases e), ?_⟩)
    exact T364 (y_sq e2 e3 rfl rfl)
  have T338 : ∀ {G : aH} {u l : Int64} {o13 o14 o15 o17 o19 : Option Value}, y_fr h G [19585, 19587, 19588, 19589] [154] → w_f G 19587 = some (.long u) → w_f G 19588 = some (.long l) → 0 ≤ u.toInt → u.toInt ≤ 1000000000000000000 → 1 ≤ l.toInt → l.toInt ≤ 1000000000000000000 → aOK s_P X (d + 3) a_m268 338 [some (.ref 155), some (.int node), some (.int n), some (.int mk), some (.int cl), some (.long wi), none, some (.long wo), none, some (.long t1), none, some (.long t0), none, o13, o14, o15, none, o17, none, o19] [] G C S K0 := by
    intro G u l o13 o14 o15 o17 o19 e f1 f2 u0 u1 l0 l1
    have s1 : (u + l).toInt = u.toInt + l.toInt := y_add (by omega) (by omega)
    refine w_go z_hl [] [194] 40 e.1 ?_
    intro y hy _ _
    obtain rfl := y_fl f1 hy
    intro z hz _ _
    obtain rfl := y_fl f2 hz
    intro H hH
    have e2 := y_st e hH (by repeat (first | exact w_nil | refine w_cons (Or.inl (y_m rfl)) ?_ | refine w_cons (Or.inr (by assumption)) ?_)) (by repeat (first | exact w_nil | refine w_cons (Or.inl (y_m rfl)) ?_ | refine w_cons (Or.inr (by assumption)) ?_))
    refine q_lowest (n := u) (m := u + l) e2.1 (by omega) (by omega) (fun u l H2 e3 _ _ _ _ _ _ _ => ⟨fun n e => (by cases e), ?_⟩)
    exact T355 (y_sq e2 e3 rfl rfl)
  have T319 : ∀ {G : aH} {u l : Int64} {o13 o14 o15 o17 o19 : Option Value}, y_fr h G [19585, 19587, 19588, 19589] [154] → w_f G 19587 = some (.long u) → w_f G 19588 = some (.long l) → 0 ≤ u.toInt → u.toInt ≤ 1000000000000000000 → 1 ≤ l.toInt → l.toInt ≤ 1000000000000000000 → aOK s_P X (d + 3) a_m268 319 [some (.ref 155), some (.int node), some (.int n), some (.int mk), some (.int cl), some (.long wi), none, some (.long wo), none, some (.long t1), none, some (.long t0), none, o13, o14, o15, none, o17, none, o19] [] G C S K0 := by
    intro G u l o13 o14 o15 o17 o19 e f1 f2 u0 u1 l0 l1
    refine w_go z_hl [338, 335] [] 40 e.1 ?_
    intro y hy _ _
    obtain rfl := y_fl f1 hy
    intro z hz _ _
    obtain rfl := y_fl f2 hz
    refine ⟨fun _ => ?_, fun _ => ?_⟩
    · intro H hH
      have f : y_fr G H [] [] := y_st (y_rf e.1) hH (by repeat (first | exact w_nil | refine w_cons (Or.inl (y_m rfl)) ?_ | refine w_cons (Or.inr (by assumption)) ?_)) (by repeat (first | exact w_nil | refine w_cons (Or.inl (y_m rfl)) ?_ | refine w_cons (Or.inr (by assumption)) ?_))
      exact T338 (y_sq e f rfl rfl) ((y_fe f rfl).trans f1) ((y_fe f rfl).trans f2) u0 u1 l0 l1
    · intro H hH
      have f : y_fr G H [] [] := y_st (y_rf e.1) hH (by repeat (first | exact w_nil | refine w_cons (Or.inl (y_m rfl)) ?_ | refine w_cons (Or.inr (by assumption)) ?_)) (by repeat (first | exact w_nil | refine w_cons (Or.inl (y_m rfl)) ?_ | refine w_cons (Or.inr (by assumption)) ?_))
      have e2 := y_sq e f rfl rfl
      refine w_go z_hl [] [] 40 e2.1 ?_
      intro H2 h2
      exact hk _ H2 (y_st e2 h2 (by repeat (first | exact w_nil | refine w_cons (Or.inl (y_m rfl)) ?_ | refine w_cons (Or.inr (by assumption)) ?_)) (by repeat (first | exact w_nil | refine w_cons (Or.inl (y_m rfl)) ?_ | refine w_cons (Or.inr (by assumption)) ?_)))
  have T312 : ∀ {G : aH} {u l : Int64} {o13 o14 o15 o17 o19 : Option Value}, y_fr h G [19585, 19587, 19588, 19589] [154] → w_f G 19587 = some (.long u) → w_f G 19588 = some (.long l) → 0 ≤ u.toInt → u.toInt ≤ 1000000000000000000 → 1 ≤ l.toInt → l.toInt ≤ 1000000000000000000 → aOK s_P X (d + 3) a_m268 312 [some (.ref 155), some (.int node), some (.int n), some (.int mk), some (.int cl), some (.long wi), none, some (.long wo), none, some (.long t1), none, some (.long t0), none, o13, o14, o15, none, o17, none, o19] [] G C S K0 := by
    intro G u l o13 o14 o15 o17 o19 e f1 f2 u0 u1 l0 l1
    refine w_go z_hl [319] [] 40 e.1 ?_
    intro x hx _ _
    refine ⟨fun _ => fun H hH => hk _ H (y_st e hH (by repeat (first | exact w_nil | refine w_cons (Or.inl (y_m rfl)) ?_ | refine w_cons (Or.inr (by assumption)) ?_)) (by repeat (first | exact w_nil | refine w_cons (Or.inl (y_m rfl)) ?_ | refine w_cons (Or.inr (by assumption)) ?_))), fun _ => fun H hH => ?_⟩
    have f : y_fr G H [] [] := y_st (y_rf e.1) hH (by repeat (first | exact w_nil | refine w_cons (Or.inl (y_m rfl)) ?_ | refine w_cons (Or.inr (by assumption)) ?_)) (by repeat (first | exact w_nil | refine w_cons (Or.inl (y_m rfl)) ?_ | refine w_cons (Or.inr (by assumption)) ?_))
    exact T319 (y_sq e f rfl rfl) ((y_fe f rfl).trans f1) ((y_fe f rfl).trans f2) u0 u1 l0 l1
  have T280 : ∀ {G : aH} {u l : Int64} {p q : Int64} {x13 x14 : Int32}, y_fr h G [19587, 19588, 19589] [] → w_f G 19587 = some (.long u) → w_f G 19588 = some (.long l) → 0 ≤ u.toInt → u.toInt ≤ 1000000000000000000 → 1 ≤ l.toInt → l.toInt ≤ 1000000000000000000 → 0 ≤ p.toInt → 1 ≤ q.toInt → aOK s_P X (d + 3) a_m268 280 [some (.ref 155), some (.int node), some (.int n), some (.int mk), some (.int cl), some (.long wi), none, some (.long wo), none, some (.long t1), none, some (.long t0), none, some (.int x13), some (.int x14), some (.long p), none, some (.long q), none, none] [] G C S K0 := by
    intro G u l p q x13 x14 e f1 f2 u0 u1 l0 l1 p0 q1
    refine w_go z_hl [283] [] 40 e.1 ?_
    intro H hH
    have f : y_fr G H [] [] := y_st (y_rf e.1) hH (by repeat (first | exact w_nil | refine w_cons (Or.inl (y_m rfl)) ?_ | refine w_cons (Or.inr (by assumption)) ?_)) (by repeat (first | exact w_nil | refine w_cons (Or.inl (y_m rfl)) ?_ | refine w_cons (Or.inr (by assumption)) ?_))
    have e2 := y_sq e f rfl rfl
    exact y_test_loop p0 q1 6 H u l _ 0 f.1 ((y_fe f rfl).trans f1) ((y_fe f rfl).trans f2) u0 u1 l0 l1 rfl (by omega) n6 (fun G' u' l' k' v1 v2 v3 v4 v5 v6 v7 => T312 (y_sq (y_mo e2 rfl rfl) v1 rfl rfl) v2 v3 v4 v5 v6 v7)
  have T260 : ∀ {G : aH} {u l : Int64} {x13 x14 : Int32}, y_fr h G [19587, 19588, 19589] [] → w_f G 19587 = some (.long u) → w_f G 19588 = some (.long l) → 0 ≤ u.toInt → 1 ≤ l.toInt → 1 ≤ wo.toInt → aOK s_P X (d + 3) a_m268 260 [some (.ref 155), some (.int node), some (.int n), some (.int mk), some (.int cl), some (.long wi), none, some (.long wo), none, some (.long t1), none, some (.long t0), none, some (.int x13), some (.int x14), none, none, none, none, none] [] G C S K0 := by
    intro G u l x13 x14 e f1 f2 u0 l0 hwo
    refine w_go z_hl [] [194] 40 e.1 ?_
    intro y hy _ _
    obtain rfl := y_fl f1 hy
    intro z hz _ _
    obtain rfl := y_fl f2 hz
    intro H hH
    have e2 := y_st e hH (by repeat (first | exact w_nil | refine w_cons (Or.inl (y_m rfl)) ?_ | refine w_cons (Or.inr (by assumption)) ?_)) (by repeat (first | exact w_nil | refine w_cons (Or.inl (y_m rfl)) ?_ | refine w_cons (Or.inr (by assumption)) ?_))
    refine q_lowest (n := wi) (m := wo) e2.1 (by omega) hwo (fun u' l' H2 e3 g1 g2 g3 g4 g5 g6 g7 => ⟨fun n e => (by cases e), ?_⟩)
    exact T280 (y_sq e2 e3 rfl rfl) g1 g2 (g7 w0) (by omega) g3 (by omega) u0 l0
  have T242n : ∀ {G : aH} {x14 : Int32}, y_fr h G [19587, 19588, 19589] [] → aOK s_P X (d + 3) a_m268 242 [some (.ref 155), some (.int node), some (.int n), some (.int mk), some (.int cl), some (.long wi), none, some (.long wo), none, some (.long t1), none, some (.long t0), none, some (.int (Int32.ofInt 0)), some (.int x14), none, none, none, none, none] [] G C S K0 := by
    intro G x14 e
    refine w_go z_hl [355] [] 40 e.1 ?_
    exact ⟨fun _ => fun H hH => T355 (y_st (y_mo e rfl rfl) hH (by repeat (first | exact w_nil | refine w_cons (Or.inl (y_m rfl)) ?_ | refine w_cons (Or.inr (by assumption)) ?_)) (by repeat (first | exact w_nil | refine w_cons (Or.inl (y_m rfl)) ?_ | refine w_cons (Or.inr (by assumption)) ?_))), fun q => absurd q (by decide)⟩
  have T242 : ∀ {G : aH} {x14 : Int32}, y_fr h G [19587, 19588, 19589] [] → (x14 ≠ 0 → 1 ≤ wo.toInt ∧ 1 ≤ t0.toInt) → aOK s_P X (d + 3) a_m268 242 [some (.ref 155), some (.int node), some (.int n), some (.int mk), some (.int cl), some (.long wi), none, some (.long wo), none, some (.long t1), none, some (.long t0), none, some (.int (Int32.ofInt 1)), some (.int x14), none, none, none, none, none] [] G C S K0 := by
    intro G x14 e h14
    refine w_go z_hl [355] [194] 40 e.1 ?_
    refine ⟨fun q => absurd q (by decide), fun _ => ⟨fun _ => fun H hH => T355 (y_st (y_mo e rfl rfl) hH (by repeat (first | exact w_nil | refine w_cons (Or.inl (y_m rfl)) ?_ | refine w_cons (Or.inr (by assumption)) ?_)) (by repeat (first | exact w_nil | refine w_cons (Or.inl (y_m rfl)) ?_ | refine w_cons (Or.inr (by assumption)) ?_))), fun q => fun H hH => ?_⟩⟩
    have q2 : ¬ (x14.toInt = (0 : Int32).toInt) := y_cif q
    obtain ⟨c1, c2⟩ := h14 (fun e => q2 (by rw [e]))
    have e2 := y_st e hH (by repeat (first | exact w_nil | refine w_cons (Or.inl (y_m rfl)) ?_ | refine w_cons (Or.inr (by assumption)) ?_)) (by repeat (first | exact w_nil | refine w_cons (Or.inl (y_m rfl)) ?_ | refine w_cons (Or.inr (by assumption)) ?_))
    refine q_lowest (n := t1) (m := t0) e2.1 (by omega) c2 (fun u' l' H2 e3 g1 g2 g3 g4 g5 g6 g7 => ⟨fun n e => (by cases e), ?_⟩)
    exact T260 (y_sq e2 e3 rfl rfl) g1 g2 (g7 a0) g3 c1
  have T218 : ∀ {G : aH} {x13 x14 : Int32}, y_fr h G [] [] → (x13 = Int32.ofInt 0 ∨ x13 = Int32.ofInt 1) → (x14 ≠ 0 → 1 ≤ wo.toInt ∧ 1 ≤ t0.toInt) → aOK s_P X (d + 3) a_m268 218 [some (.ref 155), some (.int node), some (.int n), some (.int mk), some (.int cl), some (.long wi), none, some (.long wo), none, some (.long t1), none, some (.long t0), none, some (.int x13), some (.int x14), none, none, none, none, none] [] G C S K0 := by
    intro G x13 x14 e h13 h14
    rcases h13 with rfl | rfl
    · refine w_go z_hl [242] [] 40 e.1 ?_
      refine ⟨rfl, y_zini (by decide) (by decide), ⟨fun _ => ⟨rfl, y_zin (by decide) (by decide), rfl, y_zin (by decide) (by decide), fun H hH => T242n (y_st (y_mo e rfl rfl) hH (by repeat (first | exact w_nil | refine w_cons (Or.inl (y_m rfl)) ?_ | refine w_cons (Or.inr (by assumption)) ?_)) (by repeat (first | exact w_nil | refine w_cons (Or.inl (y_m rfl)) ?_ | refine w_cons (Or.inr (by assumption)) ?_)))⟩, fun q => absurd q (by decide)⟩⟩
    · refine w_go z_hl [242] [] 40 e.1 ?_
      refine ⟨rfl, y_zini (by decide) (by decide), ⟨fun q => absurd q (by decide), fun _ => ⟨rfl, y_zin (by decide) (by decide), rfl, y_zin (by decide) (by decide), fun H hH => T242 (y_st (y_mo e rfl rfl) hH (by repeat (first | exact w_nil | refine w_cons (Or.inl (y_m rfl)) ?_ | refine w_cons (Or.inr (by assumption)) ?_)) (by repeat (first | exact w_nil | refine w_cons (Or.inl (y_m rfl)) ?_ | refine w_cons (Or.inr (by assumption)) ?_))) h14⟩⟩⟩
  have T203 : ∀ {G : aH} {x13 x14 : Int32}, y_fr h G [] [] → (x13 = Int32.ofInt 0 ∨ x13 = Int32.ofInt 1) → (x14 ≠ 0 → 1 ≤ wo.toInt ∧ 1 ≤ t0.toInt) → aOK s_P X (d + 3) a_m268 203 [some (.ref 155), some (.int node), some (.int n), some (.int mk), some (.int cl), some (.long wi), none, some (.long wo), none, some (.long t1), none, some (.long t0), none, some (.int x13), none, none, none, none, none, none] [.int x14] G C S K0 := by
    intro G x13 x14 e h13 h14
    refine w_go z_hl [218] [] 40 e.1 ?_
    refine ⟨fun _ => fun H hH => T218 (y_st e hH (by repeat (first | exact w_nil | refine w_cons (Or.inl (y_m rfl)) ?_ | refine w_cons (Or.inr (by assumption)) ?_)) (by repeat (first | exact w_nil | refine w_cons (Or.inl (y_m rfl)) ?_ | refine w_cons (Or.inr (by assumption)) ?_))) h13 h14, fun _ => ⟨fun _ => fun H hH => T218 (y_st e hH (by repeat (first | exact w_nil | refine w_cons (Or.inl (y_m rfl)) ?_ | refine w_cons (Or.inr (by assumption)) ?_)) (by repeat (first | exact w_nil | refine w_cons (Or.inl (y_m rfl)) ?_ | refine w_cons (Or.inr (by assumption)) ?_))) h13 h14, fun _ => fun H hH => hk _ H (y_st (y_mo e rfl rfl) hH (by repeat (first | exact w_nil | refine w_cons (Or.inl (y_m rfl)) ?_ | refine w_cons (Or.inr (by assumption)) ?_)) (by repeat (first | exact w_nil | refine w_cons (Or.inl (y_m rfl)) ?_ | refine w_cons (Or.inr (by assumption)) ?_)))⟩⟩
  have T182 : ∀ {G : aH} {x13 : Int32}, y_fr h G [] [] → (x13 = Int32.ofInt 0 ∨ x13 = Int32.ofInt 1) → aOK s_P X (d + 3) a_m268 182 [some (.ref 155), some (.int node), some (.int n), some (.int mk), some (.int cl), some (.long wi), none, some (.long wo), none, some (.long t1), none, some (.long t0), none, none, none, none, none, none, none, none] [.int x13] G C S K0 := by
    intro G x13 e h13
    refine w_go z_hl [203] [] 40 e.1 ?_
    refine ⟨fun _ => fun H hH => T203 (y_st e hH (by repeat (first | exact w_nil | refine w_cons (Or.inl (y_m rfl)) ?_ | refine w_cons (Or.inr (by assumption)) ?_)) (by repeat (first | exact w_nil | refine w_cons (Or.inl (y_m rfl)) ?_ | refine w_cons (Or.inr (by assumption)) ?_))) h13 (fun q => absurd rfl q), fun q => ⟨fun _ => fun H hH => T203 (y_st e hH (by repeat (first | exact w_nil | refine w_cons (Or.inl (y_m rfl)) ?_ | refine w_cons (Or.inr (by assumption)) ?_)) (by repeat (first | exact w_nil | refine w_cons (Or.inl (y_m rfl)) ?_ | refine w_cons (Or.inr (by assumption)) ?_))) h13 (fun q => absurd rfl q), fun q2 => fun H hH => T203 (y_st e hH (by repeat (first | exact w_nil | refine w_cons (Or.inl (y_m rfl)) ?_ | refine w_cons (Or.inr (by assumption)) ?_)) (by repeat (first | exact w_nil | refine w_cons (Or.inl (y_m rfl)) ?_ | refine w_cons (Or.inr (by assumption)) ?_))) h13 (fun _ => ?_)⟩⟩
    have q3 : ¬ (wo.toInt ≤ (Int64.ofNat 0).toInt) := y_clf q
    have q4 : ¬ (t0.toInt ≤ (Int64.ofNat 0).toInt) := y_clf q2
    rw [show (Int64.ofNat 0).toInt = 0 by decide] at q3 q4
    omega
  refine w_go z_hl [182] [] 40 hr ?_
  refine ⟨fun _ => fun H hH => T182 (y_st (y_rf hr) hH (by repeat (first | exact w_nil | refine w_cons (Or.inl (y_m rfl)) ?_ | refine w_cons (Or.inr (by assumption)) ?_)) (by repeat (first | exact w_nil | refine w_cons (Or.inl (y_m rfl)) ?_ | refine w_cons (Or.inr (by assumption)) ?_))) (Or.inl rfl), fun q => ⟨fun _ => fun H hH => T182 (y_st (y_rf hr) hH (by repeat (first | exact w_nil | refine w_cons (Or.inl (y_m rfl)) ?_ | refine w_cons (Or.inr (by assumption)) ?_)) (by repeat (first | exact w_nil | refine w_cons (Or.inl (y_m rfl)) ?_ | refine w_cons (Or.inr (by assumption)) ?_))) (Or.inl rfl), fun q2 => fun H hH => T182 (y_st (y_rf hr) hH (by repeat (first | exact w_nil | refine w_cons (Or.inl (y_m rfl)) ?_ | refine w_cons (Or.inr (by assumption)) ?_)) (by repeat (first | exact w_nil | refine w_cons (Or.inl (y_m rfl)) ?_ | refine w_cons (Or.inr (by assumption)) ?_))) (Or.inr rfl)⟩⟩
theorem p_test {h : aH} (hr : w_hr z_D h) (hJ : y_J h) {node n mk : Int32} (hk : ∀ (r : Int32) (H : aH), y_fr h H [19584, 19585, 19587, 19588, 19589] [154, 163] → y_J H → K0 (some (.int r)) H C S) : aOK s_P X (d + 4) a_m268 0 [some (.ref 155), some (.int node), some (.int n), some (.int mk), none, none, none, none, none, none, none, none, none, none, none, none, none, none, none, none] [] h C S K0 := by
  have hJ' := hJ
  obtain ⟨q1, q2, q3, q4, q5, q6, q7⟩ := hJ'
  obtain ⟨nd, le, de, ta, n1, n2, n3, n4, c1, c2, c3, c4, c5⟩ := id q1
  obtain ⟨nd', sm, so, sa, s1, s2, s3, s4, s5⟩ := id q5
  obtain rfl := y_fi n1 s1
  obtain ⟨b1, b2⟩ := y_ndb hr n1
  have out : ∀ {G : aH} {r : Int32}, y_fr h G [19584] [] → K0 (some (.int r)) G C S := fun g => hk _ _ (y_mo g rfl rfl) (y_J_fr g rfl rfl hJ)
  have T135 : ∀ {G0 G : aH} {cl : Int32} {wi wo : Int64} {v : Nat}, y_fr h G0 [19584] [163] → y_J G0 → y_fr G0 G [] [] → node.toInt = v → v < 10 → n.toInt ≤ 6 → 0 ≤ wi.toInt → wi.toInt ≤ 100000000 → 0 ≤ wo.toInt → wo.toInt ≤ 100000000 → aOK s_P X (d + 4) a_m268 135 [some (.ref 155), some (.int node), some (.int n), some (.int mk), some (.int cl), some (.long wi), none, none, none, none, none, none, none, none, none, none, none, none, none, none] [.long wo] G C S K0 := by
    intro G0 G cl wi wo v e0 J0 e hv v10 n6 w0 w8 o0 o8
    have i1 : ((Int8.ofInt 8).toInt32 * node + Int32.ofInt 1).toInt = ((8 * v + 1 : Nat) : Int) := y_i8 hv (by decide) (by omega) (by omega)
    have i0 : ((Int8.ofInt 8).toInt32 * node).toInt = ((8 * v : Nat) : Int) := y_mulS _ y_c8 hv rfl (by omega)
    have k1 : 0 ≤ ((Int8.ofInt 8).toInt32 * node + Int32.ofInt 1).toInt ∧ ((Int8.ofInt 8).toInt32 * node + Int32.ofInt 1).toInt < ((80 : Nat) : Int) := by omega
    have k0 : 0 ≤ ((Int8.ofInt 8).toInt32 * node).toInt ∧ ((Int8.ofInt 8).toInt32 * node).toInt < ((80 : Nat) : Int) := by omega
    have m1 : ((Int8.ofInt 8).toInt32 * node + Int32.ofInt 1).toNatClampNeg < 80 := by have := y_cl1 i1; omega
    have m0 : ((Int8.ofInt 8).toInt32 * node).toNatClampNeg < 80 := by have := y_cl1 i0; omega
    refine w_go z_hl [163] [] 40 e.1 ?_
    refine ⟨k1, fun l hl len bb => ⟨k0, fun H hH => ?_⟩⟩
    have f : y_fr G0 H [] [] := y_st e hH (by repeat (first | exact w_nil | refine w_cons (Or.inl (y_m rfl)) ?_ | refine w_cons (Or.inr (by assumption)) ?_)) (by repeat (first | exact w_nil | refine w_cons (Or.inl (y_m rfl)) ?_ | refine w_cons (Or.inr (by assumption)) ?_))
    have t1 := (bb _ (z_gd (0 : Int32) (Nat.lt_of_lt_of_eq m1 len.symm))).1
    have t0 := (bb _ (z_gd (0 : Int32) (Nat.lt_of_lt_of_eq m0 len.symm))).1
    refine aOK_deep (d := d + 3) (by omega) ?_
    refine y_test_tail f.1 hv v10 n6 w0 w8 o0 o8 (by rw [y_i2l]; exact t1) (by rw [y_i2l]; exact t0) (fun r H5 e5 => ?_)
    exact hk r H5 (y_sq (y_mo (y_sq e0 f rfl rfl : y_fr h H [19584] [163]) rfl rfl) e5 rfl rfl) (y_J_fr e5 rfl rfl (y_J_fr f rfl rfl J0))
  have T125 : ∀ {G0 G : aH} {cl : Int32} {wl : List Int64} {wi : Int64} {v : Nat}, y_fr h G0 [19584] [163] → y_J G0 → y_wl G0 wl → y_fr G0 G [] [] → node.toInt = v → v < 10 → n.toInt ≤ 6 → 0 ≤ wi.toInt → wi.toInt ≤ 100000000 → aOK s_P X (d + 4) a_m268 125 [some (.ref 155), some (.int node), some (.int n), some (.int mk), some (.int cl), none, none, none, none, none, none, none, none, none, none, none, none, none, none, none] [.long wi] G C S K0 := by
    intro G0 G cl wl wi v e0 J0 hw e hv v10 n6 w0 w8
    refine w_go z_hl [] [190] 40 e.1 ?_
    intro H hH
    have f : y_fr G0 H [] [] := y_st e hH (by repeat (first | exact w_nil | refine w_cons (Or.inl (y_m rfl)) ?_ | refine w_cons (Or.inr (by assumption)) ?_)) (by repeat (first | exact w_nil | refine w_cons (Or.inl (y_m rfl)) ?_ | refine w_cons (Or.inr (by assumption)) ?_))
    have f1 : y_fr h H [19584] [163] := y_sq e0 f rfl rfl
    refine y_nowWith (b := false) f.1 ((y_fe f1 rfl).trans n1) ((y_ae f1 rfl).trans s4) (y_wl_fr f (fun q => by cases q) hw) (fun r H2 e3 hr3 => ⟨fun n e => (by cases e), ?_⟩)
    have bb := y_nw_b (sa := sa) (node := cl) (so := false) (but := Int32.ofInt (-1)) hw b1 b2
    exact T135 e0 J0 (y_sq f e3 rfl rfl) hv v10 n6 w0 w8 (by omega) (by omega)
  have T109 : ∀ {G0 G : aH} {cl : Int32} {wl : List Int64} {r : Int64} {v : Nat}, y_fr h G0 [19584] [163] → y_J G0 → y_wl G0 wl → y_fr G0 G [] [] → node.toInt = v → v < 10 → n.toInt ≤ 6 → aOK s_P X (d + 4) a_m268 109 [some (.ref 155), some (.int node), some (.int n), some (.int mk), some (.int cl), none, none, none, none, none, none, none, none, none, none, none, none, none, none, none] [.long r] G C S K0 := by
    intro G0 G cl wl r v e0 J0 hw e hv v10 n6
    refine w_go z_hl [] [190] 40 e.1 ?_
    refine ⟨fun _ => fun H hH => ?_, fun _ => fun H hH => ?_⟩
    · have f : y_fr G0 H [] [] := y_st e hH (by repeat (first | exact w_nil | refine w_cons (Or.inl (y_m rfl)) ?_ | refine w_cons (Or.inr (by assumption)) ?_)) (by repeat (first | exact w_nil | refine w_cons (Or.inl (y_m rfl)) ?_ | refine w_cons (Or.inr (by assumption)) ?_))
      have f1 : y_fr h H [19584] [163] := y_sq e0 f rfl rfl
      refine y_nowWith (b := true) f.1 ((y_fe f1 rfl).trans n1) ((y_ae f1 rfl).trans s4) (y_wl_fr f (fun q => by cases q) hw) (fun r H2 e3 hr3 => ⟨fun n e => (by cases e), ?_⟩)
      have bb := y_nw_b (sa := sa) (node := cl) (so := true) (but := Int32.ofInt (-1)) hw b1 b2
      exact T125 e0 J0 hw (y_sq f e3 rfl rfl) hv v10 n6 (by omega) (by omega)
    · have f : y_fr G0 H [] [] := y_st e hH (by repeat (first | exact w_nil | refine w_cons (Or.inl (y_m rfl)) ?_ | refine w_cons (Or.inr (by assumption)) ?_)) (by repeat (first | exact w_nil | refine w_cons (Or.inl (y_m rfl)) ?_ | refine w_cons (Or.inr (by assumption)) ?_))
      exact hk _ H (y_sq (y_mo e0 rfl rfl) f rfl rfl) (y_J_fr f rfl rfl J0)
  have T105 : ∀ {G0 : aH} {cl : Int32} {wl : List Int64} {v : Nat}, y_fr h G0 [19584] [163] → y_J G0 → y_wl G0 wl → node.toInt = v → v < 10 → n.toInt ≤ 6 → aOK s_P X (d + 4) a_m268 105 [some (.ref 155), some (.int node), some (.int n), some (.int mk), some (.int cl), none, none, none, none, none, none, none, none, none, none, none, none, none, none, none] [] G0 C S K0 := by
    intro G0 cl wl v e0 J0 hw hv v10 n6
    refine w_go z_hl [] [189] 40 e0.1 ?_
    intro H hH
    have f : y_fr G0 H [] [] := y_st (y_rf e0.1) hH (by repeat (first | exact w_nil | refine w_cons (Or.inl (y_m rfl)) ?_ | refine w_cons (Or.inr (by assumption)) ?_)) (by repeat (first | exact w_nil | refine w_cons (Or.inl (y_m rfl)) ?_ | refine w_cons (Or.inr (by assumption)) ?_))
    have f1 : y_fr h H [19584] [163] := y_sq e0 f rfl rfl
    refine y_now f.1 ((y_fe f1 rfl).trans n1) ((y_ae f1 rfl).trans s4) (y_wl_fr f (fun q => by cases q) hw) (fun r H2 e3 hr3 => ⟨fun n e => (by cases e), ?_⟩)
    exact T109 e0 J0 hw (y_sq f e3 rfl rfl) hv v10 n6
  have T101 : ∀ {G : aH} {cl : Int32} {v : Nat}, y_fr h G [19584] [] → node.toInt = v → v < 10 → n.toInt ≤ 6 → aOK s_P X (d + 4) a_m268 101 [some (.ref 155), some (.int node), some (.int n), some (.int mk), some (.int cl), none, none, none, none, none, none, none, none, none, none, none, none, none, none, none] [] G C S K0 := by
    intro G cl v e hv v10 n6
    refine w_go z_hl [] [188] 40 e.1 ?_
    intro H hH
    have e2 := y_st e hH (by repeat (first | exact w_nil | refine w_cons (Or.inl (y_m rfl)) ?_ | refine w_cons (Or.inr (by assumption)) ?_)) (by repeat (first | exact w_nil | refine w_cons (Or.inl (y_m rfl)) ?_ | refine w_cons (Or.inr (by assumption)) ?_))
    refine q_weighsUp e2.1 (y_J_fr e2 rfl rfl hJ) (fun wl H2 e3 J3 hw => ⟨fun n e => (by cases e), ?_⟩)
    exact T105 (y_sq (y_mo e2 rfl rfl) e3 rfl rfl) J3 hw hv v10 n6
  have T59 : ∀ {G : aH} {cl : Int32} {v : Nat}, y_fr h G [19584] [] → node.toInt = v → v < 10 → n.toInt ≤ 6 → 0 ≤ cl.toInt → cl.toInt ≤ 9 → aOK s_P X (d + 4) a_m268 59 [some (.ref 155), some (.int node), some (.int n), some (.int mk), none, none, none, none, none, none, none, none, none, none, none, none, none, none, none, none] [.int cl] G C S K0 := by
    intro G cl v e hv v10 n6 cl0 cl9
    refine w_go z_hl [101] [] 60 e.1 ?_
    refine ⟨⟨by omega, by omega⟩, fun l hl len bb => ⟨fun _ => fun H hH => out (y_st e hH (by repeat (first | exact w_nil | refine w_cons (Or.inl (y_m rfl)) ?_ | refine w_cons (Or.inr (by assumption)) ?_)) (by repeat (first | exact w_nil | refine w_cons (Or.inl (y_m rfl)) ?_ | refine w_cons (Or.inr (by assumption)) ?_))), fun _ => ⟨⟨by omega, by omega⟩, ⟨fun _ => fun H hH => out (y_st e hH (by repeat (first | exact w_nil | refine w_cons (Or.inl (y_m rfl)) ?_ | refine w_cons (Or.inr (by assumption)) ?_)) (by repeat (first | exact w_nil | refine w_cons (Or.inl (y_m rfl)) ?_ | refine w_cons (Or.inr (by assumption)) ?_))), fun _ => ⟨⟨by omega, by omega⟩, fun l2 hl2 len2 bb2 => ⟨fun _ => fun H hH => out (y_st e hH (by repeat (first | exact w_nil | refine w_cons (Or.inl (y_m rfl)) ?_ | refine w_cons (Or.inr (by assumption)) ?_)) (by repeat (first | exact w_nil | refine w_cons (Or.inl (y_m rfl)) ?_ | refine w_cons (Or.inr (by assumption)) ?_))), fun _ => ⟨⟨by omega, by omega⟩, ⟨fun _ => fun H hH => T101 (y_st e hH (by repeat (first | exact w_nil | refine w_cons (Or.inl (y_m rfl)) ?_ | refine w_cons (Or.inr (by assumption)) ?_)) (by repeat (first | exact w_nil | refine w_cons (Or.inl (y_m rfl)) ?_ | refine w_cons (Or.inr (by assumption)) ?_))) hv v10 n6, fun _ => fun H hH => out (y_st e hH (by repeat (first | exact w_nil | refine w_cons (Or.inl (y_m rfl)) ?_ | refine w_cons (Or.inr (by assumption)) ?_)) (by repeat (first | exact w_nil | refine w_cons (Or.inl (y_m rfl)) ?_ | refine w_cons (Or.inr (by assumption)) ?_)))⟩⟩⟩⟩⟩⟩⟩⟩
  have T45 : ∀ {G : aH} {v : Nat}, y_fr h G [19584] [] → node.toInt = v → v < 10 → n.toInt ≤ 6 → y_pl (y_Nn le v) 10 = 1 → aOK s_P X (d + 4) a_m268 45 [some (.ref 155), some (.int node), some (.int n), some (.int mk), none, none, none, none, none, none, none, none, none, none, none, none, none, none, none, none] [.int (y_01 true)] G C S K0 := by
    intro G v e hv v10 n6 hpl
    refine w_go z_hl [] [269] 60 e.1 ?_
    refine ⟨fun _ => ?_, fun q => absurd q (by decide)⟩
    refine ⟨⟨by omega, by omega⟩, fun l hl len bb => ?_⟩
    obtain rfl := y_ai ((y_ae e rfl).trans n2) hl
    have hvc := y_cl1 hv
    have hm := bb _ (z_gd (0 : Int32) (show v < le.length by omega))
    intro H hH
    have e2 := y_st e hH (by repeat (first | exact w_nil | refine w_cons (Or.inl (y_m rfl)) ?_ | refine w_cons (Or.inr (by assumption)) ?_)) (by repeat (first | exact w_nil | refine w_cons (Or.inl (y_m rfl)) ?_ | refine w_cons (Or.inr (by assumption)) ?_))
    refine y_ntz (x := le.getD node.toNatClampNeg 0) (b := y_Nn le v) e2.1 (by rw [hvc]; unfold y_Nn; omega) (by unfold y_Nn; omega) hpl (fun r H2 e3 r0 r9 => ⟨fun n e => (by cases e), ?_⟩)
    exact T59 (y_sq e2 e3 rfl rfl) hv v10 n6 r0 r9
  have T45n : ∀ {G : aH}, y_fr h G [19584] [] → aOK s_P X (d + 4) a_m268 45 [some (.ref 155), some (.int node), some (.int n), some (.int mk), none, none, none, none, none, none, none, none, none, none, none, none, none, none, none, none] [.int (y_01 false)] G C S K0 := by
    intro G e
    refine w_go z_hl [] [] 60 e.1 ?_
    exact ⟨fun q => absurd q (by decide), fun _ => fun H hH => out (y_st e hH (by repeat (first | exact w_nil | refine w_cons (Or.inl (y_m rfl)) ?_ | refine w_cons (Or.inr (by assumption)) ?_)) (by repeat (first | exact w_nil | refine w_cons (Or.inl (y_m rfl)) ?_ | refine w_cons (Or.inr (by assumption)) ?_)))⟩
  have T35 : ∀ {G : aH} {v : Nat}, y_fr h G [19584] [] → node.toInt = v → v < 10 → n.toInt ≤ 6 → y_pl (y_Nn le v) 10 = 1 → aOK s_P X (d + 4) a_m268 35 [some (.ref 155), some (.int node), some (.int n), some (.int mk), none, none, none, none, none, none, none, none, none, none, none, none, none, none, none, none] [.int (y_01 true)] G C S K0 := by
    intro G v e hv v10 n6 hpl
    refine w_go z_hl [] [176] 60 e.1 ?_
    refine ⟨fun q => absurd q (by decide), fun _ => fun H hH => ?_⟩
    have e2 := y_st e hH (by repeat (first | exact w_nil | refine w_cons (Or.inl (y_m rfl)) ?_ | refine w_cons (Or.inr (by assumption)) ?_)) (by repeat (first | exact w_nil | refine w_cons (Or.inl (y_m rfl)) ?_ | refine w_cons (Or.inr (by assumption)) ?_))
    refine q_in e2.1 (fun H3 h3 _ _ => ⟨fun n e => (by cases e), ?_⟩) (fun H3 h3 _ => ⟨fun n e => (by cases e), ?_⟩)
    · exact T45 (y_sq e2 h3 rfl rfl) hv v10 n6 hpl
    · exact T45n (y_sq e2 h3 rfl rfl)
  have T35n : ∀ {G : aH}, y_fr h G [19584] [] → aOK s_P X (d + 4) a_m268 35 [some (.ref 155), some (.int node), some (.int n), some (.int mk), none, none, none, none, none, none, none, none, none, none, none, none, none, none, none, none] [.int (y_01 false)] G C S K0 := by
    intro G e
    refine w_go z_hl [] [] 60 e.1 ?_
    exact ⟨fun _ => fun H hH => out (y_st e hH (by repeat (first | exact w_nil | refine w_cons (Or.inl (y_m rfl)) ?_ | refine w_cons (Or.inr (by assumption)) ?_)) (by repeat (first | exact w_nil | refine w_cons (Or.inl (y_m rfl)) ?_ | refine w_cons (Or.inr (by assumption)) ?_))), fun q => absurd q (by decide)⟩
  have T22 : ∀ {G : aH} {v : Nat} {x : Int32}, y_fr h G [19584] [] → node.toInt = v → v < 10 → (y_bc x).toInt = (y_pl (y_Nn le v) 10 : Int) → aOK s_P X (d + 4) a_m268 22 [some (.ref 155), some (.int node), some (.int n), some (.int mk), none, none, none, none, none, none, none, none, none, none, none, none, none, none, none, none] [.int (y_bc x)] G C S K0 := by
    intro G v x e hv v10 hbc
    refine w_go z_hl [] [176] 60 e.1 ?_
    refine ⟨fun _ => fun H hH => out (y_st e hH (by repeat (first | exact w_nil | refine w_cons (Or.inl (y_m rfl)) ?_ | refine w_cons (Or.inr (by assumption)) ?_)) (by repeat (first | exact w_nil | refine w_cons (Or.inl (y_m rfl)) ?_ | refine w_cons (Or.inr (by assumption)) ?_))), fun q => fun H hH => ?_⟩
    have q2 : ¬ ((y_bc x).toInt ≠ (Int32.ofInt 1).toInt) := y_cif q
    rw [show (Int32.ofInt 1).toInt = 1 by decide] at q2
    have e2 := y_st e hH (by repeat (first | exact w_nil | refine w_cons (Or.inl (y_m rfl)) ?_ | refine w_cons (Or.inr (by assumption)) ?_)) (by repeat (first | exact w_nil | refine w_cons (Or.inl (y_m rfl)) ?_ | refine w_cons (Or.inr (by assumption)) ?_))
    refine q_in (v := n.toInt64) (lo := Int64.ofNat 1) (hi := Int64.ofInt 6) e2.1 (fun H3 h3 _ l2 => ⟨fun n e => (by cases e), ?_⟩) (fun H3 h3 _ => ⟨fun n e => (by cases e), ?_⟩)
    · rw [y_i2l, y_i64 (by decide) (by decide)] at l2
      exact T35 (y_sq e2 h3 rfl rfl) hv v10 l2 (by omega)
    · exact T35n (y_sq e2 h3 rfl rfl)
  have T10 : ∀ {G : aH} {v : Nat}, y_fr h G [19584] [] → node.toInt = v → v < 10 → aOK s_P X (d + 4) a_m268 10 [some (.ref 155), some (.int node), some (.int n), some (.int mk), none, none, none, none, none, none, none, none, none, none, none, none, none, none, none, none] [.int (y_01 true)] G C S K0 := by
    intro G v e hv v10
    refine w_go z_hl [] [15] 60 e.1 ?_
    refine ⟨fun q => absurd q (by decide), fun _ => ?_⟩
    refine ⟨⟨by omega, by omega⟩, fun l hl len bb => ?_⟩
    obtain rfl := y_ai ((y_ae e rfl).trans n2) hl
    have hvc := y_cl1 hv
    have hm := bb _ (z_gd (0 : Int32) (show v < le.length by omega))
    intro H hH
    have e2 := y_st e hH (by repeat (first | exact w_nil | refine w_cons (Or.inl (y_m rfl)) ?_ | refine w_cons (Or.inr (by assumption)) ?_)) (by repeat (first | exact w_nil | refine w_cons (Or.inl (y_m rfl)) ?_ | refine w_cons (Or.inr (by assumption)) ?_))
    refine y_bitCount e2.1 (fun H2 e3 => ⟨fun n e => (by cases e), ?_⟩)
    exact T22 (x := le.getD node.toNatClampNeg 0) (y_sq e2 (y_w0 e3) rfl rfl) hv v10 (y_bcN (by rw [hvc]; unfold y_Nn; omega) (by unfold y_Nn; omega))
  have T10n : ∀ {G : aH}, y_fr h G [19584] [] → aOK s_P X (d + 4) a_m268 10 [some (.ref 155), some (.int node), some (.int n), some (.int mk), none, none, none, none, none, none, none, none, none, none, none, none, none, none, none, none] [.int (y_01 false)] G C S K0 := by
    intro G e
    refine w_go z_hl [] [] 60 e.1 ?_
    exact ⟨fun _ => fun H hH => out (y_st e hH (by repeat (first | exact w_nil | refine w_cons (Or.inl (y_m rfl)) ?_ | refine w_cons (Or.inr (by assumption)) ?_)) (by repeat (first | exact w_nil | refine w_cons (Or.inl (y_m rfl)) ?_ | refine w_cons (Or.inr (by assumption)) ?_))), fun q => absurd q (by decide)⟩
  refine w_go z_hl [] [178] 30 hr ?_
  refine ⟨rfl, y_zini (by decide) (by decide), fun H1 h1 => ?_⟩
  have e1 : y_fr h H1 [19584] [] := y_st (y_mo (y_rf hr) rfl rfl) h1 (by repeat (first | exact w_nil | refine w_cons (Or.inl (y_m rfl)) ?_ | refine w_cons (Or.inr (by assumption)) ?_)) (by repeat (first | exact w_nil | refine w_cons (Or.inl (y_m rfl)) ?_ | refine w_cons (Or.inr (by assumption)) ?_))
  refine q_isNode (v := node) e1.1 ((y_fe e1 rfl).trans n1) (fun H2 v h2 hv hv2 hvc => ⟨fun n e => (by cases e), ?_⟩) (fun H2 h2 => ⟨fun n e => (by cases e), ?_⟩)
  · exact T10 (y_sq e1 h2 rfl rfl) hv (by omega)
  · exact T10n (y_sq e1 h2 rfl rfl)
end WG
end PT28i
