/-! ===== v3: what is seen, as bits; weights now ===== -/
def y_bits (p : Nat → Bool) : Nat → Int32
  | 0 => Int32.ofInt 0
  | n + 1 => y_bits p n ||| cond (p n) (Int32.ofInt 1 <<< (Int32.ofNat n &&& 31)) (Int32.ofInt 0)
def y_bt (node : Int32) : Int32 := if node.toInt < 0 then Int32.ofInt 0 else Int32.ofInt 1 <<< (node &&& 31)
def y_pS (sa : List Int32) (but : Int32) (v : Nat) : Bool := !(decide ((v : Int) = but.toInt)) && decide (y_N sa v = 1)
def y_pN (sa : List Int32) (but : Int32) (v : Nat) : Bool := !(decide ((v : Int) = but.toInt)) && decide (y_N sa v = 0)
def y_nw (sa : List Int32) (nd : Int32) (wl : List Int64) (node : Int32) (so : Bool) (but : Int32) : Int := y_ws wl (y_bits (y_pS sa but) nd.toInt.toNat ||| cond so (y_bt node) (Int32.ofInt 0)) (y_bits (y_pN sa but) nd.toInt.toNat ||| cond so (Int32.ofInt 0) (y_bt node)) (y_ways nd)
theorem y_nw_b {sa : List Int32} {nd : Int32} {wl : List Int64} {node : Int32} {so : Bool} {but : Int32} {h : aH} (hw : y_wl h wl) (n0 : 0 ≤ nd.toInt) (n10 : nd.toInt ≤ 10) : 0 ≤ y_nw sa nd wl node so but ∧ y_nw sa nd wl node so but ≤ 100000000 := by
  have b := y_ws_b hw.2.1 (a := y_bits (y_pS sa but) nd.toInt.toNat ||| cond so (y_bt node) (Int32.ofInt 0)) (b := y_bits (y_pN sa but) nd.toInt.toNat ||| cond so (Int32.ofInt 0) (y_bt node)) (y_ways nd)
  have t := y_tot_m hw.2.1 (y_all n0 n10).2.2
  have w := hw.2.2
  unfold y_nw
  omega
section WG
variable {X : aX} {C S d : Nat} {K0 : Option Value → aH → Nat → Nat → Prop}
theorem y_seenSo_loop {but nd : Int32} {sa : List Int32} : ∀ (t : Nat) (h : aH) (kI b : Int32) (k : Nat), w_hr z_D h → w_f h 19591 = some (.int nd) → w_a h 160 = some (0, .inl sa) → kI.toInt = k → (k : Int) + t = nd.toInt → b = y_bits (y_pS sa but) k →
    (∀ (H : aH), y_fr h H [] [] → K0 (some (.int (y_bits (y_pS sa but) nd.toInt.toNat))) H C S) →
    aOK s_P X d a_m191 4 [some (.ref 155), some (.int but), some (.int b), some (.int kI)] [] h C S K0 := by
  intro t
  induction t with
  | zero =>
    intro h kI b k hr g1 g2 hk hkt hb hK
    refine w_go z_hl [4] [] 40 hr ?_
    intro x hx _ _
    obtain rfl := y_fi g1 hx
    refine ⟨fun q => ?_, fun q => ?_⟩
    · intro H hH
      have := hK H (y_st (y_rf hr) hH (by repeat (first | exact w_nil | refine w_cons (Or.inl (y_m rfl)) ?_ | refine w_cons (Or.inr (by assumption)) ?_)) (by repeat (first | exact w_nil | refine w_cons (Or.inl (y_m rfl)) ?_ | refine w_cons (Or.inr (by assumption)) ?_)))
      rw [show nd.toInt.toNat = k by omega, ← hb] at this
      exact this
    · have : ¬ (nd.toInt ≤ kI.toInt) := y_cif q
      omega
  | succ t ih =>
    intro h kI b k hr g1 g2 hk hkt hb hK
    have hnb := y_ndb hr g1
    have hik : (kI + Int32.ofInt 1).toInt = ((k + 1 : Nat) : Int) := by rw [y_inc (by omega), hk]; rfl
    obtain ⟨ek, kc⟩ := y_ofNat hk (by omega)
    have next : ∀ {H : aH} {x : Int32}, y_fr h H [] [] → x = cond (y_pS sa but k) (Int32.ofInt 1 <<< (Int32.ofNat k &&& 31)) (Int32.ofInt 0) → aOK s_P X d a_m191 4 [some (.ref 155), some (.int but), some (.int (b ||| x)), some (.int (kI + Int32.ofInt 1))] [] H C S K0 := by
      intro H x e hx
      refine ih H _ _ (k + 1) e.1 ((y_fe e rfl).trans g1) ((y_ae e rfl).trans g2) hik (by omega) ?_ (fun H' f => hK H' (y_sq e f rfl rfl))
      rw [hb, hx]
      rfl
    refine w_go z_hl [4] [] 40 hr ?_
    intro x hx _ _
    obtain rfl := y_fi g1 hx
    refine ⟨fun q => ?_, fun q => ⟨fun q2 => ?_, fun q2 => ?_⟩⟩
    · have : nd.toInt ≤ kI.toInt := (y_ci .ge _ _).mp q
      omega
    · have q3 : kI.toInt = but.toInt := (y_ci .eq _ _).mp q2
      intro H hH
      refine next (y_st (y_rf hr) hH (by repeat (first | exact w_nil | refine w_cons (Or.inl (y_m rfl)) ?_ | refine w_cons (Or.inr (by assumption)) ?_)) (by repeat (first | exact w_nil | refine w_cons (Or.inl (y_m rfl)) ?_ | refine w_cons (Or.inr (by assumption)) ?_))) ?_
      unfold y_pS
      rw [decide_eq_true (by omega)]
      rfl
    · have q3 : ¬ (kI.toInt = but.toInt) := y_cif q2
      refine ⟨⟨by omega, by omega⟩, fun l hl len bb => ?_⟩
      obtain rfl := y_ai g2 hl
      refine ⟨fun q4 => ?_, fun q4 => ?_⟩
      · have q5 : (sa.getD kI.toNatClampNeg 0).toInt ≠ (Int32.ofInt 1).toInt := (y_ci .ne _ _).mp q4
        intro H hH
        refine next (y_st (y_rf hr) hH (by repeat (first | exact w_nil | refine w_cons (Or.inl (y_m rfl)) ?_ | refine w_cons (Or.inr (by assumption)) ?_)) (by repeat (first | exact w_nil | refine w_cons (Or.inl (y_m rfl)) ?_ | refine w_cons (Or.inr (by assumption)) ?_))) ?_
        unfold y_pS
        rw [decide_eq_false (p := y_N sa k = 1) (fun e => q5 (by rw [kc]; exact e)), Bool.and_false]
        rfl
      · have q5 : ¬ ((sa.getD kI.toNatClampNeg 0).toInt ≠ (Int32.ofInt 1).toInt) := y_cif q4
        intro H hH
        refine next (y_st (y_rf hr) hH (by repeat (first | exact w_nil | refine w_cons (Or.inl (y_m rfl)) ?_ | refine w_cons (Or.inr (by assumption)) ?_)) (by repeat (first | exact w_nil | refine w_cons (Or.inl (y_m rfl)) ?_ | refine w_cons (Or.inr (by assumption)) ?_))) ?_
        unfold y_pS
        rw [decide_eq_true (p := y_N sa k = 1) (by rw [kc] at q5; exact Decidable.not_not.mp q5), decide_eq_false (by omega), ek]
        rfl
theorem y_seenNot_loop {but nd : Int32} {sa : List Int32} : ∀ (t : Nat) (h : aH) (kI b : Int32) (k : Nat), w_hr z_D h → w_f h 19591 = some (.int nd) → w_a h 160 = some (0, .inl sa) → kI.toInt = k → (k : Int) + t = nd.toInt → b = y_bits (y_pN sa but) k →
    (∀ (H : aH), y_fr h H [] [] → K0 (some (.int (y_bits (y_pN sa but) nd.toInt.toNat))) H C S) →
    aOK s_P X d a_m192 4 [some (.ref 155), some (.int but), some (.int b), some (.int kI)] [] h C S K0 := by
  intro t
  induction t with
  | zero =>
    intro h kI b k hr g1 g2 hk hkt hb hK
    refine w_go z_hl [4] [] 40 hr ?_
    intro x hx _ _
    obtain rfl := y_fi g1 hx
    refine ⟨fun q => ?_, fun q => ?_⟩
    · intro H hH
      have := hK H (y_st (y_rf hr) hH (by repeat (first | exact w_nil | refine w_cons (Or.inl (y_m rfl)) ?_ | refine w_cons (Or.inr (by assumption)) ?_)) (by repeat (first | exact w_nil | refine w_cons (Or.inl (y_m rfl)) ?_ | refine w_cons (Or.inr (by assumption)) ?_)))
      rw [show nd.toInt.toNat = k by omega, ← hb] at this
      exact this
    · have : ¬ (nd.toInt ≤ kI.toInt) := y_cif q
      omega
  | succ t ih =>
    intro h kI b k hr g1 g2 hk hkt hb hK
    have hnb := y_ndb hr g1
    have hik : (kI + Int32.ofInt 1).toInt = ((k + 1 : Nat) : Int) := by rw [y_inc (by omega), hk]; rfl
    obtain ⟨ek, kc⟩ := y_ofNat hk (by omega)
    have next : ∀ {H : aH} {x : Int32}, y_fr h H [] [] → x = cond (y_pN sa but k) (Int32.ofInt 1 <<< (Int32.ofNat k &&& 31)) (Int32.ofInt 0) → aOK s_P X d a_m192 4 [some (.ref 155), some (.int but), some (.int (b ||| x)), some (.int (kI + Int32.ofInt 1))] [] H C S K0 := by
      intro H x e hx
      refine ih H _ _ (k + 1) e.1 ((y_fe e rfl).trans g1) ((y_ae e rfl).trans g2) hik (by omega) ?_ (fun H' f => hK H' (y_sq e f rfl rfl))
      rw [hb, hx]
      rfl
    refine w_go z_hl [4] [] 40 hr ?_
    intro x hx _ _
    obtain rfl := y_fi g1 hx
    refine ⟨fun q => ?_, fun q => ⟨fun q2 => ?_, fun q2 => ?_⟩⟩
    · have : nd.toInt ≤ kI.toInt := (y_ci .ge _ _).mp q
      omega
    · have q3 : kI.toInt = but.toInt := (y_ci .eq _ _).mp q2
      intro H hH
      refine next (y_st (y_rf hr) hH (by repeat (first | exact w_nil | refine w_cons (Or.inl (y_m rfl)) ?_ | refine w_cons (Or.inr (by assumption)) ?_)) (by repeat (first | exact w_nil | refine w_cons (Or.inl (y_m rfl)) ?_ | refine w_cons (Or.inr (by assumption)) ?_))) ?_
      unfold y_pN
      rw [decide_eq_true (by omega)]
      rfl
    · have q3 : ¬ (kI.toInt = but.toInt) := y_cif q2
      refine ⟨⟨by omega, by omega⟩, fun l hl len bb => ?_⟩
      obtain rfl := y_ai g2 hl
      refine ⟨fun q4 => ?_, fun q4 => ?_⟩
      · have q5 : (sa.getD kI.toNatClampNeg 0).toInt ≠ (0 : Int32).toInt := (y_ci .ne _ _).mp q4
        intro H hH
        refine next (y_st (y_rf hr) hH (by repeat (first | exact w_nil | refine w_cons (Or.inl (y_m rfl)) ?_ | refine w_cons (Or.inr (by assumption)) ?_)) (by repeat (first | exact w_nil | refine w_cons (Or.inl (y_m rfl)) ?_ | refine w_cons (Or.inr (by assumption)) ?_))) ?_
        unfold y_pN
        rw [decide_eq_false (p := y_N sa k = 0) (fun e => q5 (by rw [kc]; exact e)), Bool.and_false]
        rfl
      · have q5 : ¬ ((sa.getD kI.toNatClampNeg 0).toInt ≠ (0 : Int32).toInt) := y_cif q4
        intro H hH
        refine next (y_st (y_rf hr) hH (by repeat (first | exact w_nil | refine w_cons (Or.inl (y_m rfl)) ?_ | refine w_cons (Or.inr (by assumption)) ?_)) (by repeat (first | exact w_nil | refine w_cons (Or.inl (y_m rfl)) ?_ | refine w_cons (Or.inr (by assumption)) ?_))) ?_
        unfold y_pN
        rw [decide_eq_true (p := y_N sa k = 0) (by rw [kc] at q5; exact Decidable.not_not.mp q5), decide_eq_false (by omega), ek]
        rfl
theorem y_seenSo {h : aH} {but nd : Int32} {sa : List Int32} (hr : w_hr z_D h) (g1 : w_f h 19591 = some (.int nd)) (g2 : w_a h 160 = some (0, .inl sa)) (hK : ∀ (H : aH), y_fr h H [] [] → K0 (some (.int (y_bits (y_pS sa but) nd.toInt.toNat))) H C S) : aOK s_P X d a_m191 0 [some (.ref 155), some (.int but), none, none] [] h C S K0 := by
  have hnb := y_ndb hr g1
  refine w_go z_hl [4] [] 40 hr ?_
  intro H hH
  have e : y_fr h H [] [] := y_st (y_rf hr) hH (by repeat (first | exact w_nil | refine w_cons (Or.inl (y_m rfl)) ?_ | refine w_cons (Or.inr (by assumption)) ?_)) (by repeat (first | exact w_nil | refine w_cons (Or.inl (y_m rfl)) ?_ | refine w_cons (Or.inr (by assumption)) ?_))
  exact y_seenSo_loop nd.toInt.toNat H _ _ 0 e.1 ((y_fe e rfl).trans g1) ((y_ae e rfl).trans g2) rfl (by omega) rfl (fun H' f => hK H' (y_sq e f rfl rfl))
theorem y_seenNot {h : aH} {but nd : Int32} {sa : List Int32} (hr : w_hr z_D h) (g1 : w_f h 19591 = some (.int nd)) (g2 : w_a h 160 = some (0, .inl sa)) (hK : ∀ (H : aH), y_fr h H [] [] → K0 (some (.int (y_bits (y_pN sa but) nd.toInt.toNat))) H C S) : aOK s_P X d a_m192 0 [some (.ref 155), some (.int but), none, none] [] h C S K0 := by
  have hnb := y_ndb hr g1
  refine w_go z_hl [4] [] 40 hr ?_
  intro H hH
  have e : y_fr h H [] [] := y_st (y_rf hr) hH (by repeat (first | exact w_nil | refine w_cons (Or.inl (y_m rfl)) ?_ | refine w_cons (Or.inr (by assumption)) ?_)) (by repeat (first | exact w_nil | refine w_cons (Or.inl (y_m rfl)) ?_ | refine w_cons (Or.inr (by assumption)) ?_))
  exact y_seenNot_loop nd.toInt.toNat H _ _ 0 e.1 ((y_fe e rfl).trans g1) ((y_ae e rfl).trans g2) rfl (by omega) rfl (fun H' f => hK H' (y_sq e f rfl rfl))
theorem y_nowWith {h : aH} {node but nd : Int32} {sa : List Int32} {wl : List Int64} {b : Bool} (hr : w_hr z_D h) (g1 : w_f h 19591 = some (.int nd)) (g2 : w_a h 160 = some (0, .inl sa)) (hw : y_wl h wl) (hK : ∀ (r : Int64) (H : aH), y_fr h H [] [] → r.toInt = y_nw sa nd wl node b but → K0 (some (.long r)) H C S) : aOK s_P X (d + 2) a_m190 0 [some (.ref 155), some (.int node), some (.int (y_01 b)), some (.int but), none] [] h C S K0 := by
  have fr : ∀ {H : aH} {hf : wF} {ha : wA}, w_rel z_D h hf ha H → hf = [] → ha = [] → y_fr h H [] [] := fun r e1 e2 => by
    subst e1 e2
    exact y_w0 r
  have B : ∀ {H : aH} {x y : Int32}, y_fr h H [] [] → x = cond b (y_bt node) (Int32.ofInt 0) → y = cond b (Int32.ofInt 0) (y_bt node) → aOK s_P X (d + 2) a_m190 46 [some (.ref 155), some (.int node), some (.int (y_01 b)), some (.int but), some (.int (y_bt node))] [.int (y_bits (y_pN sa but) nd.toInt.toNat ||| y), .int (y_bits (y_pS sa but) nd.toInt.toNat ||| x), .ref 155] H C S K0 := by
    intro H x y e hx hy
    subst hx hy
    refine w_go z_hl [] [193] 30 e.1 ?_
    intro H2 h2
    have e2 := y_st e h2 (by repeat (first | exact w_nil | refine w_cons (Or.inl (y_m rfl)) ?_ | refine w_cons (Or.inr (by assumption)) ?_)) (by repeat (first | exact w_nil | refine w_cons (Or.inl (y_m rfl)) ?_ | refine w_cons (Or.inr (by assumption)) ?_))
    refine y_weighs e2.1 ((y_fe e2 rfl).trans g1) (y_wl_fr e2 (fun q => by cases q) hw) (fun r H3 f3 hr3 => ⟨fun n e => (by cases e), ?_⟩)
    have e3 := y_sq e2 f3 rfl rfl
    refine w_go z_hl [] [193] 30 e3.1 ?_
    intro H4 h4
    exact hK r H4 (y_st e3 h4 (by repeat (first | exact w_nil | refine w_cons (Or.inl (y_m rfl)) ?_ | refine w_cons (Or.inr (by assumption)) ?_)) (by repeat (first | exact w_nil | refine w_cons (Or.inl (y_m rfl)) ?_ | refine w_cons (Or.inr (by assumption)) ?_))) hr3
  have A : ∀ {H : aH}, y_fr h H [] [] → aOK s_P X (d + 2) a_m190 13 [some (.ref 155), some (.int node), some (.int (y_01 b)), some (.int but), some (.int (y_bt node))] [] H C S K0 := by
    intro H e
    refine w_go z_hl [] [191, 192] 30 e.1 ?_
    intro H2 h2
    have e2 := y_st e h2 (by repeat (first | exact w_nil | refine w_cons (Or.inl (y_m rfl)) ?_ | refine w_cons (Or.inr (by assumption)) ?_)) (by repeat (first | exact w_nil | refine w_cons (Or.inl (y_m rfl)) ?_ | refine w_cons (Or.inr (by assumption)) ?_))
    refine y_seenSo e2.1 ((y_fe e2 rfl).trans g1) ((y_ae e2 rfl).trans g2) (fun H3 f3 => ⟨fun n e => (by cases e), ?_⟩)
    have e3 := y_sq e2 f3 rfl rfl
    refine w_go z_hl [] [191, 192] 30 e3.1 ?_
    refine ⟨fun q => ?_, fun q => ?_⟩
    · intro H4 h4
      have e4 := y_st e3 h4 (by repeat (first | exact w_nil | refine w_cons (Or.inl (y_m rfl)) ?_ | refine w_cons (Or.inr (by assumption)) ?_)) (by repeat (first | exact w_nil | refine w_cons (Or.inl (y_m rfl)) ?_ | refine w_cons (Or.inr (by assumption)) ?_))
      refine y_seenNot e4.1 ((y_fe e4 rfl).trans g1) ((y_ae e4 rfl).trans g2) (fun H5 f5 => ⟨fun n e => (by cases e), ?_⟩)
      have e5 := y_sq e4 f5 rfl rfl
      refine w_go z_hl [46] [191, 192] 30 e5.1 ?_
      refine ⟨fun q2 => ?_, fun q2 => ?_⟩
      · intro H6 h6
        cases b with
        | true => exact absurd q (by decide)
        | false => exact B (y_st e5 h6 (by repeat (first | exact w_nil | refine w_cons (Or.inl (y_m rfl)) ?_ | refine w_cons (Or.inr (by assumption)) ?_)) (by repeat (first | exact w_nil | refine w_cons (Or.inl (y_m rfl)) ?_ | refine w_cons (Or.inr (by assumption)) ?_))) rfl rfl
      · cases b with
        | true => exact absurd q (by decide)
        | false => exact absurd q2 (by decide)
    · intro H4 h4
      have e4 := y_st e3 h4 (by repeat (first | exact w_nil | refine w_cons (Or.inl (y_m rfl)) ?_ | refine w_cons (Or.inr (by assumption)) ?_)) (by repeat (first | exact w_nil | refine w_cons (Or.inl (y_m rfl)) ?_ | refine w_cons (Or.inr (by assumption)) ?_))
      refine y_seenNot e4.1 ((y_fe e4 rfl).trans g1) ((y_ae e4 rfl).trans g2) (fun H5 f5 => ⟨fun n e => (by cases e), ?_⟩)
      have e5 := y_sq e4 f5 rfl rfl
      refine w_go z_hl [46] [191, 192] 30 e5.1 ?_
      refine ⟨fun q2 => ?_, fun q2 => ?_⟩
      · cases b with
        | false => exact absurd q (by decide)
        | true => exact absurd q2 (by decide)
      · intro H6 h6
        cases b with
        | true => exact B (y_st e5 h6 (by repeat (first | exact w_nil | refine w_cons (Or.inl (y_m rfl)) ?_ | refine w_cons (Or.inr (by assumption)) ?_)) (by repeat (first | exact w_nil | refine w_cons (Or.inl (y_m rfl)) ?_ | refine w_cons (Or.inr (by assumption)) ?_))) rfl rfl
        | false => exact absurd q (by decide)
  refine w_go z_hl [13] [] 30 hr ?_
  refine ⟨fun q => ?_, fun q => ?_⟩
  · have q2 : (0 : Int32).toInt ≤ node.toInt := (y_ci .ge _ _).mp q
    intro H hH
    have := A (y_st (y_rf hr) hH (by repeat (first | exact w_nil | refine w_cons (Or.inl (y_m rfl)) ?_ | refine w_cons (Or.inr (by assumption)) ?_)) (by repeat (first | exact w_nil | refine w_cons (Or.inl (y_m rfl)) ?_ | refine w_cons (Or.inr (by assumption)) ?_)))
    unfold y_bt at this
    rw [if_neg (by rw [show (0 : Int32).toInt = 0 by decide] at q2; omega)] at this
    exact this
  · have q2 : ¬ ((0 : Int32).toInt ≤ node.toInt) := y_cif q
    intro H hH
    have := A (y_st (y_rf hr) hH (by repeat (first | exact w_nil | refine w_cons (Or.inl (y_m rfl)) ?_ | refine w_cons (Or.inr (by assumption)) ?_)) (by repeat (first | exact w_nil | refine w_cons (Or.inl (y_m rfl)) ?_ | refine w_cons (Or.inr (by assumption)) ?_)))
    unfold y_bt at this
    rw [if_pos (by rw [show (0 : Int32).toInt = 0 by decide] at q2; omega)] at this
    exact this
theorem y_now {h : aH} {nd : Int32} {sa : List Int32} {wl : List Int64} (hr : w_hr z_D h) (g1 : w_f h 19591 = some (.int nd)) (g2 : w_a h 160 = some (0, .inl sa)) (hw : y_wl h wl) (hK : ∀ (r : Int64) (H : aH), y_fr h H [] [] → r.toInt = y_nw sa nd wl (Int32.ofInt (-1)) true (Int32.ofInt (-1)) → K0 (some (.long r)) H C S) : aOK s_P X (d + 3) a_m189 0 [some (.ref 155)] [] h C S K0 := by
  refine w_go z_hl [] [190] 30 hr ?_
  intro H hH
  have e : y_fr h H [] [] := y_st (y_rf hr) hH (by repeat (first | exact w_nil | refine w_cons (Or.inl (y_m rfl)) ?_ | refine w_cons (Or.inr (by assumption)) ?_)) (by repeat (first | exact w_nil | refine w_cons (Or.inl (y_m rfl)) ?_ | refine w_cons (Or.inr (by assumption)) ?_))
  refine y_nowWith (b := true) e.1 ((y_fe e rfl).trans g1) ((y_ae e rfl).trans g2) (y_wl_fr e (fun q => by cases q) hw) (fun r H2 f2 hr2 => ⟨fun n e => (by cases e), ?_⟩)
  have e2 := y_sq e f2 rfl rfl
  refine w_go z_hl [] [190] 30 e2.1 ?_
  intro H4 h4
  exact hK r H4 (y_st e2 h4 (by repeat (first | exact w_nil | refine w_cons (Or.inl (y_m rfl)) ?_ | refine w_cons (Or.inr (by assumption)) ?_)) (by repeat (first | exact w_nil | refine w_cons (Or.inl (y_m rfl)) ?_ | refine w_cons (Or.inr (by assumption)) ?_))) hr2
end WG
