/-! ===== v3: the reference's see ===== -/
def y_fg (v : Int) (so0 A : Nat → Int) (n k : Nat) : Prop := n ≤ k ∧ (∀ j, k ≤ j → A j = so0 j) ∧ (∀ a, a < n → ∃ i, i < k ∧ A a = so0 i ∧ so0 i ≠ v) ∧ (∀ i, i < k → so0 i ≠ v → ∃ a, a < n ∧ A a = so0 i) ∧ ∀ a b, a < n → b < n → A a = A b → a = b
theorem y_fg_skip {v : Int} {so0 A : Nat → Int} {n k : Nat} (h : y_fg v so0 A n k) (e : so0 k = v) : y_fg v so0 A n (k + 1) := by
  obtain ⟨h1, h2, h3, h4, h5⟩ := h
  refine ⟨by omega, fun j hj => h2 j (by omega), fun a ha => ?_, fun i hi hne => ?_, h5⟩
  · obtain ⟨i, i1, i2, i3⟩ := h3 a ha
    exact ⟨i, by omega, i2, i3⟩
  · by_cases q : i = k
    · subst q
      exact absurd e hne
    · exact h4 i (by omega) hne
theorem y_fg_take {v : Int} {so0 A B : Nat → Int} {n k m : Nat} (h : y_fg v so0 A n k) (hk : k < m) (hi : ∀ i j, i < m → j < m → so0 i = so0 j → i = j) (e : so0 k ≠ v) (hB : ∀ j, B j = if j = n then so0 k else A j) : y_fg v so0 B (n + 1) (k + 1) := by
  obtain ⟨h1, h2, h3, h4, h5⟩ := h
  have old : ∀ a, a < n → B a = A a := fun a ha => by rw [hB, if_neg (by omega)]
  have new : B n = so0 k := by rw [hB, if_pos rfl]
  have fresh : ∀ a, a < n → A a ≠ so0 k := fun a ha q => by
    obtain ⟨i, i1, i2, i3⟩ := h3 a ha
    have := hi i k (by omega) hk (i2.symm.trans q)
    omega
  refine ⟨by omega, fun j hj => ?_, fun a ha => ?_, fun i hi' hne => ?_, fun a b ha hb q => ?_⟩
  · rw [hB, if_neg (by omega)]
    exact h2 j (by omega)
  · by_cases q : a = n
    · subst q
      exact ⟨k, by omega, new, e⟩
    · obtain ⟨i, i1, i2, i3⟩ := h3 a (by omega)
      exact ⟨i, by omega, (old a (by omega)).trans i2, i3⟩
  · by_cases q : i = k
    · subst q
      exact ⟨n, by omega, new⟩
    · obtain ⟨a, a1, a2⟩ := h4 i (by omega) hne
      exact ⟨a, by omega, (old a a1).trans a2⟩
  · by_cases qa : a = n
    · by_cases qb : b = n
      · omega
      · subst qa
        rw [new, old b (by omega)] at q
        exact absurd q.symm (fresh b (by omega))
    · by_cases qb : b = n
      · subst qb
        rw [new, old a (by omega)] at q
        exact absurd q (fresh a (by omega))
      · rw [old a (by omega), old b (by omega)] at q
        exact h5 a b (by omega) (by omega) q
/-- what is seen, behind forgetting -/
theorem y_ord_fg {n m p v : Nat} {so0 sa A sb : Nat → Int} (h : y_ord n m so0 sa) (hf : y_fg v so0 A p m) (hb : ∀ j, sb j = if j = v then -1 else sa j) : y_ord n p A sb := by
  obtain ⟨t1, t2, t3, t4⟩ := h
  obtain ⟨h1, h2, h3, h4, h5⟩ := hf
  refine ⟨by omega, fun k hk => ?_, h5, fun u hu hs => ?_⟩
  · obtain ⟨i, i1, i2, i3⟩ := h3 k hk
    obtain ⟨u1, u2, u3⟩ := t2 i i1
    rw [i2]
    refine ⟨u1, u2, ?_⟩
    rw [hb, if_neg (by omega)]
    exact u3
  · rw [hb] at hs
    split at hs
    · omega
    · rename_i q
      obtain ⟨k, k1, k2⟩ := t4 u hu hs
      obtain ⟨a, a1, a2⟩ := h4 k k1 (by omega)
      exact ⟨a, a1, a2.trans k2⟩
theorem y_ord_add {n m v : Nat} {so sa so' sa' : Nat → Int} {x : Int} (h : y_ord n m so sa) (hv : v < n) (hs : sa v < 0) (hx : 0 ≤ x) (h1 : ∀ j, so' j = if j = m then (v : Int) else so j) (h2 : ∀ j, sa' j = if j = v then x else sa j) : y_ord n (m + 1) so' sa' := by
  have hlt := y_ord_lt h hv hs
  obtain ⟨t1, t2, t3, t4⟩ := h
  have ev : ((v : Nat) : Int).toNat = v := by omega
  have nv : ∀ k, k < m → so k ≠ v := fun k hk e => by
    have := (t2 k hk).2.2
    rw [e, ev] at this
    omega
  refine ⟨by omega, fun k hk => ?_, fun i j hi hj e => ?_, fun u hu hs' => ?_⟩
  · rw [h1]
    split
    · rw [ev, h2, if_pos rfl]
      omega
    · have b := t2 k (by omega)
      refine ⟨b.1, b.2.1, ?_⟩
      rw [h2]
      split
      · exact hx
      · exact b.2.2
  · rw [h1, h1] at e
    split at e
    · split at e
      · omega
      · exact absurd e.symm (nv j (by omega))
    · split at e
      · exact absurd e (nv i (by omega))
      · exact t3 i j (by omega) (by omega) e
  · by_cases q : u = v
    · subst q
      exact ⟨m, by omega, by rw [h1, if_pos rfl]⟩
    · rw [h2, if_neg q] at hs'
      obtain ⟨k, k1, k2⟩ := t4 u hu hs'
      exact ⟨k, by omega, by rw [h1, if_neg (by omega)]; exact k2⟩
theorem y_ord_re {n m v : Nat} {so sa sa' : Nat → Int} {x : Int} (h : y_ord n m so sa) (hs : 0 ≤ sa v) (hx : 0 ≤ x) (h2 : ∀ j, sa' j = if j = v then x else sa j) : y_ord n m so sa' := by
  obtain ⟨t1, t2, t3, t4⟩ := h
  refine ⟨t1, fun k hk => ?_, t3, fun u hu hs' => ?_⟩
  · have b := t2 k hk
    refine ⟨b.1, b.2.1, ?_⟩
    rw [h2]
    split
    · exact hx
    · exact b.2.2
  · rw [h2] at hs'
    split at hs'
    · rename_i q
      subst q
      exact t4 u hu hs
    · exact t4 u hu hs'
section WG
variable {X : aX} {C S d : Nat} {K0 : Option Value → aH → Nat → Nat → Prop}
theorem y_forgets_loop {node sm : Int32} {vv m : Nat} {so0 : Nat → Int} {sa : List Int32} (hv : node.toInt = vv) (hv2 : vv < 10) (hm : sm.toInt = m) (hm2 : m ≤ 10) (hi : ∀ i j, i < m → j < m → so0 i = so0 j → i = j) : ∀ (t : Nat) (h : aH) (nI kI : Int32) (n k : Nat) (so : List Int32), w_hr z_D h → w_f h 19598 = some (.int sm) → w_a h 162 = some (0, .inl so) → w_a h 160 = some (0, .inl sa) → nI.toInt = n → kI.toInt = k → k + t = m → y_fg vv so0 (y_N so) n k →
    (∀ (nI' : Int32) (n' : Nat) (so' : List Int32) (H : aH), y_fr h H [19598] [160, 162] → w_f H 19598 = some (.int nI') → nI'.toInt = n' → w_a H 162 = some (0, .inl so') → w_a H 160 = some (0, .inl (sa.set vv (Int32.ofInt (-1)))) → y_fg vv so0 (y_N so') n' m → K0 none H C S) →
    aOK s_P X d a_m182 4 [some (.ref 155), some (.int node), some (.int nI), some (.int kI)] [] h C S K0 := by
  intro t
  induction t with
  | zero =>
    intro h nI kI n k so hr g1 g2 g3 hn hk hkm hfg hK
    have hvc := (y_ofNat hv (by omega)).2
    have hnk := hfg.1
    refine w_go z_hl [4] [] 40 hr ?_
    intro x hx b1 b2
    obtain rfl := y_fi g1 hx
    refine ⟨fun q => ?_, fun q => ?_⟩
    · refine ⟨rfl, y_zini (by show 0 ≤ nI.toInt; omega) (by show nI.toInt ≤ 10; omega), ?_⟩
      refine ⟨⟨by omega, by omega⟩, by decide, fun l hl hlen hbb => ?_⟩
      obtain rfl := y_ai g3 hl
      intro H hH
      have e : y_fr h H [19598] [160, 162] := y_st (y_mo (y_rf hr) rfl rfl) hH (by repeat (first | exact w_nil | refine w_cons (Or.inl (y_m rfl)) ?_ | refine w_cons (Or.inr (by assumption)) ?_)) (by repeat (first | exact w_nil | refine w_cons (Or.inl (y_m rfl)) ?_ | refine w_cons (Or.inr (by assumption)) ?_))
      have A := hH.2.2.1 160 _ rfl
      rw [hvc] at A
      have e2 : k = m := by omega
      subst e2
      refine hK nI n so H e (hH.2.1 19598 _ rfl) hn ?_ A hfg
      exact (hH.2.2.2.2 162 rfl).trans g2
    · have : ¬ (sm.toInt ≤ kI.toInt) := y_cif q
      omega
  | succ t ih =>
    intro h nI kI n k so hr g1 g2 g3 hn hk hkm hfg hK
    have hnk := hfg.1
    have hkc := (y_ofNat hk (by omega)).2
    have hnc := (y_ofNat hn (by omega)).2
    have hik : (kI + Int32.ofInt 1).toInt = ((k + 1 : Nat) : Int) := by rw [y_inc (by omega), hk]; rfl
    have hin : (nI + Int32.ofInt 1).toInt = ((n + 1 : Nat) : Int) := by rw [y_inc (by omega), hn]; rfl
    refine w_go z_hl [4] [] 40 hr ?_
    intro x hx b1 b2
    obtain rfl := y_fi g1 hx
    refine ⟨fun q => ?_, fun q => ?_⟩
    · have : sm.toInt ≤ kI.toInt := (y_ci .ge _ _).mp q
      omega
    · refine ⟨⟨by omega, by omega⟩, fun l hl hlen hbb => ?_⟩
      obtain rfl := y_ai g2 hl
      have hel : (so.getD kI.toNatClampNeg 0).toInt = so0 k := by
        rw [hkc]
        exact hfg.2.1 k (Nat.le_refl k)
      have hmem := hbb _ (z_gd (0 : Int32) (show kI.toNatClampNeg < so.length by omega))
      refine ⟨fun q2 => ?_, fun q2 => ?_⟩
      · have q3 : (so.getD kI.toNatClampNeg 0).toInt = node.toInt := (y_ci .eq _ _).mp q2
        intro H hH
        have e : y_fr h H [] [] := y_st (y_rf hr) hH (by repeat (first | exact w_nil | refine w_cons (Or.inl (y_m rfl)) ?_ | refine w_cons (Or.inr (by assumption)) ?_)) (by repeat (first | exact w_nil | refine w_cons (Or.inl (y_m rfl)) ?_ | refine w_cons (Or.inr (by assumption)) ?_))
        refine ih H nI _ n (k + 1) so e.1 ((y_fe e rfl).trans g1) ((y_ae e rfl).trans g2) ((y_ae e rfl).trans g3) hn hik (by omega) (y_fg_skip hfg (by omega)) (fun nI' n' so' H' f1 f2 f3 f4 f5 f6 => hK nI' n' so' H' (y_sq (y_mo e rfl rfl) f1 rfl rfl) f2 f3 f4 f5 f6)
      · have q3 : ¬ ((so.getD kI.toNatClampNeg 0).toInt = node.toInt) := y_cif q2
        refine ⟨⟨by omega, by omega⟩, ⟨by omega, by omega⟩, ⟨by omega, by omega⟩, ?_⟩
        intro H hH
        have e : y_fr h H [19598] [160, 162] := y_st (y_mo (y_rf hr) rfl rfl) hH (by repeat (first | exact w_nil | refine w_cons (Or.inl (y_m rfl)) ?_ | refine w_cons (Or.inr (by assumption)) ?_)) (by repeat (first | exact w_nil | refine w_cons (Or.inl (y_m rfl)) ?_ | refine w_cons (Or.inr (by assumption)) ?_))
        have e2 : y_fr h H [] [162] := y_st (y_mo (y_rf hr) rfl rfl) hH (by repeat (first | exact w_nil | refine w_cons (Or.inl (y_m rfl)) ?_ | refine w_cons (Or.inr (by assumption)) ?_)) (by repeat (first | exact w_nil | refine w_cons (Or.inl (y_m rfl)) ?_ | refine w_cons (Or.inr (by assumption)) ?_))
        have A := hH.2.2.1 162 _ rfl
        refine ih H _ _ (n + 1) (k + 1) _ e.1 ((y_fe e2 rfl).trans g1) A ((y_ae e2 rfl).trans g3) hin hik (by omega) (y_fg_take hfg (show k < m by omega) hi (by omega) (fun j => ?_)) (fun nI' n' so' H' f1 f2 f3 f4 f5 f6 => hK nI' n' so' H' (y_sq e f1 rfl rfl) f2 f3 f4 f5 f6)
        rw [y_Nset (by omega), hnc]
        split
        · exact hel
        · rfl
theorem y_forgets {node sm : Int32} {vv m : Nat} {so sa : List Int32} {h : aH} (hr : w_hr z_D h) (hv : node.toInt = vv) (hv2 : vv < 10) (hm : sm.toInt = m) (hm2 : m ≤ 10) (hi : ∀ i j, i < m → j < m → y_N so i = y_N so j → i = j) (g1 : w_f h 19598 = some (.int sm)) (g2 : w_a h 162 = some (0, .inl so)) (g3 : w_a h 160 = some (0, .inl sa)) (hK : ∀ (nI' : Int32) (n' : Nat) (so' : List Int32) (H : aH), y_fr h H [19598] [160, 162] → w_f H 19598 = some (.int nI') → nI'.toInt = n' → w_a H 162 = some (0, .inl so') → w_a H 160 = some (0, .inl (sa.set vv (Int32.ofInt (-1)))) → y_fg vv (y_N so) (y_N so') n' m → K0 none H C S) : aOK s_P X d a_m182 0 [some (.ref 155), some (.int node), none, none] [] h C S K0 := by
  refine w_go z_hl [4] [] 40 hr ?_
  intro H hH
  have e : y_fr h H [] [] := y_st (y_rf hr) hH (by repeat (first | exact w_nil | refine w_cons (Or.inl (y_m rfl)) ?_ | refine w_cons (Or.inr (by assumption)) ?_)) (by repeat (first | exact w_nil | refine w_cons (Or.inl (y_m rfl)) ?_ | refine w_cons (Or.inr (by assumption)) ?_))
  refine y_forgets_loop hv hv2 hm hm2 hi m H _ _ 0 0 so e.1 ((y_fe e rfl).trans g1) ((y_ae e rfl).trans g2) ((y_ae e rfl).trans g3) rfl rfl (by omega) ⟨by omega, fun _ _ => rfl, fun a ha => absurd ha (by omega), fun i hi' => absurd hi' (by omega), fun a b ha => absurd ha (by omega)⟩ (fun nI' n' so' H' f1 f2 f3 f4 f5 f6 => hK nI' n' so' H' (y_sq (y_mo e rfl rfl) f1 rfl rfl) f2 f3 f4 f5 f6)
theorem p_see {h : aH} (hr : w_hr z_D h) (hJ : y_J h) {node st : Int32} (hk : ∀ (r : Int32) (H : aH), y_fr h H [19584, 19598] [160, 162] → y_J H → 0 ≤ r.toInt ∧ r.toInt ≤ 1 → K0 (some (.int r)) H C S) : aOK s_P X (d + 2) a_m181 0 [some (.ref 155), some (.int node), some (.int st)] [] h C S K0 := by
  obtain ⟨q1, q2, q3, q4, q5, q6, q7⟩ := hJ
  obtain ⟨nd, sm, so, sa, s1, s2, s3, s4, s5⟩ := q5
  obtain ⟨b1, b2⟩ := y_ndb hr s1
  refine w_go z_hl [] [178, 176, 182] 30 hr ?_
  refine ⟨rfl, y_zini (by decide) (by decide), fun H1 h1 => ?_⟩
  have e1 : y_fr h H1 [19584] [] := y_st (y_mo (y_rf hr) rfl rfl) h1 (by repeat (first | exact w_nil | refine w_cons (Or.inl (y_m rfl)) ?_ | refine w_cons (Or.inr (by assumption)) ?_)) (by repeat (first | exact w_nil | refine w_cons (Or.inl (y_m rfl)) ?_ | refine w_cons (Or.inr (by assumption)) ?_))
  have out : ∀ {G : aH}, y_fr h G [19584] [] → K0 (some (.int (Int32.ofInt 0))) G C S := fun g => hk _ _ (y_mo g rfl rfl) (y_J_fr g rfl rfl ⟨q1, q2, q3, q4, ⟨nd, sm, so, sa, s1, s2, s3, s4, s5⟩, q6, q7⟩) (by decide)
  refine q_isNode (v := node) e1.1 ((y_fe e1 rfl).trans s1) (fun H2 vv h2 hv hv2 hvc => ⟨fun n e => (by cases e), ?_⟩) (fun H2 h2 => ⟨fun n e => (by cases e), ?_⟩)
  · have e2 := y_sq e1 h2 rfl rfl
    refine w_go z_hl [] [178, 176, 182] 30 h2.1 ?_
    refine ⟨fun q => absurd q (by decide), fun _ => ?_⟩
    intro H3 h3
    have e3 := y_st e2 h3 (by repeat (first | exact w_nil | refine w_cons (Or.inl (y_m rfl)) ?_ | refine w_cons (Or.inr (by assumption)) ?_)) (by repeat (first | exact w_nil | refine w_cons (Or.inl (y_m rfl)) ?_ | refine w_cons (Or.inr (by assumption)) ?_))
    refine q_in e3.1 (fun H4 h4 l1 l2 => ⟨fun n e => (by cases e), ?_⟩) (fun H4 h4 _ => ⟨fun n e => (by cases e), ?_⟩)
    · have l1 : -1 ≤ st.toInt := by rw [y_i2l] at l1; exact l1
      have l2 : st.toInt ≤ 1 := by rw [y_i2l] at l2; exact l2
      have e4 := y_sq e3 h4 rfl rfl
      refine w_go z_hl [] [178, 176, 182] 40 e4.1 ?_
      refine ⟨fun _ => ?_, fun q => absurd q (by decide)⟩
      refine ⟨fun q => ?_, fun q => ?_⟩
      · have hst : 0 ≤ st.toInt := (y_ci .ge _ _).mp q
        refine ⟨⟨by omega, by omega⟩, fun l hl hlen hbb => ?_⟩
        obtain rfl := y_ai ((y_ae e4 rfl).trans s4) hl
        have hsn : (sa.getD node.toNatClampNeg 0).toInt = y_N sa vv := by rw [hvc]; rfl
        refine ⟨fun q => ?_, fun q => ?_⟩
        · have hs0 : 0 ≤ (sa.getD node.toNatClampNeg 0).toInt := (y_ci .ge _ _).mp q
          refine ⟨⟨by omega, by omega⟩, ⟨by omega, by omega⟩, ?_⟩
          refine ⟨by decide, fun H5 h5 => ?_⟩
          have e5 : y_fr h H5 [19584] [160] := y_st (y_mo e4 rfl rfl) h5 (by repeat (first | exact w_nil | refine w_cons (Or.inl (y_m rfl)) ?_ | refine w_cons (Or.inr (by assumption)) ?_)) (by repeat (first | exact w_nil | refine w_cons (Or.inl (y_m rfl)) ?_ | refine w_cons (Or.inr (by assumption)) ?_))
          have A := h5.2.2.1 160 _ rfl
          refine hk _ _ (y_mo e5 rfl rfl) ⟨j_net_e (y_fe e5 rfl) (y_ae e5 rfl) (y_ae e5 rfl) (y_ae e5 rfl) q1, j_dp_e (y_fe e5 rfl) (y_fe e5 rfl) (y_ae e5 rfl) q2, j_old_e (y_ae e5 rfl) (y_ae e5 rfl) (y_ae e5 rfl) (y_ae e5 rfl) (y_ae e5 rfl) (y_ae e5 rfl) q3, j_w_e (y_fe e5 rfl) (y_ae e5 rfl) q4, ⟨nd, sm, so, _, (y_fe e5 rfl).trans s1, (y_fe e5 rfl).trans s2, (y_ae e5 rfl).trans s3, A, y_ord_re (v := vv) (x := st.toInt) s5 (by omega) hst (fun j => ?_)⟩, j_kept_e (y_fe e5 rfl) (y_ae e5 rfl) (y_ae e5 rfl) (y_ae e5 rfl) (y_ae e5 rfl) q6, j_land_e (y_fe e5 rfl) (y_ae e5 rfl) q7⟩ (by decide)
          rw [hvc, y_Nset (by omega)]
        · have hs0 : ¬ (0 ≤ (sa.getD node.toNatClampNeg 0).toInt) := y_cif q
          have hlt := y_ord_lt s5 (show vv < nd.toInt.toNat by omega) (show y_N sa vv < 0 by omega)
          intro x hx c1 c2
          obtain rfl := y_fi ((y_fe e4 rfl).trans s2) hx
          have hinc : (sm + Int32.ofInt 1).toInt = sm.toInt + 1 := y_inc (by omega)
          refine ⟨⟨by omega, by omega⟩, ⟨by omega, by omega⟩, fun l2 hl2 hlen2 hbb2 => ?_⟩
          obtain rfl := y_ai ((y_ae e4 rfl).trans s3) hl2
          refine ⟨rfl, y_zini (by show 0 ≤ (sm + Int32.ofInt 1).toInt; omega) (by show (sm + Int32.ofInt 1).toInt ≤ 10; omega), ?_⟩
          refine ⟨⟨by omega, by omega⟩, ⟨by omega, by omega⟩, ?_⟩
          refine ⟨by decide, fun H5 h5 => ?_⟩
          have e5 : y_fr h H5 [19584, 19598] [160, 162] := y_st (y_mo e4 rfl rfl) h5 (by repeat (first | exact w_nil | refine w_cons (Or.inl (y_m rfl)) ?_ | refine w_cons (Or.inr (by assumption)) ?_)) (by repeat (first | exact w_nil | refine w_cons (Or.inl (y_m rfl)) ?_ | refine w_cons (Or.inr (by assumption)) ?_))
          have A := h5.2.2.1 160 _ rfl
          have B := h5.2.2.1 162 _ rfl
          have F := h5.2.1 19598 _ rfl
          refine hk _ _ (y_mo e5 rfl rfl) ⟨j_net_e (y_fe e5 rfl) (y_ae e5 rfl) (y_ae e5 rfl) (y_ae e5 rfl) q1, j_dp_e (y_fe e5 rfl) (y_fe e5 rfl) (y_ae e5 rfl) q2, j_old_e (y_ae e5 rfl) (y_ae e5 rfl) (y_ae e5 rfl) (y_ae e5 rfl) (y_ae e5 rfl) (y_ae e5 rfl) q3, j_w_e (y_fe e5 rfl) (y_ae e5 rfl) q4, ⟨nd, _, _, _, (y_fe e5 rfl).trans s1, F, B, A, ?_⟩, j_kept_e (y_fe e5 rfl) (y_ae e5 rfl) (y_ae e5 rfl) (y_ae e5 rfl) (y_ae e5 rfl) q6, j_land_e (y_fe e5 rfl) (y_ae e5 rfl) q7⟩ (by decide)
          have em : (sm + Int32.ofInt 1).toInt.toNat = sm.toInt.toNat + 1 := by omega
          rw [em]
          refine y_ord_add (v := vv) (x := st.toInt) s5 (by omega) (by omega) hst (fun j => ?_) (fun j => ?_)
          · rw [y_Nset (show sm.toNatClampNeg < so.length by show sm.toInt.toNat < _; omega), hv]
            rfl
          · rw [hvc, y_Nset (by omega)]
      · intro H5 h5
        have e5 := y_st e4 h5 (by repeat (first | exact w_nil | refine w_cons (Or.inl (y_m rfl)) ?_ | refine w_cons (Or.inr (by assumption)) ?_)) (by repeat (first | exact w_nil | refine w_cons (Or.inl (y_m rfl)) ?_ | refine w_cons (Or.inr (by assumption)) ?_))
        have smb := y_smb hr s2
        refine y_forgets (m := sm.toInt.toNat) e5.1 hv (by omega) (by have := (y_smb hr s2).1; omega) (by have := s5.1; omega) s5.2.2.1 ((y_fe e5 rfl).trans s2) ((y_ae e5 rfl).trans s3) ((y_ae e5 rfl).trans s4) (fun nI' n' so' H6 f1 f2 f3 f4 f5 f6 => ⟨fun n e => (by cases e), ?_⟩)
        have e6 : y_fr h H6 [19584, 19598] [160, 162] := y_sq (y_mo e5 rfl rfl) f1 rfl rfl
        refine w_go z_hl [] [178, 176, 182] 30 e6.1 ?_
        refine ⟨by decide, fun H7 h7 => ?_⟩
        have g7 : y_fr H6 H7 [] [] := y_st (y_rf f1.1) h7 (by repeat (first | exact w_nil | refine w_cons (Or.inl (y_m rfl)) ?_ | refine w_cons (Or.inr (by assumption)) ?_)) (by repeat (first | exact w_nil | refine w_cons (Or.inl (y_m rfl)) ?_ | refine w_cons (Or.inr (by assumption)) ?_))
        have e7 := y_sq e6 g7 rfl rfl
        have hsal : vv < sa.length := by
          obtain ⟨l, z1, z2, z3⟩ := w_arrI hr (o := 160) (t := 0) (n := 10) (lo := -1) (hi := 1) (by decide) rfl
          obtain rfl := y_ai s4 (w_a_at z1)
          omega
        refine hk _ _ e7 ⟨j_net_e (y_fe e7 rfl) (y_ae e7 rfl) (y_ae e7 rfl) (y_ae e7 rfl) q1, j_dp_e (y_fe e7 rfl) (y_fe e7 rfl) (y_ae e7 rfl) q2, j_old_e (y_ae e7 rfl) (y_ae e7 rfl) (y_ae e7 rfl) (y_ae e7 rfl) (y_ae e7 rfl) (y_ae e7 rfl) q3, j_w_e (y_fe e7 rfl) (y_ae e7 rfl) q4, ⟨nd, nI', so', _, (y_fe e7 rfl).trans s1, (y_fe g7 rfl).trans f2, (y_ae g7 rfl).trans f4, (y_ae g7 rfl).trans f5, ?_⟩, j_kept_e (y_fe e7 rfl) (y_ae e7 rfl) (y_ae e7 rfl) (y_ae e7 rfl) (y_ae e7 rfl) q6, j_land_e (y_fe e7 rfl) (y_ae e7 rfl) q7⟩ (by decide)
        rw [show nI'.toInt.toNat = n' by omega]
        refine y_ord_fg s5 f6 (fun j => ?_)
        rw [y_Nset hsal]
        rfl
    · refine w_go z_hl [] [178, 176, 182] 30 h4.1 ?_
      refine ⟨fun q => absurd q (by decide), fun _ => ⟨by decide, fun H5 h5 => ?_⟩⟩
      exact out (y_st (y_sq e3 h4 rfl rfl) h5 (by repeat (first | exact w_nil | refine w_cons (Or.inl (y_m rfl)) ?_ | refine w_cons (Or.inr (by assumption)) ?_)) (by repeat (first | exact w_nil | refine w_cons (Or.inl (y_m rfl)) ?_ | refine w_cons (Or.inr (by assumption)) ?_)))
  · refine w_go z_hl [] [178, 176, 182] 30 h2.1 ?_
    refine ⟨fun _ => ⟨by decide, fun H3 h3 => ?_⟩, fun q => absurd q (by decide)⟩
    exact out (y_st (y_sq e1 h2 rfl rfl) h3 (by repeat (first | exact w_nil | refine w_cons (Or.inl (y_m rfl)) ?_ | refine w_cons (Or.inr (by assumption)) ?_)) (by repeat (first | exact w_nil | refine w_cons (Or.inl (y_m rfl)) ?_ | refine w_cons (Or.inr (by assumption)) ?_)))
end WG
