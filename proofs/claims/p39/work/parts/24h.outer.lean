/-! ===== v3: the reference's weightOf and weighsUp ===== -/
/-- a way's weight -/
def y_W (nd : Int32) (le de ta fo : List Int32) (wy k : Nat) : Int := y_wt (y_fa nd.toInt.toNat (y_Nn le) (y_N de) (y_N ta) (y_N fo)) wy k
theorem y_W_b {h : aH} {nd : Int32} {le de ta fo : List Int32} (hn : y_net h nd le de ta fo) (h10 : nd.toInt ≤ 10) (hta : ∀ x ∈ ta, 0 ≤ x.toInt) {wy k : Nat} (hk : (k : Int) ≤ nd.toInt) : 0 ≤ y_W nd le de ta fo wy k ∧ y_W nd le de ta fo wy k ≤ 100000000 := by
  obtain ⟨-, -, -, -, -, n6, n7, n8, n9⟩ := hn
  have hb : ∀ v, v < nd.toInt.toNat → 0 ≤ y_fa nd.toInt.toNat (y_Nn le) (y_N de) (y_N ta) (y_N fo) v wy ∧ y_fa nd.toInt.toNat (y_Nn le) (y_N de) (y_N ta) (y_N fo) v wy ≤ y_N de v := fun v hv => y_fa_b (fun v hv => Nat.le_trans (y_pl_m (show nd.toInt.toNat ≤ 10 by omega)) (n6 v (by omega)).1) (fun v c hv hc => by
    have h1 := n7 (8 * v + c) (by omega)
    rw [show (8 * v + c) / 8 = v by omega] at h1
    refine ⟨?_, h1⟩
    unfold y_N
    rw [List.getD_eq_getElem?_getD]
    cases hq : ta[8 * v + c]? with
    | none => exact Int.le_refl 0
    | some x => exact hta x (List.mem_of_getElem? hq)) (fun v hv => Int.le_trans (by decide) (n8 v (by omega))) hv
  refine ⟨y_wt_0 (fun v hv => (hb v (by omega)).1), ?_⟩
  exact Int.le_trans (y_wt_le (de := y_N de) (fun v hv => hb v (by omega))) (Int.le_trans (y_pr_m (show k ≤ nd.toInt.toNat by omega) (fun v hv => n8 v (by omega))) n9)
theorem y_idx8 {v a : Int32} {vv aa : Nat} (hv : v.toInt = vv) (ha : a.toInt = aa) (h1 : vv < 10) (h2 : aa < 8) : ((Int8.ofInt 8).toInt32 * v + a).toInt = ((8 * vv + aa : Nat) : Int) := by
  have e8 : ((Int8.ofInt 8).toInt32).toInt = 8 := by decide
  rw [Int32.toInt_add, Int32.toInt_mul, e8, hv, ha, Int.bmod_eq_of_le (n := 8 * (vv : Int)) (by omega) (by omega), Int.bmod_eq_of_le (by omega) (by omega)]
  omega
theorem y_sub32 {a b : Int32} (h1 : 0 ≤ b.toInt) (h2 : b.toInt ≤ a.toInt) : (a - b).toInt = a.toInt - b.toInt := by
  have h3 := a.toInt_lt
  rw [Int32.toInt_sub]
  exact Int.bmod_eq_of_le (by omega) (by omega)
theorem y_i2l (x : Int32) : x.toInt64.toInt = x.toInt := Int32.toInt_toInt64 x
section WG
variable {X : aX} {C S d : Nat} {K0 : Option Value → aH → Nat → Nat → Prop}
theorem y_outer {nd : Int32} {le de ta fo : List Int32} {way : Int32} {wy : Nat} (hwy : way.toInt = wy) (hwy2 : wy < 1024) : ∀ (n : Nat) (h : aH) (w : Int64) (v : Int32) (k : Nat) (o5 o6 o7 o8 : Option Value), w_hr z_D h → y_net h nd le de ta fo → v.toInt = k → (k : Int) + n = nd.toInt → w.toInt = y_W nd le de ta fo wy k →
    (∀ (r : Int64) (H : aH), y_fr h H [] [] → r.toInt = y_W nd le de ta fo wy nd.toInt.toNat → K0 (some (.long r)) H C S) →
    aOK s_P X (d + 1) a_m184 5 [some (.ref 155), some (.int way), some (.long w), none, some (.int v), o5, o6, o7, o8] [] h C S K0 := by
  intro n
  induction n with
  | zero =>
    intro h w v k o5 o6 o7 o8 hr hn hv hkn hw hK
    refine w_go z_hl [5, 23] [185] 30 hr ?_
    intro x hx b1 b2
    have e : x = nd := by
      have := hx.symm.trans hn.1
      cases this
      rfl
    subst e
    refine ⟨fun q => ?_, fun q => ?_⟩
    · intro H hH
      exact hK w H (y_fr_rel hH (w_cons (Or.inr hn.1) w_nil) w_nil) (by rw [hw, show x.toInt.toNat = k by omega])
    · have q2 : ¬ (x.toInt ≤ v.toInt) := y_cif q
      omega
  | succ n ih =>
    intro h w v k o5 o6 o7 o8 hr hn hv hkn hw hK
    refine w_go z_hl [5, 23] [185] 30 hr ?_
    intro x hx b1 b2
    have e : x = nd := by
      have := hx.symm.trans hn.1
      cases this
      rfl
    subst e
    refine ⟨fun q => ?_, fun q => ?_⟩
    · have q2 : x.toInt ≤ v.toInt := (y_ci .ge _ _).mp q
      omega
    · intro H hH
      have hf : y_fr h H [] [] := y_fr_rel hH (w_cons (Or.inr hn.1) w_nil) w_nil
      refine y_inner (le := le) (de := de) (ta := ta) (fo := fo) hwy hwy2 hv (by omega) x.toInt.toNat H _ _ _ 0 hf.1 (y_net_fr hf hn) rfl (by omega) rfl rfl (fun a' p' o' H1 hf1 ha' => ?_)
      have hf1' : y_fr h H1 [] [] := y_fr_tr hf hf1 (fun _ q => q) (fun _ q => q)
      have hn1 := y_net_fr hf1' hn
      have ha8 : (y_ap (y_Nn le k) wy x.toInt.toNat).1 < 8 := by
        have h1 := y_ap_1 (lb := y_Nn le k) (w := wy) x.toInt.toNat
        rw [y_ap_2] at h1
        exact Nat.lt_of_lt_of_le h1 (Nat.le_trans (Nat.pow_le_pow_right (by decide) (Nat.le_trans (y_pl_m (show x.toInt.toNat ≤ 10 by omega)) (hn.2.2.2.2.2.1 k (by omega)).1)) (by decide))
      have hidx := y_idx8 hv ha' (by omega) ha8
      have hidxb : 0 ≤ ((Int8.ofInt 8).toInt32 * v + a').toInt ∧ ((Int8.ofInt 8).toInt32 * v + a').toInt < ((80 : Nat) : Int) := by omega
      have hvc := (y_ofNat hv (by omega)).2
      have hinc : (v + Int32.ofInt 1).toInt = ((k + 1 : Nat) : Int) := by rw [y_inc (by omega), hv]; rfl
      have hic := (y_ofNat hidx (by omega)).2
      refine w_go z_hl [5, 23] [185] 30 hf1.1 ?_
      intro H2 h2
      refine y_has h2.1 hwy hwy2 hv (by omega) (fun H3 h3 => ?_)
      refine ⟨fun n e => (by cases e), ?_⟩
      have hf3 : y_fr h H3 [] [] := y_fr_tr (y_fr_tr hf1' (y_fr_rel h2 w_nil w_nil) (fun _ q => q) (fun _ q => q)) (y_fr_rel h3 w_nil w_nil) (fun _ q => q) (fun _ q => q)
      have hn3 := y_net_fr hf3 hn
      -- the end of a round
      have fin : ∀ {H' : aH} {f : Int64} {p5 p6 p7 p8 : Option Value}, (∀ y ∈ ta, 0 ≤ y.toInt) → y_fr h H' [] [] → f.toInt = y_fa x.toInt.toNat (y_Nn le) (y_N de) (y_N ta) (y_N fo) k wy → aOK s_P X (d + 1) a_m184 5 [some (.ref 155), some (.int way), some (.long (w * f)), none, some (.int (v + Int32.ofInt 1)), p5, p6, p7, p8] [] H' C S K0 := by
        intro H' f p5 p6 p7 p8 hta hf' hfv
        have hb0 := y_W_b hn b2 hta (wy := wy) (k := k + 1) (by omega)
        have e1 : y_W x le de ta fo wy (k + 1) = w.toInt * f.toInt := by rw [hw, hfv]; rfl
        rw [e1] at hb0
        refine ih H' (w * f) _ (k + 1) p5 p6 p7 p8 hf'.1 (y_net_fr hf' hn) hinc (by omega) ?_ (fun r H'' hf'' hr'' => hK r H'' (y_fr_tr hf' hf'' (fun _ q => q) (fun _ q => q)) hr'')
        rw [y_mul (by omega) (by omega), e1]
      have efa : ∀ b, wy.testBit k = b → y_fa x.toInt.toNat (y_Nn le) (y_N de) (y_N ta) (y_N fo) k wy = if 0 ≤ y_N fo k then (if y_N fo k = (if b then 1 else 0) then y_N de k else 0) else if b then y_N ta (8 * k + (y_ap (y_Nn le k) wy x.toInt.toNat).1) else y_N de k - y_N ta (8 * k + (y_ap (y_Nn le k) wy x.toInt.toNat).1) := fun b hb => by
        unfold y_fa
        rw [hb]
      have hm3 := hn3.2.2.2.1
      cases hbit : wy.testBit k with
      | true =>
        refine w_go z_hl [5, 23] [185] 60 hf3.1 ?_
        refine ⟨fun q => absurd q (by decide), fun q => ?_⟩
        refine ⟨hidxb, fun l1 hl1 hlen1 hbb1 => ?_⟩
        have el : l1 = ta := by
          have := hl1.symm.trans hm3
          cases this
          rfl
        subst el
        have hta0 : ∀ y ∈ l1, 0 ≤ y.toInt := fun y hy => (hbb1 y hy).1
        have hnum : (l1.getD ((Int8.ofInt 8).toInt32 * v + a').toNatClampNeg 0).toInt = y_N l1 (8 * k + (y_ap (y_Nn le k) wy x.toInt.toNat).1) := by
          rw [hic]
          rfl
        have hle := hn.2.2.2.2.2.2.1 (8 * k + (y_ap (y_Nn le k) wy x.toInt.toNat).1) (by omega)
        rw [show (8 * k + (y_ap (y_Nn le k) wy x.toInt.toNat).1) / 8 = k by omega] at hle
        have h0 : 0 ≤ y_N l1 (8 * k + (y_ap (y_Nn le k) wy x.toInt.toNat).1) := by
          rw [← hnum, hic]
          exact (hbb1 _ (z_gd (0 : Int32) (by omega))).1
        refine ⟨⟨by omega, by omega⟩, fun l2 hl2 hlen2 hbb2 => ?_⟩
        have el : l2 = fo := by
          have := hl2.symm.trans hn3.2.2.2.2.1
          cases this
          rfl
        subst el
        have hfov : (l2.getD v.toNatClampNeg 0).toInt = y_N l2 k := by
          rw [hvc]
          rfl
        have hde : ∀ {l3 : List Int32}, w_a H3 157 = some (0, .inl l3) → l3 = de := fun hl3 => by
          have := hl3.symm.trans hn3.2.2.1
          cases this
          rfl
        have fr1 : ∀ {H' : aH}, w_rel z_D H3 [] [(159, (0, .inl l2)), (158, (0, .inl l1))] H' → y_fr h H' [] [] := fun hr' => y_fr_tr hf3 (y_fr_rel hr' w_nil (w_cons (Or.inr hl2) (w_cons (Or.inr hl1) w_nil))) (fun _ q => q) (fun _ q => q)
        have fr2 : ∀ {H' : aH}, w_rel z_D H3 [] [(157, (0, .inl de)), (159, (0, .inl l2)), (158, (0, .inl l1))] H' → y_fr h H' [] [] := fun hr' => y_fr_tr hf3 (y_fr_rel hr' w_nil (w_cons (Or.inr hn3.2.2.1) (w_cons (Or.inr hl2) (w_cons (Or.inr hl1) w_nil)))) (fun _ q => q) (fun _ q => q)
        refine ⟨fun q1 => ?_, fun q1 => ⟨⟨by omega, by omega⟩, fun q2 => ?_, fun q2 => ?_⟩⟩
        · have hneg : ¬ (0 ≤ y_N l2 k) := by
            have q3 : (l2.getD v.toNatClampNeg 0).toInt < (0 : Int32).toInt := (y_ci .lt _ _).mp q1
            have e0 : (0 : Int32).toInt = 0 := rfl
            omega
          refine ⟨fun q5 => absurd q5 (by decide), fun q5 => ?_⟩
          intro H' hH'
          refine fin hta0 (fr1 hH') ?_
          rw [efa _ hbit, if_neg hneg]
          simp only [if_true]
          rw [y_i2l]
          exact hnum
        · have hpos : 0 ≤ y_N l2 k := by
            have q3 : ¬ ((l2.getD v.toNatClampNeg 0).toInt < (0 : Int32).toInt) := y_cif q1
            have e0 : (0 : Int32).toInt = 0 := rfl
            omega
          have hne : y_N l2 k ≠ 1 := by
            have q4 : (l2.getD v.toNatClampNeg 0).toInt ≠ (Int32.ofInt 1).toInt := (y_ci .ne _ _).mp q2
            have e0 : (Int32.ofInt 1).toInt = 1 := by decide
            omega
          intro H' hH'
          refine fin hta0 (fr1 hH') ?_
          rw [efa _ hbit, if_pos hpos]
          simp only [if_true]
          rw [if_neg hne]
          rfl
        · have hpos : 0 ≤ y_N l2 k := by
            have q3 : ¬ ((l2.getD v.toNatClampNeg 0).toInt < (0 : Int32).toInt) := y_cif q1
            have e0 : (0 : Int32).toInt = 0 := rfl
            omega
          have heq : y_N l2 k = 1 := by
            have q4 : ¬ ((l2.getD v.toNatClampNeg 0).toInt ≠ (Int32.ofInt 1).toInt) := y_cif q2
            have e0 : (Int32.ofInt 1).toInt = 1 := by decide
            omega
          refine ⟨⟨by omega, by omega⟩, fun l3 hl3 hlen3 hbb3 => ?_⟩
          have el := hde hl3
          subst el
          intro H' hH'
          refine fin hta0 (fr2 hH') ?_
          rw [efa _ hbit, if_pos hpos]
          simp only [if_true]
          rw [if_pos heq, y_i2l, hvc]
          rfl
      | false =>
        refine w_go z_hl [5, 23] [185] 60 hf3.1 ?_
        refine ⟨fun q => ?_, fun q => absurd q (by decide)⟩
        refine ⟨hidxb, fun l1 hl1 hlen1 hbb1 => ?_⟩
        have el : l1 = ta := by
          have := hl1.symm.trans hm3
          cases this
          rfl
        subst el
        have hta0 : ∀ y ∈ l1, 0 ≤ y.toInt := fun y hy => (hbb1 y hy).1
        have hnum : (l1.getD ((Int8.ofInt 8).toInt32 * v + a').toNatClampNeg 0).toInt = y_N l1 (8 * k + (y_ap (y_Nn le k) wy x.toInt.toNat).1) := by
          rw [hic]
          rfl
        have hle := hn.2.2.2.2.2.2.1 (8 * k + (y_ap (y_Nn le k) wy x.toInt.toNat).1) (by omega)
        rw [show (8 * k + (y_ap (y_Nn le k) wy x.toInt.toNat).1) / 8 = k by omega] at hle
        have h0 : 0 ≤ y_N l1 (8 * k + (y_ap (y_Nn le k) wy x.toInt.toNat).1) := by
          rw [← hnum, hic]
          exact (hbb1 _ (z_gd (0 : Int32) (by omega))).1
        refine ⟨⟨by omega, by omega⟩, fun l2 hl2 hlen2 hbb2 => ?_⟩
        have el : l2 = fo := by
          have := hl2.symm.trans hn3.2.2.2.2.1
          cases this
          rfl
        subst el
        have hfov : (l2.getD v.toNatClampNeg 0).toInt = y_N l2 k := by
          rw [hvc]
          rfl
        have hde : ∀ {l3 : List Int32}, w_a H3 157 = some (0, .inl l3) → l3 = de := fun hl3 => by
          have := hl3.symm.trans hn3.2.2.1
          cases this
          rfl
        have fr1 : ∀ {H' : aH}, w_rel z_D H3 [] [(159, (0, .inl l2)), (158, (0, .inl l1))] H' → y_fr h H' [] [] := fun hr' => y_fr_tr hf3 (y_fr_rel hr' w_nil (w_cons (Or.inr hl2) (w_cons (Or.inr hl1) w_nil))) (fun _ q => q) (fun _ q => q)
        have fr2 : ∀ {H' : aH}, w_rel z_D H3 [] [(157, (0, .inl de)), (159, (0, .inl l2)), (158, (0, .inl l1))] H' → y_fr h H' [] [] := fun hr' => y_fr_tr hf3 (y_fr_rel hr' w_nil (w_cons (Or.inr hn3.2.2.1) (w_cons (Or.inr hl2) (w_cons (Or.inr hl1) w_nil)))) (fun _ q => q) (fun _ q => q)
        refine ⟨fun q1 => ?_, fun q1 => ⟨⟨by omega, by omega⟩, fun q2 => ?_, fun q2 => ?_⟩⟩
        · have hneg : ¬ (0 ≤ y_N l2 k) := by
            have q3 : (l2.getD v.toNatClampNeg 0).toInt < (0 : Int32).toInt := (y_ci .lt _ _).mp q1
            have e0 : (0 : Int32).toInt = 0 := rfl
            omega
          refine ⟨fun q5 => ?_, fun q5 => absurd q5 (by decide)⟩
          refine ⟨⟨by omega, by omega⟩, fun l3 hl3 hlen3 hbb3 => ?_⟩
          have el := hde hl3
          subst el
          intro H' hH'
          refine fin hta0 (fr2 hH') ?_
          rw [efa _ hbit, if_neg hneg]
          simp only [Bool.false_eq_true, if_false]
          have hdv : (l3.getD v.toNatClampNeg 0).toInt = y_N l3 k := by
            rw [hvc]
            rfl
          rw [y_i2l, y_sub32 (by rw [hnum]; exact h0) (by rw [hnum, hdv]; exact hle), hnum, hdv]
        · have hpos : 0 ≤ y_N l2 k := by
            have q3 : ¬ ((l2.getD v.toNatClampNeg 0).toInt < (0 : Int32).toInt) := y_cif q1
            have e0 : (0 : Int32).toInt = 0 := rfl
            omega
          have hne : y_N l2 k ≠ 0 := by
            have q4 : (l2.getD v.toNatClampNeg 0).toInt ≠ (Int32.ofInt 0).toInt := (y_ci .ne _ _).mp q2
            have e0 : (Int32.ofInt 0).toInt = 0 := by decide
            omega
          intro H' hH'
          refine fin hta0 (fr1 hH') ?_
          rw [efa _ hbit, if_pos hpos]
          simp only [Bool.false_eq_true, if_false]
          rw [if_neg hne]
          rfl
        · have hpos : 0 ≤ y_N l2 k := by
            have q3 : ¬ ((l2.getD v.toNatClampNeg 0).toInt < (0 : Int32).toInt) := y_cif q1
            have e0 : (0 : Int32).toInt = 0 := rfl
            omega
          have heq : y_N l2 k = 0 := by
            have q4 : ¬ ((l2.getD v.toNatClampNeg 0).toInt ≠ (Int32.ofInt 0).toInt) := y_cif q2
            have e0 : (Int32.ofInt 0).toInt = 0 := by decide
            omega
          refine ⟨⟨by omega, by omega⟩, fun l3 hl3 hlen3 hbb3 => ?_⟩
          have el := hde hl3
          subst el
          intro H' hH'
          refine fin hta0 (fr2 hH') ?_
          rw [efa _ hbit, if_pos hpos]
          simp only [Bool.false_eq_true, if_false]
          rw [if_pos heq, y_i2l, hvc]
          rfl
theorem y_weightOf {h : aH} {nd : Int32} {le de ta fo : List Int32} {way : Int32} {wy : Nat} (hwy : way.toInt = wy) (hwy2 : wy < 1024) (hr : w_hr z_D h) (hn : y_net h nd le de ta fo) (h0 : 0 ≤ nd.toInt) (hK : ∀ (r : Int64) (H : aH), y_fr h H [] [] → r.toInt = y_W nd le de ta fo wy nd.toInt.toNat → K0 (some (.long r)) H C S) : aOK s_P X (d + 1) a_m184 0 [some (.ref 155), some (.int way), none, none, none, none, none, none, none] [] h C S K0 := by
  refine w_go z_hl [5] [185] 30 hr ?_
  intro H hH
  have hf : y_fr h H [] [] := y_fr_rel hH w_nil w_nil
  exact y_outer hwy hwy2 nd.toInt.toNat H _ _ 0 _ _ _ _ hf.1 (y_net_fr hf hn) rfl (by omega) rfl (fun r H' hf' hr' => hK r H' (y_fr_tr hf hf' (fun _ q => q) (fun _ q => q)) hr')
end WG
