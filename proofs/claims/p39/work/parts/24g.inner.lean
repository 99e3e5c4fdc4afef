/-! ===== v3: the reference's weightOf, its inner loop ===== -/
def y_N (l : List Int32) (i : Nat) : Int := (l.getD i 0).toInt
def y_Nn (l : List Int32) (i : Nat) : Nat := (l.getD i 0).toInt.toNat
/-- the net, as weights need it -/
def y_net (h : aH) (nd : Int32) (le de ta fo : List Int32) : Prop := w_f h 19591 = some (.int nd) ∧ w_a h 156 = some (0, .inl le) ∧ w_a h 157 = some (0, .inl de) ∧ w_a h 158 = some (0, .inl ta) ∧ w_a h 159 = some (0, .inl fo) ∧ (∀ v, v < 10 → y_pl (y_Nn le v) 10 ≤ 3 ∧ y_Nn le v < 2 ^ v) ∧ (∀ i, i < 80 → y_N ta i ≤ y_N de (i / 8)) ∧ (∀ v : Nat, (v : Int) < nd.toInt → 1 ≤ y_N de v) ∧ y_pr (y_N de) nd.toInt.toNat ≤ 100000000
theorem y_net_fr {h H : aH} {nd : Int32} {le de ta fo : List Int32} (hf : y_fr h H [] []) (hn : y_net h nd le de ta fo) : y_net H nd le de ta fo := by
  obtain ⟨n1, n2, n3, n4, n5, n6⟩ := hn
  exact ⟨(hf.2.1 _ (fun q => by cases q)).trans n1, (hf.2.2 _ (fun q => by cases q)).trans n2, (hf.2.2 _ (fun q => by cases q)).trans n3, (hf.2.2 _ (fun q => by cases q)).trans n4, (hf.2.2 _ (fun q => by cases q)).trans n5, n6⟩
set_option maxRecDepth 100000 in
theorem y_has0 : (List.range 1024).all (fun b => (List.range 10).all (fun o => (decide ((Int32.ofNat b >>> (Int32.ofNat o &&& 31)) &&& Int32.ofInt 1 = Int32.ofInt 1)) == b.testBit o)) = true := by decide +kernel
theorem y_hasN {bits k : Int32} {b o : Nat} (hb : bits.toInt = b) (hb2 : b < 1024) (ho : k.toInt = o) (ho2 : o < 10) : decide ((bits >>> (k &&& 31)) &&& Int32.ofInt 1 = Int32.ofInt 1) = b.testBit o := by
  have h1 := List.all_eq_true.mp (List.all_eq_true.mp y_has0 b (List.mem_range.mpr hb2)) o (List.mem_range.mpr ho2)
  rw [(y_ofNat hb (by omega)).1, (y_ofNat ho (by omega)).1]
  exact beq_iff_eq.mp h1
def y_01 (b : Bool) : Int32 := cond b 1 0
section WG
variable {X : aX} {C S d : Nat} {K0 : Option Value → aH → Nat → Nat → Prop}
theorem y_has {h : aH} (hr : w_hr z_D h) {bits k : Int32} {b o : Nat} (hb : bits.toInt = b) (hb2 : b < 1024) (ho : k.toInt = o) (ho2 : o < 10) (hk : ∀ H, w_eq h H → K0 (some (.int (y_01 (b.testBit o)))) H C S) : aOK s_P X d a_m185 0 [some (.int bits), some (.int k)] [] h C S K0 := by
  have hN := y_hasN hb hb2 ho ho2
  refine w_go z_hl [] [] 20 hr ?_
  refine ⟨fun q => ?_, fun q => ?_⟩
  · refine ⟨by decide, fun H hH => ?_⟩
    have h1 : ¬ ((bits >>> (k &&& 31)) &&& Int32.ofInt 1 = Int32.ofInt 1) := fun e => (y_ci .ne _ _).mp q (congrArg _ e)
    rw [decide_eq_false h1] at hN
    have := hk H hH
    rw [← hN] at this
    exact this
  · refine ⟨by decide, fun H hH => ?_⟩
    have h1 : (bits >>> (k &&& 31)) &&& Int32.ofInt 1 = Int32.ofInt 1 := Int32.toInt_inj.mp (Decidable.not_not.mp (y_cif (c := .ne) q))
    rw [decide_eq_true h1] at hN
    have := hk H hH
    rw [← hN] at this
    exact this
theorem y_or {at' pl : Int32} {a p : Nat} (ha : at'.toInt = a) (hp : pl.toInt = p) (h1 : a < 2 ^ p) (h2 : p ≤ 2) : (at' ||| Int32.ofInt 1 <<< (pl &&& 31)).toInt = ((a + 2 ^ p : Nat) : Int) := by
  have ea := (y_ofNat ha (by have : 2 ^ p ≤ 2 ^ 2 := Nat.pow_le_pow_right (by decide) h2; omega)).1
  have ep := (y_ofNat hp (by omega)).1
  subst ea ep
  have h3 : p = 0 ∨ p = 1 ∨ p = 2 := by omega
  rcases h3 with rfl | rfl | rfl
  · have : a = 0 := by omega
    subst this
    decide
  · have : a = 0 ∨ a = 1 := by omega
    rcases this with rfl | rfl <;> decide
  · have : a = 0 ∨ a = 1 ∨ a = 2 ∨ a = 3 := by omega
    rcases this with rfl | rfl | rfl | rfl <;> decide
theorem y_inner {nd : Int32} {le de ta fo : List Int32} {way v : Int32} {wy vv : Nat} (hwy : way.toInt = wy) (hwy2 : wy < 1024) (hv : v.toInt = vv) (hv2 : vv < 10) {w : Int64} {o8 : Option Value} : ∀ (n : Nat) (h : aH) (at' pl o : Int32) (k : Nat), w_hr z_D h → y_net h nd le de ta fo → o.toInt = k → (k : Int) + n = nd.toInt → at'.toInt = (y_ap (y_Nn le vv) wy k).1 → pl.toInt = (y_ap (y_Nn le vv) wy k).2 →
    (∀ (a' p' o' : Int32) (H : aH), y_fr h H [] [] → a'.toInt = (y_ap (y_Nn le vv) wy nd.toInt.toNat).1 → aOK s_P X (d + 1) a_m184 78 [some (.ref 155), some (.int way), some (.long w), none, some (.int v), some (.int a'), some (.int p'), some (.int o'), o8] [] H C S K0) →
    aOK s_P X (d + 1) a_m184 23 [some (.ref 155), some (.int way), some (.long w), none, some (.int v), some (.int at'), some (.int pl), some (.int o), o8] [] h C S K0 := by
  intro n
  induction n with
  | zero =>
    intro h at' pl o k hr hn ho hkn ha hp hK
    refine w_go z_hl [23, 78] [185] 30 hr ?_
    intro x hx b1 b2
    have e : x = nd := by
      have := hx.symm.trans hn.1
      cases this
      rfl
    subst e
    refine ⟨fun q => ?_, fun q => ?_⟩
    · intro H hH
      exact hK at' pl o H (y_fr_rel hH (w_cons (Or.inr hn.1) w_nil) w_nil) (by rw [ha, show x.toInt.toNat = k by omega])
    · have q2 : ¬ (x.toInt ≤ o.toInt) := y_cif q
      omega
  | succ n ih =>
    intro h at' pl o k hr hn ho hkn ha hp hK
    refine w_go z_hl [23, 78] [185] 30 hr ?_
    intro x hx b1 b2
    have e : x = nd := by
      have := hx.symm.trans hn.1
      cases this
      rfl
    subst e
    refine ⟨fun q => ?_, fun q => ?_⟩
    · have q2 : x.toInt ≤ o.toInt := (y_ci .ge _ _).mp q
      omega
    · refine ⟨⟨by omega, by omega⟩, fun l hl hlen hbb => ?_⟩
      have el : l = le := by
        have := hl.symm.trans hn.2.1
        cases this
        rfl
      subst el
      have hin := (hn.2.2.2.2.2.1 vv hv2)
      have hvc := (y_ofNat hv (by omega)).2
      have hlb : (l.getD v.toNatClampNeg 0).toInt = (y_Nn l vv : Nat) := by
        have hm := hbb _ (z_gd (0 : Int32) (show vv < l.length by omega))
        rw [hvc]
        unfold y_Nn
        omega
      have hlb2 : y_Nn l vv < 1024 := by
        have hm := hbb _ (z_gd (0 : Int32) (show vv < l.length by omega))
        unfold y_Nn
        omega
      have hplk : y_pl (y_Nn l vv) (k + 1) ≤ 3 := Nat.le_trans (y_pl_m (show k + 1 ≤ 10 by omega)) hin.1
      have hinc : (o + Int32.ofInt 1).toInt = ((k + 1 : Nat) : Int) := by rw [y_inc (by omega), ho]; rfl
      intro H hH
      have hf : y_fr h H [] [] := y_fr_rel hH (w_cons (Or.inr hn.1) w_nil) (w_cons (Or.inr hn.2.1) w_nil)
      refine y_has hH.1 hlb hlb2 ho (by omega) (fun H1 h1 => ?_)
      refine ⟨fun n e => (by cases e), ?_⟩
      have hf1 : y_fr h H1 [] [] := y_fr_tr hf (y_fr_rel h1 w_nil w_nil) (fun _ q => q) (fun _ q => q)
      cases hbit : (y_Nn l vv).testBit k with
      | false =>
        refine w_go z_hl [23, 78] [185] 30 hf1.1 ?_
        refine ⟨fun q => ?_, fun q => absurd q (by decide)⟩
        intro H2 h2
        have hf2 : y_fr h H2 [] [] := y_fr_tr hf1 (y_fr_rel h2 w_nil w_nil) (fun _ q => q) (fun _ q => q)
        have eap : y_ap (y_Nn l vv) wy (k + 1) = y_ap (y_Nn l vv) wy k := by
          show (if (y_Nn l vv).testBit k then _ else y_ap (y_Nn l vv) wy k) = _
          rw [hbit]
          rfl
        exact ih H2 at' pl _ (k + 1) hf2.1 (y_net_fr hf2 hn) hinc (by omega) (by rw [eap]; exact ha) (by rw [eap]; exact hp) (fun a' p' o' H' hf' ha' => hK a' p' o' H' (y_fr_tr hf2 hf' (fun _ q => q) (fun _ q => q)) ha')
      | true =>
        refine w_go z_hl [23, 78] [185] 30 hf1.1 ?_
        refine ⟨fun q => absurd q (by decide), fun q => ?_⟩
        intro H2 h2
        refine y_has h2.1 hwy hwy2 ho (by omega) (fun H3 h3 => ?_)
        refine ⟨fun n e => (by cases e), ?_⟩
        have hf3 : y_fr h H3 [] [] := y_fr_tr (y_fr_tr hf1 (y_fr_rel h2 w_nil w_nil) (fun _ q => q) (fun _ q => q)) (y_fr_rel h3 w_nil w_nil) (fun _ q => q) (fun _ q => q)
        have e2 := y_ap_2 (lb := y_Nn l vv) (w := wy) k
        have hpl1 : y_pl (y_Nn l vv) (k + 1) = y_pl (y_Nn l vv) k + 1 := by
          show y_pl _ k + (if (y_Nn l vv).testBit k then 1 else 0) = _
          rw [hbit]
          rfl
        have hinp : (pl + Int32.ofInt 1).toInt = (((y_ap (y_Nn l vv) wy k).2 + 1 : Nat) : Int) := by rw [y_inc (by omega), hp]; rfl
        cases hwb : wy.testBit k with
        | false =>
          refine w_go z_hl [23, 78] [185] 30 hf3.1 ?_
          refine ⟨fun q => ?_, fun q => absurd q (by decide)⟩
          intro H4 h4
          have hf4 : y_fr h H4 [] [] := y_fr_tr hf3 (y_fr_rel h4 w_nil w_nil) (fun _ q => q) (fun _ q => q)
          have eap : y_ap (y_Nn l vv) wy (k + 1) = ((y_ap (y_Nn l vv) wy k).1, (y_ap (y_Nn l vv) wy k).2 + 1) := by
            show (if (y_Nn l vv).testBit k then (if wy.testBit k then _ else (y_ap (y_Nn l vv) wy k).1, _) else _) = _
            rw [hbit, hwb]
            rfl
          refine ih H4 _ _ _ (k + 1) hf4.1 (y_net_fr hf4 hn) hinc (by omega) ?_ (by rw [eap]; exact hinp) (fun a' p' o' H' hf' ha' => hK a' p' o' H' (y_fr_tr hf4 hf' (fun _ q => q) (fun _ q => q)) ha')
          rw [eap]
          show (at' ||| (0 : Int32)).toInt = _
          rw [Int32.or_zero]
          exact ha
        | true =>
          refine w_go z_hl [23, 78] [185] 30 hf3.1 ?_
          refine ⟨fun q => absurd q (by decide), fun q => ?_⟩
          intro H4 h4
          have hf4 : y_fr h H4 [] [] := y_fr_tr hf3 (y_fr_rel h4 w_nil w_nil) (fun _ q => q) (fun _ q => q)
          have eap : y_ap (y_Nn l vv) wy (k + 1) = ((y_ap (y_Nn l vv) wy k).1 + 2 ^ (y_ap (y_Nn l vv) wy k).2, (y_ap (y_Nn l vv) wy k).2 + 1) := by
            show (if (y_Nn l vv).testBit k then (if wy.testBit k then (y_ap (y_Nn l vv) wy k).1 + 2 ^ (y_ap (y_Nn l vv) wy k).2 else _, _) else _) = _
            rw [hbit, hwb]
            rfl
          refine ih H4 _ _ _ (k + 1) hf4.1 (y_net_fr hf4 hn) hinc (by omega) ?_ (by rw [eap]; exact hinp) (fun a' p' o' H' hf' ha' => hK a' p' o' H' (y_fr_tr hf4 hf' (fun _ q => q) (fun _ q => q)) ha')
          rw [eap]
          exact y_or ha hp (y_ap_1 k) (by omega)
end WG
