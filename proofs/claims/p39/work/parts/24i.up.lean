/-! ===== v3: the reference's weighsUp ===== -/
theorem y_net_fr2 {h H : aH} {nd : Int32} {le de ta fo : List Int32} {fs as : List Nat} (hf : y_fr h H fs as) (h1 : fs.elem 19591 = false) (h2 : as.all (fun x => Nat.blt x 156 || Nat.blt 159 x) = true) (hn : y_net h nd le de ta fo) : y_net H nd le de ta fo := by
  obtain ⟨n1, n2, n3, n4, n5, n6⟩ := hn
  have hno : ∀ o, 156 ≤ o → o ≤ 159 → o ∉ as := fun o ha hb hm => by
    have := List.all_eq_true.mp h2 o hm
    rw [Bool.or_eq_true] at this
    rcases this with q | q
    · have := Nat.blt_eq.mp q; omega
    · have := Nat.blt_eq.mp q; omega
  have hnf : 19591 ∉ fs := fun hm => by rw [List.elem_iff.mpr hm] at h1; cases h1
  exact ⟨(hf.2.1 _ hnf).trans n1, (hf.2.2 _ (hno _ (by decide) (by decide))).trans n2, (hf.2.2 _ (hno _ (by decide) (by decide))).trans n3, (hf.2.2 _ (hno _ (by decide) (by decide))).trans n4, (hf.2.2 _ (hno _ (by decide) (by decide))).trans n5, n6⟩
theorem y_gset {α : Type} {l : List α} {k i : Nat} {x d : α} (hk : k < l.length) : (l.set k x).getD i d = if i = k then x else l.getD i d := by
  rw [List.getD_eq_getElem?_getD, List.getD_eq_getElem?_getD]
  split
  · rename_i e
    subst e
    rw [List.getElem?_set_self hk]
    rfl
  · rename_i e
    rw [List.getElem?_set_ne (fun q => e q.symm)]
theorem y_tot_z {wl : List Int64} {m : Nat} (h : ∀ i, m ≤ i → wl.getD i 0 = 0) : ∀ {k : Nat}, m ≤ k → y_tot wl k = y_tot wl m := by
  intro k hk
  induction hk with
  | refl => rfl
  | @step p hp ih =>
    show y_tot wl p + (wl.getD p 0).toInt = _
    rw [h p hp, ih]
    exact Int.add_zero _
theorem y_tot_S {wl : List Int64} {f : Nat → Int} : ∀ {n : Nat}, (∀ i, i < n → (wl.getD i 0).toInt = f i) → y_tot wl n = y_S f n
  | 0, _ => rfl
  | n + 1, h => by
    show y_tot wl n + _ = y_S f n + f n
    rw [y_tot_S (fun i hi => h i (by omega)), h n (by omega)]
/-- weights are those of the net -/
def y_wok (nd : Int32) (le de ta fo : List Int32) (wl : List Int64) (k : Nat) : Prop := (∀ i, i < k → (wl.getD i 0).toInt = y_W nd le de ta fo i nd.toInt.toNat) ∧ ∀ i, y_ways nd ≤ i → wl.getD i 0 = 0
theorem y_wok_wl {h : aH} {nd : Int32} {le de ta fo : List Int32} {wl : List Int64} (hn : y_net h nd le de ta fo) (hr : w_hr z_D h) (h0 : 0 ≤ nd.toInt) (h10 : nd.toInt ≤ 10) (hw : w_a h 163 = some (1, .inr (.inl wl))) (hk : y_wok nd le de ta fo wl (y_ways nd)) : y_wl h wl := by
  have hta : ∀ x ∈ ta, 0 ≤ x.toInt := by
    obtain ⟨l, g1, g2, g3⟩ := w_arrI hr (o := 158) (t := 0) (n := 80) (lo := 0) (hi := 10000000) (by decide) rfl
    have e := (w_a_at g1).symm.trans hn.2.2.2.1
    cases e
    exact fun x hx => (g3 x hx).1
  have hle : ∀ i, 0 ≤ (wl.getD i 0).toInt := fun i => by
    rcases Nat.lt_or_ge i (y_ways nd) with q | q
    · rw [hk.1 i q]
      exact (y_W_b hn h10 hta (by omega)).1
    · rw [hk.2 i q]
      exact Int.le_refl 0
  obtain ⟨-, -, l2⟩ := y_all h0 h10
  refine ⟨hw, fun x hx => ?_, ?_⟩
  · obtain ⟨i, hi⟩ := List.mem_iff_getElem?.mp hx
    have := hle i
    rw [List.getD_eq_getElem?_getD, hi] at this
    exact this
  · rw [y_tot_z hk.2 l2, y_tot_S hk.1]
    obtain ⟨-, -, -, -, -, n6, n7, n8, n9⟩ := hn
    refine Int.le_trans (y_fa_sum (n := nd.toInt.toNat) (le := y_Nn le) (de := y_N de) (ta := y_N ta) (fo := y_N fo) (fun v hv => (n6 v (by omega)).2) (fun v hv => Nat.le_trans (y_pl_m (show nd.toInt.toNat ≤ 10 by omega)) (n6 v (by omega)).1) (fun v c hv hc => ?_) (fun v hv => Int.le_trans (by decide) (n8 v (by omega)))) n9
    have h1 := n7 (8 * v + c) (by omega)
    rw [show (8 * v + c) / 8 = v by omega] at h1
    refine ⟨?_, h1⟩
    unfold y_N
    rw [List.getD_eq_getElem?_getD]
    cases hq : ta[8 * v + c]? with
    | none => exact Int.le_refl 0
    | some x => exact hta x (List.mem_of_getElem? hq)
section WG
variable {X : aX} {C S d : Nat} {K0 : Option Value → aH → Nat → Nat → Prop}
theorem y_up_loop {nd : Int32} {le de ta fo : List Int32} : ∀ (n : Nat) (h : aH) (w : Int32) (k : Nat) (wl : List Int64), w_hr z_D h → y_net h nd le de ta fo → w_a h 163 = some (1, .inr (.inl wl)) → w.toInt = k → k + n = y_ways nd → y_wok nd le de ta fo wl k →
    (∀ (wl' : List Int64) (H : aH), y_fr h H [] [163] → w_a H 163 = some (1, .inr (.inl wl')) → y_wok nd le de ta fo wl' (y_ways nd) → K0 none H C S) →
    aOK s_P X (d + 2) a_m188 2 [some (.ref 155), some (.int w)] [] h C S K0 := by
  intro n
  induction n with
  | zero =>
    intro h w k wl hr hn hw hk hkn hok hK
    refine w_go z_hl [2] [184] 30 hr ?_
    intro x hx b1 b2
    have e : x = nd := by
      have := hx.symm.trans hn.1
      cases this
      rfl
    subst e
    obtain ⟨ea, l1, l2⟩ := y_all b1 b2
    refine ⟨fun q => ?_, fun q => ?_⟩
    · intro H hH
      have hf : y_fr h H [] [163] := y_fr_rel hH (w_cons (Or.inr hn.1) w_nil) w_nil
      have hf0 : y_fr h H [] [] := y_fr_rel hH (w_cons (Or.inr hn.1) w_nil) w_nil
      refine hK wl H hf ((hf0.2.2 _ (fun q => by cases q)).trans hw) ?_
      rw [Nat.add_zero] at hkn
      rw [← hkn]
      exact hok
    · have q2 : ¬ ((Int32.ofInt 1 <<< (x &&& 31) - Int32.ofInt 1).toInt < w.toInt) := y_cif q
      omega
  | succ n ih =>
    intro h w k wl hr hn hw hk hkn hok hK
    refine w_go z_hl [2] [184] 30 hr ?_
    intro x hx b1 b2
    have e : x = nd := by
      have := hx.symm.trans hn.1
      cases this
      rfl
    subst e
    obtain ⟨ea, l1, l2⟩ := y_all b1 b2
    refine ⟨fun q => ?_, fun q => ?_⟩
    · have q2 : (Int32.ofInt 1 <<< (x &&& 31) - Int32.ofInt 1).toInt < w.toInt := (y_ci .gt _ _).mp q
      omega
    · have hwc := (y_ofNat hk (by omega)).2
      have hinc : (w + Int32.ofInt 1).toInt = ((k + 1 : Nat) : Int) := by rw [y_inc (by omega), hk]; rfl
      intro H hH
      have hf : y_fr h H [] [] := y_fr_rel hH (w_cons (Or.inr hn.1) w_nil) w_nil
      refine y_weightOf hk (by omega) hH.1 (y_net_fr hf hn) b1 (fun r H1 hf1 hr1 => ?_)
      refine ⟨fun n e => (by cases e), ?_⟩
      have hf1' : y_fr h H1 [] [] := y_fr_tr hf hf1 (fun _ q => q) (fun _ q => q)
      have hw1 : w_a H1 163 = some (1, .inr (.inl wl)) := (hf1'.2.2 _ (fun q => by cases q)).trans hw
      refine w_go z_hl [2] [184] 30 hf1.1 ?_
      refine ⟨⟨by omega, by omega⟩, y_l64 _, fun l hl hlen hbb => ?_⟩
      have el : l = wl := by
        have := hl.symm.trans hw1
        cases this
        rfl
      subst el
      intro H2 h2
      have hf2 : y_fr H1 H2 [] [163] := y_fr_rel h2 w_nil (w_cons (Or.inl (y_m rfl)) (w_cons (Or.inl (y_m rfl)) w_nil))
      have hf2' : y_fr h H2 [] [163] := y_fr_tr (y_fr_mono hf1' (fun _ q => q) (fun _ q => by cases q)) hf2 (fun _ q => q) (fun _ q => q)
      refine ih H2 _ (k + 1) (l.set w.toNatClampNeg r) hf2.1 (y_net_fr2 hf2' rfl rfl hn) (h2.2.2.1 163 _ rfl) hinc (by omega) ⟨fun i hi => ?_, fun i hi => ?_⟩ (fun wl' H' hf' hw' hok' => hK wl' H' (y_fr_tr hf2' hf' (fun _ q => q) (fun _ q => q)) hw' hok')
      · rw [hwc, y_gset (by omega)]
        split
        · rename_i e
          rw [e]
          exact hr1
        · exact hok.1 i (by omega)
      · rw [hwc, y_gset (by omega), if_neg (by omega)]
        exact hok.2 i hi
theorem y_weighsUp {h : aH} {nd : Int32} {le de ta fo : List Int32} {wl : List Int64} (hr : w_hr z_D h) (hn : y_net h nd le de ta fo) (hw : w_a h 163 = some (1, .inr (.inl wl))) (hz : ∀ i, y_ways nd ≤ i → wl.getD i 0 = 0) (hK : ∀ (wl' : List Int64) (H : aH), y_fr h H [] [163] → w_a H 163 = some (1, .inr (.inl wl')) → y_wok nd le de ta fo wl' (y_ways nd) → K0 none H C S) : aOK s_P X (d + 2) a_m188 0 [some (.ref 155), none] [] h C S K0 := by
  refine w_go z_hl [2] [184] 30 hr ?_
  intro H hH
  have hf : y_fr h H [] [] := y_fr_rel hH w_nil w_nil
  exact y_up_loop (y_ways nd) H _ 0 wl hf.1 (y_net_fr hf hn) ((hf.2.2 _ (fun q => by cases q)).trans hw) rfl (Nat.zero_add _) ⟨fun i hi => absurd hi (Nat.not_lt_zero i), hz⟩ (fun wl' H' hf' hw' hok' => hK wl' H' (y_fr_tr (y_fr_mono hf (fun _ q => q) (fun _ q => by cases q)) hf' (fun _ q => q) (fun _ q => q)) hw' hok')
end WG
