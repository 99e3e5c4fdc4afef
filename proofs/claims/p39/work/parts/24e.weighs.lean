/-! ===== v3: the reference's sums of weights ===== -/
def y_sel (a b w : Int32) : Bool := decide (w &&& a = a) && decide (w &&& b = 0)
def y_ws (wl : List Int64) (a b : Int32) : Nat → Int
  | 0 => 0
  | n + 1 => y_ws wl a b n + if y_sel a b (Int32.ofNat n) then (wl.getD n 0).toInt else 0
def y_tot (wl : List Int64) : Nat → Int
  | 0 => 0
  | n + 1 => y_tot wl n + (wl.getD n 0).toInt
theorem y_getD {wl : List Int64} (h0 : ∀ x ∈ wl, 0 ≤ x.toInt) (n : Nat) : 0 ≤ (wl.getD n 0).toInt := by
  rw [List.getD_eq_getElem?_getD]
  cases hq : wl[n]? with
  | none => exact Int.le_refl 0
  | some x => exact h0 x (List.mem_of_getElem? hq)
theorem y_ws_b {wl : List Int64} (h0 : ∀ x ∈ wl, 0 ≤ x.toInt) {a b : Int32} : ∀ n, 0 ≤ y_ws wl a b n ∧ y_ws wl a b n ≤ y_tot wl n
  | 0 => ⟨Int.le_refl 0, Int.le_refl 0⟩
  | n + 1 => by
    have ih := y_ws_b h0 (a := a) (b := b) n
    have h1 := y_getD h0 n
    unfold y_ws y_tot
    split <;> omega
theorem y_tot_m {wl : List Int64} (h0 : ∀ x ∈ wl, 0 ≤ x.toInt) {n m : Nat} (h : n ≤ m) : y_tot wl n ≤ y_tot wl m := by
  induction h with
  | refl => exact Int.le_refl _
  | step _ ih =>
    have h1 := y_getD h0 (by assumption)
    show _ ≤ y_tot wl _ + _
    omega
theorem y_small {x : Int32} (h1 : 0 ≤ x.toInt) (h2 : x.toInt ≤ 10) : x = 0 ∨ x = 1 ∨ x = 2 ∨ x = 3 ∨ x = 4 ∨ x = 5 ∨ x = 6 ∨ x = 7 ∨ x = 8 ∨ x = 9 ∨ x = 10 := by
  have : x.toInt = 0 ∨ x.toInt = 1 ∨ x.toInt = 2 ∨ x.toInt = 3 ∨ x.toInt = 4 ∨ x.toInt = 5 ∨ x.toInt = 6 ∨ x.toInt = 7 ∨ x.toInt = 8 ∨ x.toInt = 9 ∨ x.toInt = 10 := by omega
  have g : ∀ {n : Int32}, x.toInt = n.toInt → x = n := fun e => Int32.toInt_inj.mp e
  rcases this with e | e | e | e | e | e | e | e | e | e | e
  · exact Or.inl (g (n := 0) e)
  · exact Or.inr (Or.inl (g (n := 1) e))
  · exact Or.inr (Or.inr (Or.inl (g (n := 2) e)))
  · exact Or.inr (Or.inr (Or.inr (Or.inl (g (n := 3) e))))
  · exact Or.inr (Or.inr (Or.inr (Or.inr (Or.inl (g (n := 4) e)))))
  · exact Or.inr (Or.inr (Or.inr (Or.inr (Or.inr (Or.inl (g (n := 5) e))))))
  · exact Or.inr (Or.inr (Or.inr (Or.inr (Or.inr (Or.inr (Or.inl (g (n := 6) e)))))))
  · exact Or.inr (Or.inr (Or.inr (Or.inr (Or.inr (Or.inr (Or.inr (Or.inl (g (n := 7) e))))))))
  · exact Or.inr (Or.inr (Or.inr (Or.inr (Or.inr (Or.inr (Or.inr (Or.inr (Or.inl (g (n := 8) e)))))))))
  · exact Or.inr (Or.inr (Or.inr (Or.inr (Or.inr (Or.inr (Or.inr (Or.inr (Or.inr (Or.inl (g (n := 9) e))))))))))
  · exact Or.inr (Or.inr (Or.inr (Or.inr (Or.inr (Or.inr (Or.inr (Or.inr (Or.inr (Or.inr (g (n := 10) e))))))))))
/-- how many ways -/
def y_ways (nd : Int32) : Nat := 2 ^ nd.toInt.toNat
theorem y_all {nd : Int32} (h1 : 0 ≤ nd.toInt) (h2 : nd.toInt ≤ 10) : (Int32.ofInt 1 <<< (nd &&& 31) - Int32.ofInt 1).toInt = (y_ways nd : Int) - 1 ∧ 1 ≤ y_ways nd ∧ y_ways nd ≤ 1024 := by
  rcases y_small h1 h2 with rfl | rfl | rfl | rfl | rfl | rfl | rfl | rfl | rfl | rfl | rfl <;> decide
theorem y_add {a b : Int64} (h1 : -9223372036854775808 ≤ a.toInt + b.toInt) (h2 : a.toInt + b.toInt ≤ 9223372036854775807) : (a + b).toInt = a.toInt + b.toInt := by
  rw [Int64.toInt_add]
  exact Int.bmod_eq_of_le (by omega) (by omega)
theorem y_inc {x : Int32} (h1 : x.toInt < 2147483647) : (x + Int32.ofInt 1).toInt = x.toInt + 1 := by
  have h2 := x.le_toInt
  have e : (Int32.ofInt 1).toInt = 1 := by decide
  rw [Int32.toInt_add, e]
  exact Int.bmod_eq_of_le (by omega) (by omega)
theorem y_ofNat {x : Int32} {n : Nat} (h : x.toInt = n) (hn : n < 2147483648) : x = Int32.ofNat n ∧ x.toNatClampNeg = n := by
  have hc : x.toNatClampNeg = x.toInt.toNat := rfl
  refine ⟨Int32.toInt_inj.mp ?_, by omega⟩
  rw [h, Int32.toInt_ofNat_of_lt (by omega)]
/-- weights: none below 0, all together not above 10 to the 8th -/
def y_wl (h : aH) (wl : List Int64) : Prop := w_a h 163 = some (1, .inr (.inl wl)) ∧ (∀ x ∈ wl, 0 ≤ x.toInt) ∧ y_tot wl 1024 ≤ 100000000
theorem y_wl_fr {h H : aH} {wl : List Int64} {fs as : List Nat} (hf : y_fr h H fs as) (hn : 163 ∉ as) (hw : y_wl h wl) : y_wl H wl := ⟨(hf.2.2 _ hn).trans hw.1, hw.2⟩
section WG
variable {X : aX} {C S d : Nat} {K0 : Option Value → aH → Nat → Nat → Prop}
theorem y_weighs_loop {a b nd : Int32} {wl : List Int64} : ∀ (n : Nat) (h : aH) (s : Int64) (w : Int32) (k : Nat), w_hr z_D h → w_f h 19591 = some (.int nd) → y_wl h wl → w.toInt = k → k + n = y_ways nd → s.toInt = y_ws wl a b k →
    (∀ (r : Int64) (H : aH), y_fr h H [] [] → r.toInt = y_ws wl a b (y_ways nd) → K0 (some (.long r)) H C S) →
    aOK s_P X (d + 1) a_m193 5 [some (.ref 155), some (.int a), some (.int b), some (.long s), none, some (.int w)] [] h C S K0 := by
  intro n
  induction n with
  | zero =>
    intro h s w k hr hn hw hk hkn hs hK
    refine w_go z_hl [5] [] 30 hr ?_
    intro x hx b1 b2
    have e : x = nd := by
      have := hx.symm.trans hn
      cases this
      rfl
    subst e
    obtain ⟨ea, l1, l2⟩ := y_all b1 b2
    refine ⟨fun q => ?_, fun q => ?_⟩
    · intro H hH
      exact hK s H (y_fr_rel hH (w_cons (Or.inr hn) w_nil) w_nil) (by rw [hs, ← hkn]; rfl)
    · have q2 : ¬ ((Int32.ofInt 1 <<< (x &&& 31) - Int32.ofInt 1).toInt < w.toInt) := y_cif q
      omega
  | succ n ih =>
    intro h s w k hr hn hw hk hkn hs hK
    refine w_go z_hl [5] [] 40 hr ?_
    intro x hx b1 b2
    have e : x = nd := by
      have := hx.symm.trans hn
      cases this
      rfl
    subst e
    obtain ⟨ea, l1, l2⟩ := y_all b1 b2
    obtain ⟨ew, ec⟩ := y_ofNat hk (by omega)
    have hws := y_ws_b hw.2.1 (a := a) (b := b) k
    have hwt := y_tot_m hw.2.1 (show k + 1 ≤ 1024 by omega)
    have hg := y_getD hw.2.1 k
    have hinc : (w + Int32.ofInt 1).toInt = ((k + 1 : Nat) : Int) := by rw [y_inc (by omega), hk]; rfl
    have ht1 : y_tot wl (k + 1) = y_tot wl k + (wl.getD k 0).toInt := rfl
    have ht := hw.2.2
    have next : ∀ {H : aH} {v : Int64}, y_fr h H [] [] → v.toInt = (if y_sel a b w then (wl.getD k 0).toInt else 0) → aOK s_P X (d + 1) a_m193 5 [some (.ref 155), some (.int a), some (.int b), some (.long (s + v)), none, some (.int (w + Int32.ofInt 1))] [] H C S K0 := by
      intro H v hf hv
      have hv2 : 0 ≤ v.toInt ∧ v.toInt ≤ (wl.getD k 0).toInt := by
        rw [hv]
        split <;> omega
      refine ih H (s + v) (w + Int32.ofInt 1) (k + 1) hf.1 ((hf.2.1 _ (fun q => by cases q)).trans hn) (y_wl_fr hf (fun q => by cases q) hw) hinc (by omega) ?_ (fun r H' hf' hr' => hK r H' (y_fr_tr hf hf' (fun _ q => q) (fun _ q => q)) hr')
      rw [y_add (by omega) (by omega), hs, hv, ew]
      rfl
    refine ⟨fun q => ?_, fun q => ?_⟩
    · have q2 : (Int32.ofInt 1 <<< (x &&& 31) - Int32.ofInt 1).toInt < w.toInt := (y_ci .gt _ _).mp q
      omega
    · have hno : ∀ {H : aH}, w_rel z_D h [(19591, .int x)] [] H → y_sel a b w = false → aOK s_P X (d + 1) a_m193 5 [some (.ref 155), some (.int a), some (.int b), some (.long (s + Int64.ofNat 0)), none, some (.int (w + Int32.ofInt 1))] [] H C S K0 := fun hH he => next (y_fr_rel hH (w_cons (Or.inr hn) w_nil) w_nil) (by rw [he]; rfl)
      refine ⟨fun q1 => ?_, fun q1 => ⟨fun q2 => ?_, fun q2 => ?_⟩⟩
      · intro H hH
        refine hno hH ?_
        have : (w &&& a).toInt ≠ a.toInt := (y_ci .ne _ _).mp q1
        unfold y_sel
        rw [decide_eq_false (fun e => this (by rw [e])), Bool.false_and]
      · intro H hH
        refine hno hH ?_
        have : (w &&& b).toInt ≠ (0 : Int32).toInt := (y_ci .ne _ _).mp q2
        unfold y_sel
        rw [decide_eq_false (p := w &&& b = 0) (fun e => this (by rw [e])), Bool.and_false]
      · refine ⟨⟨by omega, by omega⟩, fun l hl hlen hbb => ?_⟩
        have el : l = wl := by
          have := hl.symm.trans hw.1
          cases this
          rfl
        subst el
        intro H hH
        refine next (v := l.getD w.toNatClampNeg 0) (y_fr_rel hH (w_cons (Or.inr hn) w_nil) (w_cons (Or.inr hw.1) w_nil)) ?_
        have e1 : ¬ ((w &&& a).toInt ≠ a.toInt) := y_cif q1
        have e2 : ¬ ((w &&& b).toInt ≠ (0 : Int32).toInt) := y_cif q2
        have e3 : y_sel a b w = true := by
          unfold y_sel
          rw [decide_eq_true (Int32.toInt_inj.mp (Decidable.not_not.mp e1)), decide_eq_true (p := w &&& b = 0) (Int32.toInt_inj.mp (Decidable.not_not.mp e2))]
          rfl
        rw [e3, ec]
        rfl
theorem y_weighs {h : aH} {a b nd : Int32} {wl : List Int64} (hr : w_hr z_D h) (hn : w_f h 19591 = some (.int nd)) (hw : y_wl h wl) (hK : ∀ (r : Int64) (H : aH), y_fr h H [] [] → r.toInt = y_ws wl a b (y_ways nd) → K0 (some (.long r)) H C S) : aOK s_P X (d + 1) a_m193 0 [some (.ref 155), some (.int a), some (.int b), none, none, none] [] h C S K0 := by
  refine w_go z_hl [5] [] 30 hr ?_
  intro H hH
  have hf : y_fr h H [] [] := y_fr_rel hH w_nil w_nil
  exact y_weighs_loop (y_ways nd) H (Int64.ofNat 0) (Int32.ofInt 0) 0 hf.1 ((hf.2.1 _ (fun q => by cases q)).trans hn) (y_wl_fr hf (fun q => by cases q) hw) rfl (Nat.zero_add _) rfl (fun r H' hf' hr' => hK r H' (y_fr_tr hf hf' (fun _ q => q) (fun _ q => q)) hr')
end WG
