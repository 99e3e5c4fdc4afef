/-! ===== v3: small methods of the reference ===== -/
def y_ush (x : Int32) (n : Int32) : Int32 := (x.toUInt32 >>> (n.toUInt32 &&& Int32.toUInt32 31)).toInt32
def y_bc1 (i : Int32) : Int32 := i - (y_ush i (Int32.ofInt 1) &&& Int32.ofInt 1431655765)
def y_bc2 (i : Int32) : Int32 := (i &&& Int32.ofInt 858993459) + (y_ush i (Int32.ofInt 2) &&& Int32.ofInt 858993459)
def y_bc3 (i : Int32) : Int32 := (i + y_ush i (Int32.ofInt 4)) &&& Int32.ofInt 252645135
def y_bc4 (i : Int32) : Int32 := i + y_ush i (Int8.ofInt 8).toInt32
def y_bc5 (i : Int32) : Int32 := i + y_ush i (Int8.ofInt 16).toInt32
def y_bc (i : Int32) : Int32 := y_bc5 (y_bc4 (y_bc3 (y_bc2 (y_bc1 i)))) &&& (Int8.ofInt 63).toInt32
set_option maxRecDepth 100000 in
theorem y_bc0 : (List.range 1024).all (fun b => decide ((y_bc (Int32.ofNat b)).toInt = (y_pl b 10 : Int))) = true := by decide +kernel
theorem y_bcN {x : Int32} {b : Nat} (hx : x.toInt = b) (hb : b < 1024) : (y_bc x).toInt = (y_pl b 10 : Int) := by
  have := of_decide_eq_true (List.all_eq_true.mp y_bc0 b (List.mem_range.mpr hb))
  rw [(y_ofNat hx (by omega)).1]
  exact this
theorem y_dec {p : Prop} [Decidable p] {b : Bool} (h : b = decide p) : (b = true → p) ∧ (b = false → ¬ p) := by
  subst h
  exact ⟨fun q => of_decide_eq_true q, fun q => of_decide_eq_false q⟩
section WG
variable {X : aX} {C S d : Nat} {K0 : Option Value → aH → Nat → Nat → Prop} {h : aH}
theorem y_bitCount (hr : w_hr z_D h) {x : Int32} (hk : ∀ H, w_eq h H → K0 (some (.int (y_bc x))) H C S) : aOK s_P X d a_m15 0 [some (.int x)] [] h C S K0 := by
  refine w_go z_hl [] [] 60 hr ?_
  intro H hH
  exact hk H hH
theorem y_in (hr : w_hr z_D h) {v lo hi : Int64} (hk : ∀ H, w_eq h H → K0 (some (.int (y_01 (decide (lo.toInt ≤ v.toInt ∧ v.toInt ≤ hi.toInt))))) H C S) : aOK s_P X d a_m176 0 [some (.long v), none, some (.long lo), none, some (.long hi), none] [] h C S K0 := by
  refine w_go z_hl [] [] 30 hr ?_
  refine ⟨fun q => ⟨by decide, fun H hH => ?_⟩, fun q => ⟨fun q2 => ⟨by decide, fun H hH => ?_⟩, fun q2 => ⟨by decide, fun H hH => ?_⟩⟩⟩
  · have h1 : v.toInt < lo.toInt := (y_cl .lt _ _).mp q
    have := hk H hH
    rw [decide_eq_false (by omega)] at this
    exact this
  · have h1 : hi.toInt < v.toInt := (y_cl .gt _ _).mp q2
    have := hk H hH
    rw [decide_eq_false (by omega)] at this
    exact this
  · have h1 : ¬ (v.toInt < lo.toInt) := y_clf q
    have h2 : ¬ (hi.toInt < v.toInt) := y_clf q2
    have := hk H hH
    rw [decide_eq_true (by omega)] at this
    exact this
theorem y_sub1 {x : Int32} (h0 : 0 ≤ x.toInt) : (x - Int32.ofInt 1).toInt = x.toInt - 1 := by
  have h3 := x.toInt_lt
  have e : (Int32.ofInt 1).toInt = 1 := by decide
  rw [Int32.toInt_sub, e]
  exact Int.bmod_eq_of_le (by omega) (by omega)
theorem y_isNode (hr : w_hr z_D h) {v nd : Int32} (hn : w_f h 19591 = some (.int nd)) (hk : ∀ H, y_fr h H [] [] → K0 (some (.int (y_01 (decide (0 ≤ v.toInt ∧ v.toInt < nd.toInt))))) H C S) : aOK s_P X (d + 1) a_m178 0 [some (.ref 155), some (.int v)] [] h C S K0 := by
  refine w_go z_hl [] [176] 30 hr ?_
  intro x hx b1 b2
  have e : x = nd := by
    have := hx.symm.trans hn
    cases this
    rfl
  subst e
  intro H hH
  refine y_in hH.1 (fun H1 h1 => ?_)
  refine ⟨fun n e => (by cases e), ?_⟩
  have hf : y_fr h H1 [] [] := y_fr_tr (y_fr_rel hH (w_cons (Or.inr hn) w_nil) w_nil) (y_fr_rel h1 w_nil w_nil) (fun _ q => q) (fun _ q => q)
  have ed : decide ((Int64.ofNat 0).toInt ≤ v.toInt64.toInt ∧ v.toInt64.toInt ≤ (x - Int32.ofInt 1).toInt64.toInt) = decide (0 ≤ v.toInt ∧ v.toInt < x.toInt) := by
    rw [y_i2l, y_i2l, y_sub1 b1, show (Int64.ofNat 0).toInt = 0 from rfl]
    exact decide_eq_decide.mpr (by omega)
  refine w_go z_hl [] [176] 30 hf.1 ?_
  refine ⟨?_, fun H2 h2 => ?_⟩
  · show 0 ≤ (y_01 (decide ((Int64.ofNat 0).toInt ≤ v.toInt64.toInt ∧ v.toInt64.toInt ≤ (x - Int32.ofInt 1).toInt64.toInt))).toInt ∧ (y_01 (decide ((Int64.ofNat 0).toInt ≤ v.toInt64.toInt ∧ v.toInt64.toInt ≤ (x - Int32.ofInt 1).toInt64.toInt))).toInt ≤ 1
    rw [ed]
    cases (decide (0 ≤ v.toInt ∧ v.toInt < x.toInt)) <;> decide
  · have := hk H2 (y_fr_tr hf (y_fr_rel h2 w_nil w_nil) (fun _ q => q) (fun _ q => q))
    rw [← ed] at this
    exact this
theorem y_isSet (hr : w_hr z_D h) {v nd : Int32} (hn : w_f h 19591 = some (.int nd)) (h0 : 0 ≤ nd.toInt) (h10 : nd.toInt ≤ 10) (hk : ∀ H, y_fr h H [] [] → K0 (some (.int (y_01 (decide (0 ≤ v.toInt ∧ v.toInt < y_ways nd))))) H C S) : aOK s_P X (d + 1) a_m174 0 [some (.ref 155), some (.int v)] [] h C S K0 := by
  refine w_go z_hl [] [176] 30 hr ?_
  intro x hx b1 b2
  have e : x = nd := by
    have := hx.symm.trans hn
    cases this
    rfl
  subst e
  intro H hH
  refine y_in hH.1 (fun H1 h1 => ?_)
  refine ⟨fun n e => (by cases e), ?_⟩
  have hf : y_fr h H1 [] [] := y_fr_tr (y_fr_rel hH (w_cons (Or.inr hn) w_nil) w_nil) (y_fr_rel h1 w_nil w_nil) (fun _ q => q) (fun _ q => q)
  obtain ⟨ea, l1, l2⟩ := y_all b1 b2
  have ed : decide ((Int64.ofNat 0).toInt ≤ v.toInt64.toInt ∧ v.toInt64.toInt ≤ (Int32.ofInt 1 <<< (x &&& 31) - Int32.ofInt 1).toInt64.toInt) = decide (0 ≤ v.toInt ∧ v.toInt < y_ways x) := by
    rw [y_i2l, y_i2l, ea, show (Int64.ofNat 0).toInt = 0 from rfl]
    exact decide_eq_decide.mpr (by omega)
  refine w_go z_hl [] [176] 30 hf.1 ?_
  refine ⟨?_, fun H2 h2 => ?_⟩
  · show 0 ≤ (y_01 (decide ((Int64.ofNat 0).toInt ≤ v.toInt64.toInt ∧ v.toInt64.toInt ≤ (Int32.ofInt 1 <<< (x &&& 31) - Int32.ofInt 1).toInt64.toInt))).toInt ∧ (y_01 (decide ((Int64.ofNat 0).toInt ≤ v.toInt64.toInt ∧ v.toInt64.toInt ≤ (Int32.ofInt 1 <<< (x &&& 31) - Int32.ofInt 1).toInt64.toInt))).toInt ≤ 1
    rw [ed]
    cases (decide (0 ≤ v.toInt ∧ v.toInt < y_ways x)) <;> decide
  · have := hk H2 (y_fr_tr hf (y_fr_rel h2 w_nil w_nil) (fun _ q => q) (fun _ q => q))
    rw [← ed] at this
    exact this
theorem y_shl1 {p : Int32} {n : Nat} (hp : p.toInt = n) (hn : n ≤ 3) : (Int32.ofInt 1 <<< (p &&& 31)).toInt = ((2 ^ n : Nat) : Int) := by
  have e := (y_ofNat hp (by omega)).1
  subst e
  have : n = 0 ∨ n = 1 ∨ n = 2 ∨ n = 3 := by omega
  rcases this with rfl | rfl | rfl | rfl <;> decide
theorem y_cases (hr : w_hr z_D h) {v : Int32} {vv : Nat} {le : List Int32} (hv : v.toInt = vv) (hv2 : vv < 10) (hl : w_a h 156 = some (0, .inl le)) (hp : y_pl (y_Nn le vv) 10 ≤ 3) (hk : ∀ (r : Int32) H, y_fr h H [] [] → r.toInt = ((2 ^ y_pl (y_Nn le vv) 10 : Nat) : Int) → K0 (some (.int r)) H C S) : aOK s_P X (d + 1) a_m179 0 [some (.ref 155), some (.int v)] [] h C S K0 := by
  refine w_go z_hl [] [15] 30 hr ?_
  refine ⟨⟨by omega, by omega⟩, fun l hl1 hlen hbb => ?_⟩
  have el : l = le := by
    have := hl1.symm.trans hl
    cases this
    rfl
  subst el
  have hvc := (y_ofNat hv (by omega)).2
  have hm := hbb _ (z_gd (0 : Int32) (show vv < l.length by omega))
  have hlb : (l.getD v.toNatClampNeg 0).toInt = (y_Nn l vv : Nat) := by
    rw [hvc]
    unfold y_Nn
    omega
  have hlb2 : y_Nn l vv < 1024 := by
    unfold y_Nn
    omega
  have hbc := y_bcN hlb hlb2
  intro H hH
  refine y_bitCount hH.1 (fun H1 h1 => ?_)
  refine ⟨fun n e => (by cases e), ?_⟩
  have hf : y_fr h H1 [] [] := y_fr_tr (y_fr_rel hH w_nil (w_cons (Or.inr hl) w_nil)) (y_fr_rel h1 w_nil w_nil) (fun _ q => q) (fun _ q => q)
  refine w_go z_hl [] [] 30 hf.1 ?_
  intro H2 h2
  exact hk _ H2 (y_fr_tr hf (y_fr_rel h2 w_nil w_nil) (fun _ q => q) (fun _ q => q)) (y_shl1 hbc hp)
end WG
