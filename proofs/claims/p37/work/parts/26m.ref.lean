section PT26a
/-! ===== v3: small methods of the reference ===== -/
def y_ush (x : Int32) (n : Int32) : Int32 := (x.toUInt32 >>> (n.toUInt32 &&& Int32.toUInt32 31)).toInt32
def y_bc1 (i : Int32) : Int32 := i - (y_ush i (Int32.ofInt 1) &&& Int32.ofInt 1431655765)
def y_bc2 (i : Int32) : Int32 := (i &&& Int32.ofInt 858993459) + (y_ush i (Int32.ofInt 2) &&& Int32.ofInt 858993459)
def y_bc3 (i : Int32) : Int32 := (i + y_ush i (Int32.ofInt 4)) &&& Int32.ofInt 252645135
def y_bc4 (i : Int32) : Int32 := i + y_ush i (Int8.ofInt 8).toInt32
def y_bc5 (i : Int32) : Int32 := i + y_ush i (Int8.ofInt 16).toInt32
def y_bc (i : Int32) : Int32 := y_bc5 (y_bc4 (y_bc3 (y_bc2 (y_bc1 i)))) &&& (Int8.ofInt 63).toInt32
set_option maxRecDepth 100000 in
theorem y_bc0 : (List.range 1024).all (fun b => decide ((y_bc (Int32.ofNat b)).toInt = (y_pl b 10 : Int))) = true := by decide +kernel
theorem y_bcN {x : Int32} {b : Nat} (hx : x.toInt = b) (hb : b < 1024) : (y_bc x).toInt = (y_pl b 10 : Int) := by
  have := of_decide_eq_true (List.all_eq_true.mp y_bc0 b (List.mem_range.mpr hb))
  rw [(y_ofNat hx (by omega)).1]
  exact this
theorem y_dec {p : Prop} [Decidable p] {b : Bool} (h : b = decide p) : (b = true → p) ∧ (b = false → ¬ p) := by
  subst h
  exact ⟨fun q => of_decide_eq_true q, fun q => of_decide_eq_false q⟩
section WG
variable {X : aX} {C S d : Nat} {K0 : Option Value → aH → Nat → Nat → Prop} {h : aH}
theorem y_bitCount (hr : w_hr z_D h) {x : Int32} (hk : ∀ H, w_eq h H → K0 (some (.int (y_bc x))) H C S) : aOK s_P X d a_m15 0 [some (.int x)] [] h C S K0 := by
  refine w_go z_hl [] [] 60 hr ?_
  intro H hH
  exact hk H hH
theorem y_in (hr : w_hr z_D h) {v lo hi : Int64} (hk : ∀ H, w_eq h H → K0 (some (.int (y_01 (decide (lo.toInt ≤ v.toInt ∧ v.toInt ≤ hi.toInt))))) H C S) : aOK s_P X d a_m176 0 [some (.long v), none, some (.long lo), none, some (.long hi), none] [] h C S K0 := by
  refine w_go z_hl [] [] 30 hr ?_
  refine ⟨fun q => ⟨by decide, fun H hH => ?_⟩, fun q => ⟨fun q2 => ⟨by decide, fun H hH => ?_⟩, fun q2 => ⟨by decide, fun H hH => ?_⟩⟩⟩
  · have h1 : v.toInt < lo.toInt := (y_cl .lt _ _).mp q
    have := hk H hH
    rw [decide_eq_false (by omega)] at this
    exact this
  · have h1 : hi.toInt < v.toInt := (y_cl .gt _ _).mp q2
    have := hk H hH
    rw [decide_eq_false (by omega)] at this
    exact this
  · have h1 : ¬ (v.toInt < lo.toInt) := y_clf q
    have h2 : ¬ (hi.toInt < v.toInt) := y_clf q2
    have := hk H hH
    rw [decide_eq_true (by omega)] at this
    exact this
theorem y_sub1 {x : Int32} (h0 : 0 ≤ x.toInt) : (x - Int32.ofInt 1).toInt = x.toInt - 1 := by
  have h3 := x.toInt_lt
  have e : (Int32.ofInt 1).toInt = 1 := by decide
  rw [Int32.toInt_sub, e]
  exact Int.bmod_eq_of_le (by omega) (by omega)
theorem y_isNode (hr : w_hr z_D h) {v nd : Int32} (hn : w_f h 19591 = some (.int nd)) (hk : ∀ H, y_fr h H [] [] → K0 (some (.int (y_01 (decide (0 ≤ v.toInt ∧ v.toInt < nd.toInt))))) H C S) : aOK s_P X (d + 1) a_m178 0 [some (.ref 155), some (.int v)] [] h C S K0 := by
  refine w_go z_hl [] [176] 30 hr ?_
  intro x hx b1 b2
  have e : x = nd := by
    have := hx.symm.trans hn
    cases this
    rfl
  subst e
  intro H hH
  refine y_in hH.1 (fun H1 h1 => ?_)
  refine ⟨fun n e => (by cases e), ?_⟩
  have hf : y_fr h H1 [] [] := y_fr_tr (y_fr_rel hH (w_cons (Or.inr hn) w_nil) w_nil) (y_fr_rel h1 w_nil w_nil) (fun _ q => q) (fun _ q => q)
  have ed : decide ((Int64.ofNat 0).toInt ≤ v.toInt64.toInt ∧ v.toInt64.toInt ≤ (x - Int32.ofInt 1).toInt64.toInt) = decide (0 ≤ v.toInt ∧ v.toInt < x.toInt) := by
    rw [y_i2l, y_i2l, y_sub1 b1, show (Int64.ofNat 0).toInt = 0 from rfl]
    exact decide_eq_decide.mpr (by omega)
  refine w_go z_hl [] [176] 30 hf.1 ?_
  refine ⟨?_, fun H2 h2 => ?_⟩
  · show 0 ≤ (y_01 (decide ((Int64.ofNat 0).toInt ≤ v.toInt64.toInt ∧ v.toInt64.toInt ≤ (x - Int32.ofInt 1).toInt64.toInt))).toInt ∧ (y_01 (decide ((Int64.ofNat 0).toInt ≤ v.toInt64.toInt ∧ v.toInt64.toInt ≤ (x - Int32.ofInt 1).toInt64.toInt))).toInt ≤ 1
    rw [ed]
    cases (decide (0 ≤ v.toInt ∧ v.toInt < x.toInt)) <;> decide
  · have := hk H2 (y_fr_tr hf (y_fr_rel h2 w_nil w_nil) (fun _ q => q) (fun _ q => q))
    rw [← ed] at this
    exact this
theorem y_isSet (hr : w_hr z_D h) {v nd : Int32} (hn : w_f h 19591 = some (.int nd)) (h0 : 0 ≤ nd.toInt) (h10 : nd.toInt ≤ 10) (hk : ∀ H, y_fr h H [] [] → K0 (some (.int (y_01 (decide (0 ≤ v.toInt ∧ v.toInt < y_ways nd))))) H C S) : aOK s_P X (d + 1) a_m174 0 [some (.ref 155), some (.int v)] [] h C S K0 := by
  refine w_go z_hl [] [176] 30 hr ?_
  intro x hx b1 b2
  have e : x = nd := by
    have := hx.symm.trans hn
    cases this
    rfl
  subst e
  intro H hH
  refine y_in hH.1 (fun H1 h1 => ?_)
  refine ⟨fun n e => (by cases e), ?_⟩
  have hf : y_fr h H1 [] [] := y_fr_tr (y_fr_rel hH (w_cons (Or.inr hn) w_nil) w_nil) (y_fr_rel h1 w_nil w_nil) (fun _ q => q) (fun _ q => q)
  obtain ⟨ea, l1, l2⟩ := y_all b1 b2
  have ed : decide ((Int64.ofNat 0).toInt ≤ v.toInt64.toInt ∧ v.toInt64.toInt ≤ (Int32.ofInt 1 <<< (x &&& 31) - Int32.ofInt 1).toInt64.toInt) = decide (0 ≤ v.toInt ∧ v.toInt < y_ways x) := by
    rw [y_i2l, y_i2l, ea, show (Int64.ofNat 0).toInt = 0 from rfl]
    exact decide_eq_decide.mpr (by omega)
  refine w_go z_hl [] [176] 30 hf.1 ?_
  refine ⟨?_, fun H2 h2 => ?_⟩
  · show 0 ≤ (y_01 (decide ((Int64.ofNat 0).toInt ≤ v.toInt64.toInt ∧ v.toInt64.toInt ≤ (Int32.ofInt 1 <<< (x &&& 31) - Int32.ofInt 1).toInt64.toInt))).toInt ∧ (y_01 (decide ((Int64.ofNat 0).toInt ≤ v.toInt64.toInt ∧ v.toInt64.toInt ≤ (Int32.ofInt 1 <<< (x &&& 31) - Int32.ofInt 1).toInt64.toInt))).toInt ≤ 1
    rw [ed]
    cases (decide (0 ≤ v.toInt ∧ v.toInt < y_ways x)) <;> decide
  · have := hk H2 (y_fr_tr hf (y_fr_rel h2 w_nil w_nil) (fun _ q => q) (fun _ q => q))
    rw [← ed] at this
    exact this
theorem y_shl1 {p : Int32} {n : Nat} (hp : p.toInt = n) (hn : n ≤ 3) : (Int32.ofInt 1 <<< (p &&& 31)).toInt = ((2 ^ n : Nat) : Int) := by
  have e := (y_ofNat hp (by omega)).1
  subst e
  have : n = 0 ∨ n = 1 ∨ n = 2 ∨ n = 3 := by omega
  rcases this with rfl | rfl | rfl | rfl <;> decide
theorem y_cases (hr : w_hr z_D h) {v : Int32} {vv : Nat} {le : List Int32} (hv : v.toInt = vv) (hv2 : vv < 10) (hl : w_a h 156 = some (0, .inl le)) (hp : y_pl (y_Nn le vv) 10 ≤ 3) (hk : ∀ (r : Int32) H, y_fr h H [] [] → r.toInt = ((2 ^ y_pl (y_Nn le vv) 10 : Nat) : Int) → K0 (some (.int r)) H C S) : aOK s_P X (d + 1) a_m179 0 [some (.ref 155), some (.int v)] [] h C S K0 := by
  refine w_go z_hl [] [15] 30 hr ?_
  refine ⟨⟨by omega, by omega⟩, fun l hl1 hlen hbb => ?_⟩
  have el : l = le := by
    have := hl1.symm.trans hl
    cases this
    rfl
  subst el
  have hvc := (y_ofNat hv (by omega)).2
  have hm := hbb _ (z_gd (0 : Int32) (show vv < l.length by omega))
  have hlb : (l.getD v.toNatClampNeg 0).toInt = (y_Nn l vv : Nat) := by
    rw [hvc]
    unfold y_Nn
    omega
  have hlb2 : y_Nn l vv < 1024 := by
    unfold y_Nn
    omega
  have hbc := y_bcN hlb hlb2
  intro H hH
  refine y_bitCount hH.1 (fun H1 h1 => ?_)
  refine ⟨fun n e => (by cases e), ?_⟩
  have hf : y_fr h H1 [] [] := y_fr_tr (y_fr_rel hH w_nil (w_cons (Or.inr hl) w_nil)) (y_fr_rel h1 w_nil w_nil) (fun _ q => q) (fun _ q => q)
  refine w_go z_hl [] [] 30 hf.1 ?_
  intro H2 h2
  exact hk _ H2 (y_fr_tr hf (y_fr_rel h2 w_nil w_nil) (fun _ q => q) (fun _ q => q)) (y_shl1 hbc hp)
end WG
end PT26a
section PT26b
/-! ===== v3: what is told of the reference's heap ===== -/
/-- the net: leanings, depths, tables -/
def y_nc (nd : Int32) (le de ta : List Int32) : Prop := (∀ v, v < 10 → y_pl (y_Nn le v) 10 ≤ 3 ∧ y_Nn le v < 2 ^ v) ∧ (∀ i, i < 80 → y_N ta i ≤ y_N de (i / 8)) ∧ (∀ v : Nat, (v : Int) < nd.toInt → 1 ≤ y_N de v) ∧ y_pr (y_N de) nd.toInt.toNat ≤ 100000000 ∧ ∀ v : Nat, nd.toInt ≤ v → y_N de v = 0
def j_net0 (a : Option Value) (b c e : Option (Nat × aA)) : Prop := ∃ nd le de ta, a = some (.int nd) ∧ b = some (0, .inl le) ∧ c = some (0, .inl de) ∧ e = some (0, .inl ta) ∧ y_nc nd le de ta
def j_net (H : aH) : Prop := j_net0 (w_f H 19591) (w_a H 156) (w_a H 157) (w_a H 158)
/-- the product of depths -/
def j_dp0 (a b : Option Value) (c : Option (Nat × aA)) : Prop := ∃ nd dp de, a = some (.int nd) ∧ b = some (.long dp) ∧ c = some (0, .inl de) ∧ dp.toInt = y_pr (y_N de) nd.toInt.toNat
def j_dp (H : aH) : Prop := j_dp0 (w_f H 19591) (w_f H 19600) (w_a H 157)
/-- tables that lie by -/
def j_old0 (c a1 a2 a3 a4 a5 : Option (Nat × aA)) : Prop := ∃ de to kt sn sl sh, c = some (0, .inl de) ∧ a1 = some (0, .inl to) ∧ a2 = some (0, .inl kt) ∧ a3 = some (0, .inl sn) ∧ a4 = some (0, .inl sl) ∧ a5 = some (0, .inl sh) ∧ (∀ i, i < 80 → y_N to i ≤ y_N de (i / 8)) ∧ (∀ i, i < 240 → y_N kt i ≤ y_N de (i % 80 / 8)) ∧ ∀ k, k < 6 → y_N sl k ≤ y_N de (y_Nn sn k) ∧ y_N sh k ≤ y_N de (y_Nn sn k)
def j_old (H : aH) : Prop := j_old0 (w_a H 157) (w_a H 176) (w_a H 194) (w_a H 172) (w_a H 174) (w_a H 175)
/-- weights -/
def j_w0 (a : Option Value) (b : Option (Nat × aA)) : Prop := ∃ nd wl, a = some (.int nd) ∧ b = some (1, .inr (.inl wl)) ∧ (∀ x ∈ wl, 0 ≤ x.toInt) ∧ y_tot wl 1024 ≤ 100000000 ∧ ∀ i, y_ways nd ≤ i → wl.getD i 0 = 0
def j_w (H : aH) : Prop := j_w0 (w_f H 19591) (w_a H 163)
/-- what was seen, in its order -/
def y_ord (n m : Nat) (so sa : Nat → Int) : Prop := m ≤ n ∧ (∀ k, k < m → 0 ≤ so k ∧ so k < n ∧ 0 ≤ sa (so k).toNat) ∧ (∀ i j, i < m → j < m → so i = so j → i = j) ∧ ∀ v, v < n → 0 ≤ sa v → ∃ k, k < m ∧ so k = v
def j_seen0 (a b : Option Value) (c e : Option (Nat × aA)) : Prop := ∃ nd sm so sa, a = some (.int nd) ∧ b = some (.int sm) ∧ c = some (0, .inl so) ∧ e = some (0, .inl sa) ∧ y_ord nd.toInt.toNat sm.toInt.toNat (y_N so) (y_N sa)
def j_seen (H : aH) : Prop := j_seen0 (w_f H 19591) (w_f H 19598) (w_a H 162) (w_a H 160)
def j_kept0 (a : Option Value) (b c e f : Option (Nat × aA)) : Prop := ∃ nd kn km ko ks, a = some (.int nd) ∧ b = some (0, .inl kn) ∧ c = some (0, .inl km) ∧ e = some (0, .inl ko) ∧ f = some (0, .inl ks) ∧ ∀ i, i < 3 → y_N kn i ≤ nd.toInt ∧ y_ord (y_Nn kn i) (y_Nn km i) (fun k => y_N ko (10 * i + k)) (fun v => y_N ks (10 * i + v))
def j_kept (H : aH) : Prop := j_kept0 (w_f H 19591) (w_a H 187) (w_a H 193) (w_a H 192) (w_a H 190)
/-- lands have people -/
def j_land0 (a : Option Value) (b : Option (Nat × aA)) : Prop := ∃ ln pe, a = some (.int ln) ∧ b = some (0, .inl pe) ∧ ∀ k : Nat, (k : Int) < ln.toInt → 1 ≤ y_N pe k
def j_land (H : aH) : Prop := j_land0 (w_f H 19640) (w_a H 182)
def y_J (H : aH) : Prop := j_net H ∧ j_dp H ∧ j_old H ∧ j_w H ∧ j_seen H ∧ j_kept H ∧ j_land H
section YJ
variable {h H : aH}
theorem j_net_e (e1 : w_f H 19591 = w_f h 19591) (e2 : w_a H 156 = w_a h 156) (e3 : w_a H 157 = w_a h 157) (e4 : w_a H 158 = w_a h 158) (q : j_net h) : j_net H := by unfold j_net; rw [e1, e2, e3, e4]; exact q
theorem j_dp_e (e1 : w_f H 19591 = w_f h 19591) (e2 : w_f H 19600 = w_f h 19600) (e3 : w_a H 157 = w_a h 157) (q : j_dp h) : j_dp H := by unfold j_dp; rw [e1, e2, e3]; exact q
theorem j_old_e (e1 : w_a H 157 = w_a h 157) (e2 : w_a H 176 = w_a h 176) (e3 : w_a H 194 = w_a h 194) (e4 : w_a H 172 = w_a h 172) (e5 : w_a H 174 = w_a h 174) (e6 : w_a H 175 = w_a h 175) (q : j_old h) : j_old H := by unfold j_old; rw [e1, e2, e3, e4, e5, e6]; exact q
theorem j_w_e (e1 : w_f H 19591 = w_f h 19591) (e2 : w_a H 163 = w_a h 163) (q : j_w h) : j_w H := by unfold j_w; rw [e1, e2]; exact q
theorem j_seen_e (e1 : w_f H 19591 = w_f h 19591) (e2 : w_f H 19598 = w_f h 19598) (e3 : w_a H 162 = w_a h 162) (e4 : w_a H 160 = w_a h 160) (q : j_seen h) : j_seen H := by unfold j_seen; rw [e1, e2, e3, e4]; exact q
theorem j_kept_e (e1 : w_f H 19591 = w_f h 19591) (e2 : w_a H 187 = w_a h 187) (e3 : w_a H 193 = w_a h 193) (e4 : w_a H 192 = w_a h 192) (e5 : w_a H 190 = w_a h 190) (q : j_kept h) : j_kept H := by unfold j_kept; rw [e1, e2, e3, e4, e5]; exact q
theorem j_land_e (e1 : w_f H 19640 = w_f h 19640) (e2 : w_a H 182 = w_a h 182) (q : j_land h) : j_land H := by unfold j_land; rw [e1, e2]; exact q
theorem y_J_x : y_jx y_J := by
  intro H H' hf ha q
  have f : ∀ k, z_jc.elem k = true → w_f H' k = w_f H k := fun k hk => hf k (List.elem_iff.mp hk)
  have a : ∀ o, z_jc.elem (o * 128) = true → w_a H' o = w_a H o := fun o ho => ha o (List.elem_iff.mp ho)
  obtain ⟨q1, q2, q3, q4, q5, q6, q7⟩ := q
  exact ⟨j_net_e (f _ rfl) (a _ rfl) (a _ rfl) (a _ rfl) q1, j_dp_e (f _ rfl) (f _ rfl) (a _ rfl) q2, j_old_e (a _ rfl) (a _ rfl) (a _ rfl) (a _ rfl) (a _ rfl) (a _ rfl) q3, j_w_e (f _ rfl) (a _ rfl) q4, j_seen_e (f _ rfl) (f _ rfl) (a _ rfl) (a _ rfl) q5, j_kept_e (f _ rfl) (a _ rfl) (a _ rfl) (a _ rfl) (a _ rfl) q6, j_land_e (f _ rfl) (a _ rfl) q7⟩
/-- nothing that is told rests on what changed -/
theorem y_J_fr {fs as : List Nat} (hf : y_fr h H fs as) (h1 : fs.all (fun x => !z_jc.elem x) = true) (h2 : as.all (fun x => !z_jc.elem (x * 128)) = true) (q : y_J h) : y_J H := y_jfr y_J_x hf h1 h2 q
theorem y_fe {fs as : List Nat} (hf : y_fr h H fs as) {k : Nat} (hk : fs.elem k = false) : w_f H k = w_f h k := hf.2.1 k (fun q => by rw [List.elem_iff.mpr q] at hk; cases hk)
theorem y_ae {fs as : List Nat} (hf : y_fr h H fs as) {k : Nat} (hk : as.elem k = false) : w_a H k = w_a h k := hf.2.2 k (fun q => by rw [List.elem_iff.mpr q] at hk; cases hk)
theorem y_ndb (hr : w_hr z_D h) {nd : Int32} (hn : w_f h 19591 = some (.int nd)) : 0 ≤ nd.toInt ∧ nd.toInt ≤ 10 := by
  obtain ⟨vs, w, g1, g2, g3, g4⟩ := w_get1 hr (o := 153) (ci := 12) rfl (k := 7) rfl
  have e := w_f_at g1 (k := 7) (by decide)
  rw [g3] at e
  have e2 := e.symm.trans hn
  cases e2
  rcases g4 with ⟨-, x, e3, b1, b2⟩ | ⟨q, -⟩
  · cases e3
    exact ⟨b1, b2⟩
  · cases q
end YJ
/-- what looking costs: at least 1 -/
def j_cost0 (a : Option Value) (b c e : Option (Nat × aA)) : Prop := ∃ nd co kn kc, a = some (.int nd) ∧ b = some (0, .inl co) ∧ c = some (0, .inl kn) ∧ e = some (0, .inl kc) ∧ (∀ v : Nat, (v : Int) < nd.toInt → 1 ≤ y_N co v) ∧ ∀ i v : Nat, i < 3 → v < y_Nn kn i → 1 ≤ y_N kc (10 * i + v)
def j_cost (H : aH) : Prop := j_cost0 (w_f H 19591) (w_a H 161) (w_a H 187) (w_a H 191)
theorem j_cost_e {h H : aH} {fs as : List Nat} (e : y_fr h H fs as) (h1 : fs.elem 19591 = false) (h2 : [161, 187, 191].all (fun x => !as.elem x) = true) (q : j_cost h) : j_cost H := by
  have k : ∀ x, [161, 187, 191].elem x = true → as.elem x = false := fun x hx => by
    have := List.all_eq_true.mp h2 x (List.elem_iff.mp hx)
    cases q : as.elem x with
    | true => rw [q] at this; cases this
    | false => rfl
  unfold j_cost
  rw [y_fe e h1, y_ae e (k 161 rfl), y_ae e (k 187 rfl), y_ae e (k 191 rfl)]
  exact q
section WG
variable {X : aX} {C S d : Nat} {K0 : Option Value → aH → Nat → Nat → Prop} {h : aH}
theorem p_set (hr : w_hr z_D h) (hJ : y_J h) {node at' v : Int32} (hk : ∀ (r : Int32) (H : aH), y_fr h H [19584] [158] → y_J H → K0 (some (.int r)) H C S) : aOK s_P X (d + 2) a_m177 0 [some (.ref 155), some (.int node), some (.int at'), some (.int v), none] [] h C S K0 := by
  have hJ' := hJ
  obtain ⟨⟨nd, le, de, ta, n1, n2, n3, n4, c1, c2, c3, c4, c5⟩, -⟩ := hJ'
  obtain ⟨b1, b2⟩ := y_ndb hr n1
  refine w_go z_hl [] [178, 179, 176] 30 hr ?_
  refine ⟨rfl, y_zini (by decide) (by decide), ?_⟩
  intro H1 h1
  have f1 : y_fr h H1 [19584] [158] := y_fr_rel h1 (w_cons (Or.inl (y_m rfl)) w_nil) w_nil
  have out : ∀ {G H : aH}, y_fr h G [19584] [158] → y_J G → w_rel z_D G [] [] H → K0 (some (.int (Int32.ofInt (-1)))) H C S := fun g1 g2 g3 => hk _ _ (y_fr_tr g1 (y_fr_rel g3 w_nil w_nil) (fun _ q => q) (fun _ q => q)) (y_J_fr (fs := []) (as := []) (y_fr_rel g3 w_nil w_nil) rfl rfl g2)
  have e1 : y_fr h H1 [19584] [] := y_fr_rel h1 (w_cons (Or.inl (y_m rfl)) w_nil) w_nil
  have J1 : y_J H1 := y_J_fr e1 rfl rfl hJ
  refine y_isNode (v := node) f1.1 ((y_fe e1 rfl).trans n1) (fun H2 h2 => ?_)
  refine ⟨fun n e => (by cases e), ?_⟩
  have e2 : y_fr h H2 [19584] [] := y_fr_tr e1 (y_fr_mono h2 (fun _ q => by cases q) (fun _ q => q)) (fun _ q => q) (fun _ q => q)
  have J2 : y_J H2 := y_J_fr e2 rfl rfl hJ
  cases hnode : decide (0 ≤ node.toInt ∧ node.toInt < nd.toInt) with
  | false =>
    refine w_go z_hl [] [178, 179, 176] 30 h2.1 ?_
    refine ⟨fun q => ?_, fun q => absurd q (by decide)⟩
    intro H3 h3
    exact out (y_fr_mono e2 (fun _ q => q) (fun _ q => by cases q)) J2 h3
  | true =>
    have hnv := of_decide_eq_true hnode
    obtain ⟨vv, hv⟩ : ∃ vv : Nat, node.toInt = vv := ⟨node.toInt.toNat, by omega⟩
    refine w_go z_hl [] [178, 179, 176] 30 h2.1 ?_
    refine ⟨fun q => absurd q (by decide), fun q => ?_⟩
    intro H3 h3
    have e3 : y_fr h H3 [19584] [] := y_fr_tr e2 (y_fr_rel h3 w_nil w_nil) (fun _ q => q) (fun _ q => q)
    refine y_cases (v := node) e3.1 hv (by omega) ((y_ae e3 rfl).trans n2) (c1 vv (by omega)).1 (fun cs H4 h4 hcs => ?_)
    refine ⟨fun n e => (by cases e), ?_⟩
    have e4 : y_fr h H4 [19584] [] := y_fr_tr e3 (y_fr_mono h4 (fun _ q => by cases q) (fun _ q => q)) (fun _ q => q) (fun _ q => q)
    have hcs8 : cs.toInt ≤ 8 ∧ 1 ≤ cs.toInt := by
      rw [hcs]
      have h5 : 2 ^ y_pl (y_Nn le vv) 10 ≤ 2 ^ 3 := Nat.pow_le_pow_right (by decide) (c1 vv (by omega)).1
      have h6 : 0 < 2 ^ y_pl (y_Nn le vv) 10 := Nat.pow_pos (by decide)
      omega
    refine w_go z_hl [] [178, 179, 176] 30 e4.1 ?_
    intro H5 h5
    have e5 : y_fr h H5 [19584] [] := y_fr_tr e4 (y_fr_rel h5 w_nil w_nil) (fun _ q => q) (fun _ q => q)
    refine y_in h5.1 (fun H6 h6 => ?_)
    refine ⟨fun n e => (by cases e), ?_⟩
    have e6 : y_fr h H6 [19584] [] := y_fr_tr e5 (y_fr_rel h6 w_nil w_nil) (fun _ q => q) (fun _ q => q)
    have J6 : y_J H6 := y_J_fr e6 rfl rfl hJ
    cases hat : decide ((Int64.ofNat 0).toInt ≤ at'.toInt64.toInt ∧ at'.toInt64.toInt ≤ (cs - Int32.ofInt 1).toInt64.toInt) with
    | false =>
      have go : aOK s_P X (d + 2) a_m177 27 [some (.ref 155), some (.int node), some (.int at'), some (.int v), none] [.int (y_01 false)] H6 C S K0 := by
        refine w_go z_hl [] [178, 179, 176] 30 e6.1 ?_
        refine ⟨fun q => ?_, fun q => absurd q (by decide)⟩
        intro H7 h7
        exact out (y_fr_mono e6 (fun _ q => q) (fun _ q => by cases q)) J6 h7
      rw [← hat] at go
      exact go
    | true =>
      have hav := of_decide_eq_true hat
      rw [y_i2l, y_i2l, y_sub1 (by omega), show (Int64.ofNat 0).toInt = 0 from rfl] at hav
      obtain ⟨aa, ha⟩ : ∃ aa : Nat, at'.toInt = aa := ⟨at'.toInt.toNat, by omega⟩
      have hidx := y_idx8 hv ha (by omega) (by omega)
      have hic := (y_ofNat hidx (by omega)).2
      have hidxb : 0 ≤ ((Int8.ofInt 8).toInt32 * node + at').toInt ∧ ((Int8.ofInt 8).toInt32 * node + at').toInt < ((80 : Nat) : Int) := by omega
      have hvc := (y_ofNat hv (by omega)).2
      have go : aOK s_P X (d + 2) a_m177 27 [some (.ref 155), some (.int node), some (.int at'), some (.int v), none] [.int (y_01 true)] H6 C S K0 := by
        refine w_go z_hl [] [178, 179, 176] 30 e6.1 ?_
        refine ⟨fun q => absurd q (by decide), fun q => ?_⟩
        refine ⟨⟨by omega, by omega⟩, fun l hl hlen hbb => ?_⟩
        have el : l = de := by
          have := hl.symm.trans ((y_ae e6 rfl).trans n3)
          cases this
          rfl
        subst el
        intro H7 h7
        have e7 : y_fr h H7 [19584] [] := y_fr_tr e6 (y_fr_rel h7 w_nil (w_cons (Or.inr hl) w_nil)) (fun _ q => q) (fun _ q => q)
        refine y_in h7.1 (fun H8 h8 => ?_)
        refine ⟨fun n e => (by cases e), ?_⟩
        have e8 : y_fr h H8 [19584] [] := y_fr_tr e7 (y_fr_rel h8 w_nil w_nil) (fun _ q => q) (fun _ q => q)
        have J8 : y_J H8 := y_J_fr e8 rfl rfl hJ
        cases hvd : decide ((Int64.ofNat 0).toInt ≤ v.toInt64.toInt ∧ v.toInt64.toInt ≤ (l.getD node.toNatClampNeg 0).toInt64.toInt) with
        | false =>
          have go2 : aOK s_P X (d + 2) a_m177 43 [some (.ref 155), some (.int node), some (.int at'), some (.int v), none] [.int (y_01 false)] H8 C S K0 := by
            refine w_go z_hl [] [178, 179, 176] 30 e8.1 ?_
            refine ⟨fun q => absurd q (by decide), fun q => ?_⟩
            intro H9 h9
            exact out (y_fr_mono e8 (fun _ q => q) (fun _ q => by cases q)) J8 h9
          rw [← hvd] at go2
          exact go2
        | true =>
          have hvv := of_decide_eq_true hvd
          rw [y_i2l, y_i2l, hvc, show (Int64.ofNat 0).toInt = 0 from rfl] at hvv
          have hm := hbb _ (z_gd (0 : Int32) (show vv < l.length by omega))
          have go2 : aOK s_P X (d + 2) a_m177 43 [some (.ref 155), some (.int node), some (.int at'), some (.int v), none] [.int (y_01 true)] H8 C S K0 := by
            refine w_go z_hl [] [178, 179, 176] 40 e8.1 ?_
            refine ⟨fun q => ?_, fun q => absurd q (by decide)⟩
            refine ⟨hidxb, fun l2 hl2 hlen2 hbb2 => ?_⟩
            have el2 : l2 = ta := by
              have := hl2.symm.trans ((y_ae e8 rfl).trans n4)
              cases this
              rfl
            subst el2
            refine ⟨hidxb, ⟨by omega, by omega⟩, fun H9 h9 => ?_⟩
            have f9 : y_fr H8 H9 [] [158] := y_fr_rel h9 w_nil (w_cons (Or.inl (y_m rfl)) (w_cons (Or.inl (y_m rfl)) w_nil))
            have e9 : y_fr h H9 [19584] [158] := y_fr_tr (y_fr_mono e8 (fun _ q => q) (fun _ q => by cases q)) f9 (fun _ q => by cases q) (fun _ q => q)
            refine hk _ H9 e9 ?_
            obtain ⟨q1, q2, q3, q4, q5, q6, q7⟩ := hJ
            refine ⟨⟨nd, le, l, _, (y_fe e9 rfl).trans n1, (y_ae e9 rfl).trans n2, (y_ae e9 rfl).trans n3, h9.2.2.1 158 _ rfl, c1, fun i hi => ?_, c3, c4, c5⟩, j_dp_e (y_fe e9 rfl) (y_fe e9 rfl) (y_ae e9 rfl) q2, j_old_e (y_ae e9 rfl) (y_ae e9 rfl) (y_ae e9 rfl) (y_ae e9 rfl) (y_ae e9 rfl) (y_ae e9 rfl) q3, j_w_e (y_fe e9 rfl) (y_ae e9 rfl) q4, j_seen_e (y_fe e9 rfl) (y_fe e9 rfl) (y_ae e9 rfl) (y_ae e9 rfl) q5, j_kept_e (y_fe e9 rfl) (y_ae e9 rfl) (y_ae e9 rfl) (y_ae e9 rfl) (y_ae e9 rfl) q6, j_land_e (y_fe e9 rfl) (y_ae e9 rfl) q7⟩
            show (List.getD (l2.set ((Int8.ofInt 8).toInt32 * node + at').toNatClampNeg v) i 0).toInt ≤ _
            rw [hic, y_gset (by omega)]
            split
            · rename_i ei
              subst ei
              rw [show (8 * vv + aa) / 8 = vv by omega]
              exact hvv.2
            · exact c2 i hi
          rw [← hvd] at go2
          exact go2
      rw [← hat] at go
      exact go
end WG
end PT26b
section PT26c
/-! ===== v3: the reference's node ===== -/
theorem y_pr_c {f g : Nat → Int} : ∀ {n : Nat}, (∀ v, v < n → f v = g v) → y_pr f n = y_pr g n
  | 0, _ => rfl
  | n + 1, h => by
    show y_pr f n * f n = y_pr g n * g n
    rw [y_pr_c (fun v hv => h v (by omega)), h n (by omega)]
theorem y_Nset {l : List Int32} {k i : Nat} {x : Int32} (hk : k < l.length) : y_N (l.set k x) i = if i = k then x.toInt else y_N l i := by
  unfold y_N
  rw [y_gset hk]
  split <;> rfl
theorem y_Nnset {l : List Int32} {k i : Nat} {x : Int32} (hk : k < l.length) : y_Nn (l.set k x) i = if i = k then x.toInt.toNat else y_Nn l i := by
  unfold y_Nn
  rw [y_gset hk]
  split <;> rfl
section WG
variable {X : aX} {C S d : Nat} {K0 : Option Value → aH → Nat → Nat → Prop} {h : aH}
theorem p_node (hr : w_hr z_D h) (hJ : y_J h) (hC : j_cost h) {leans deep : Int32} (hk : ∀ (r : Int32) (H : aH), y_fr h H [19584, 19591, 19600] [156, 157, 159, 160, 161] → y_J H → j_cost H → K0 (some (.int r)) H C S) : aOK s_P X (d + 2) a_m173 0 [some (.ref 155), some (.int leans), some (.int deep), none] [] h C S K0 := by
  have hJ' := hJ
  obtain ⟨⟨nd, le, de, ta, n1, n2, n3, n4, c1, c2, c3, c4, c5⟩, ⟨nd', dp, de', d1, d2, d3, d4⟩, -⟩ := hJ'
  have e0 := d1.symm.trans n1
  cases e0
  have e0 : de = de' := by
    have := n3.symm.trans d3
    cases this
    rfl
  subst e0
  obtain ⟨b1, b2⟩ := y_ndb hr n1
  obtain ⟨n, hn⟩ : ∃ n : Nat, nd.toInt = n := ⟨nd.toInt.toNat, by omega⟩
  have hnn : nd.toInt.toNat = n := by omega
  have hnc := (y_ofNat hn (by omega)).2
  refine w_go z_hl [] [174, 15, 176] 30 hr ?_
  refine ⟨rfl, y_zini (by decide) (by decide), ?_⟩
  intro H1 h1
  have e1 : y_fr h H1 [19584] [] := y_fr_rel h1 (w_cons (Or.inl (y_m rfl)) w_nil) w_nil
  have out : ∀ {G H : aH}, y_fr h G [19584] [] → w_rel z_D G [] [] H → K0 (some (.int (Int32.ofInt (-1)))) H C S := fun g1 g3 => by
    have g4 := y_fr_tr g1 (y_fr_rel g3 w_nil w_nil) (fun _ q => q) (fun _ q => q)
    exact hk _ _ (y_fr_mono g4 (fun x q => by rw [List.mem_singleton.mp q]; exact y_m rfl) (fun _ q => by cases q)) (y_J_fr g4 rfl rfl hJ) (j_cost_e g4 rfl rfl hC)
  refine y_isSet (v := leans) e1.1 ((y_fe e1 rfl).trans n1) b1 b2 (fun H2 h2 => ?_)
  refine ⟨fun n e => (by cases e), ?_⟩
  have e2 : y_fr h H2 [19584] [] := y_fr_tr e1 (y_fr_mono h2 (fun _ q => by cases q) (fun _ q => q)) (fun _ q => q) (fun _ q => q)
  cases hset : decide (0 ≤ leans.toInt ∧ leans.toInt < y_ways nd) with
  | false =>
    refine w_go z_hl [] [174, 15, 176] 30 h2.1 ?_
    refine ⟨fun q => ⟨fun q2 => ?_, fun q2 => absurd q2 (by decide)⟩, fun q => absurd q (by decide)⟩
    intro H3 h3
    exact out e2 h3
  | true =>
    have hsv := of_decide_eq_true hset
    obtain ⟨-, l1, l2⟩ := y_all b1 b2
    obtain ⟨lb, hlb⟩ : ∃ lb : Nat, leans.toInt = lb := ⟨leans.toInt.toNat, by omega⟩
    refine w_go z_hl [] [174, 15, 176] 30 h2.1 ?_
    refine ⟨fun q => absurd q (by decide), fun q => ?_⟩
    intro H3 h3
    have e3 : y_fr h H3 [19584] [] := y_fr_tr e2 (y_fr_rel h3 w_nil w_nil) (fun _ q => q) (fun _ q => q)
    refine y_bitCount (x := leans) e3.1 (fun H4 h4 => ?_)
    refine ⟨fun n e => (by cases e), ?_⟩
    have e4 : y_fr h H4 [19584] [] := y_fr_tr e3 (y_fr_rel h4 w_nil w_nil) (fun _ q => q) (fun _ q => q)
    have hbc := y_bcN hlb (by omega)
    refine w_go z_hl [] [174, 15, 176] 30 e4.1 ?_
    refine ⟨fun q => ⟨fun q2 => ?_, fun q2 => absurd q2 (by decide)⟩, fun q => ?_⟩
    · intro H5 h5
      exact out e4 h5
    · have h3b : ¬ ((Int32.ofInt 3).toInt < (y_bc leans).toInt) := y_cif q
      rw [show (Int32.ofInt 3).toInt = 3 by decide, hbc] at h3b
      intro H5 h5
      have e5 : y_fr h H5 [19584] [] := y_fr_tr e4 (y_fr_rel h5 w_nil w_nil) (fun _ q => q) (fun _ q => q)
      refine y_in h5.1 (fun H6 h6 => ?_)
      refine ⟨fun n e => (by cases e), ?_⟩
      have e6 : y_fr h H6 [19584] [] := y_fr_tr e5 (y_fr_rel h6 w_nil w_nil) (fun _ q => q) (fun _ q => q)
      cases hdp : decide ((Int64.ofNat 1).toInt ≤ deep.toInt64.toInt ∧ deep.toInt64.toInt ≤ (Int64.ofInt 10000000).toInt) with
      | false =>
        have go : aOK s_P X (d + 2) a_m173 30 [some (.ref 155), some (.int leans), some (.int deep), none] [.int (y_01 false)] H6 C S K0 := by
          refine w_go z_hl [] [174, 15, 176] 30 e6.1 ?_
          refine ⟨fun q => ⟨fun q2 => ?_, fun q2 => absurd q2 (by decide)⟩, fun q => absurd q (by decide)⟩
          intro H7 h7
          exact out e6 h7
        rw [← hdp] at go
        exact go
      | true =>
        have hdv := of_decide_eq_true hdp
        rw [y_i2l, y_i64 (by decide) (by decide), show (Int64.ofNat 1).toInt = 1 from rfl] at hdv
        have n1' : w_f H6 19591 = some (.int nd) := (y_fe e6 rfl).trans n1
        have go : aOK s_P X (d + 2) a_m173 30 [some (.ref 155), some (.int leans), some (.int deep), none] [.int (y_01 true)] H6 C S K0 := by
          refine w_go z_hl [68] [174, 15, 176] 30 e6.1 ?_
          refine ⟨fun q => absurd q (by decide), fun q => ?_⟩
          intro x hx _ _
          have ex : x = nd := by
            have := hx.symm.trans n1'
            cases this
            rfl
          subst ex
          have fr7 : ∀ {H : aH} {hf : wF}, w_rel z_D H6 hf [] H → (∀ q ∈ hf, q.1 ∈ ([] : List Nat) ∨ w_f H6 q.1 = some q.2) → y_fr h H [19584] [] := fun g1 g2 => y_fr_tr e6 (y_fr_rel g1 g2 w_nil) (fun _ q => by cases q) (fun _ q => q)
          have out2 : ∀ {H : aH} {hf : wF}, w_rel z_D H6 hf [] H → (∀ q ∈ hf, q.1 ∈ ([] : List Nat) ∨ w_f H6 q.1 = some q.2) → K0 (some (.int (Int32.ofInt (-1)))) H C S := fun g1 g2 => by
            have g4 := fr7 g1 g2
            exact hk _ _ (y_fr_mono g4 (fun x q => by rw [List.mem_singleton.mp q]; exact y_m rfl) (fun _ q => by cases q)) (y_J_fr g4 rfl rfl hJ) (j_cost_e g4 rfl rfl hC)
          refine ⟨fun q3 => ⟨fun q4 => fun H7 h7 => out2 h7 (w_cons (Or.inr n1') w_nil), fun q4 => absurd q4 (by decide)⟩, fun q3 => ⟨fun q4 => absurd q4 (by decide), fun q4 => ?_⟩⟩
          have hlt : ¬ (((Int8.ofInt 10).toInt32).toInt ≤ x.toInt) := y_cif q3
          rw [show ((Int8.ofInt 10).toInt32).toInt = 10 by decide] at hlt
          intro y hy by1 by2
          have d2' : w_f H6 19600 = some (.long dp) := (y_fe e6 rfl).trans d2
          have ey : y = dp := by
            have := hy.symm.trans d2'
            cases this
            rfl
          subst ey
          have hmul : (y * deep.toInt64).toInt = y.toInt * deep.toInt := by
            have p1 : 0 ≤ y.toInt * deep.toInt := Int.mul_nonneg (by omega) (by omega)
            have p2 : y.toInt * deep.toInt ≤ 100000000 * 10000000 := Int.mul_le_mul (by omega) (by omega) (by omega) (by decide)
            rw [y_mul (by rw [y_i2l]; omega) (by rw [y_i2l]; omega), y_i2l]
          refine ⟨fun q5 => ?_, fun q5 => fun H7 h7 => out2 h7 (w_cons (Or.inr d2') (w_cons (Or.inr n1') w_nil))⟩
          have hle8 : (y * deep.toInt64).toInt ≤ (Int64.ofInt 100000000).toInt := (y_cl .le _ _).mp q5
          rw [y_i64 (by decide) (by decide), hmul] at hle8
          have pos8 : 1 * 1 ≤ y.toInt * deep.toInt := Int.mul_le_mul by1 (by omega) (by decide) (by omega)
          intro H7 h7
          have e7 := fr7 h7 (w_cons (Or.inr d2') (w_cons (Or.inr n1') w_nil))
          have n7 : w_f H7 19591 = some (.int x) := (y_fe e7 rfl).trans n1
          have d7 : w_f H7 19600 = some (.long y) := (y_fe e7 rfl).trans d2
          refine w_go z_hl [] [] 80 e7.1 ?_
          intro z hz _ _
          have ez : z = x := by
            have := hz.symm.trans n7
            cases this
            rfl
          subst ez
          refine ⟨⟨by omega, by omega⟩, ⟨by omega, by omega⟩, fun a1 ha1 la1 ba1 => ?_⟩
          have q1 : a1 = le := by
            have := ha1.symm.trans ((y_ae e7 rfl).trans n2)
            cases this
            rfl
          subst q1
          refine ⟨⟨by omega, by omega⟩, ⟨by omega, by omega⟩, fun a2 ha2 la2 ba2 => ?_⟩
          have q1 : a2 = de := by
            have := ha2.symm.trans ((y_ae e7 rfl).trans n3)
            cases this
            rfl
          subst q1
          intro z2 hz2 _ _
          have ez : z2 = y := by
            have := hz2.symm.trans d7
            cases this
            rfl
          subst ez
          refine ⟨rfl, y_zin (by show 1 ≤ (z2 * deep.toInt64).toInt; omega) (by show (z2 * deep.toInt64).toInt ≤ 100000000; omega), ?_⟩
          refine ⟨⟨by omega, by omega⟩, by decide, fun a3 ha3 la3 ba3 => ?_⟩
          refine ⟨⟨by omega, by omega⟩, by decide, fun a4 ha4 la4 ba4 => ?_⟩
          refine ⟨⟨by omega, by omega⟩, by decide, fun a5 ha5 la5 ba5 => ?_⟩
          have hinc : (z + Int32.ofInt 1).toInt = z.toInt + 1 := y_inc (by omega)
          refine ⟨rfl, y_zini (by show 0 ≤ (z + Int32.ofInt 1).toInt; omega) (by show (z + Int32.ofInt 1).toInt ≤ 10; omega), ?_⟩
          intro H8 h8
          have f8 : y_fr H7 H8 [19584, 19591, 19600] [156, 157, 159, 160, 161] := y_fr_rel h8 (w_cons (Or.inl (y_m rfl)) (w_cons (Or.inl (y_m rfl)) (w_cons (Or.inl (y_m rfl)) (w_cons (Or.inl (y_m rfl)) w_nil)))) (w_cons (Or.inl (y_m rfl)) (w_cons (Or.inl (y_m rfl)) (w_cons (Or.inl (y_m rfl)) (w_cons (Or.inl (y_m rfl)) (w_cons (Or.inl (y_m rfl)) (w_cons (Or.inl (y_m rfl)) (w_cons (Or.inl (y_m rfl)) (w_cons (Or.inl (y_m rfl)) (w_cons (Or.inl (y_m rfl)) (w_cons (Or.inl (y_m rfl)) w_nil))))))))))
          have e8 : y_fr h H8 [19584, 19591, 19600] [156, 157, 159, 160, 161] := y_fr_tr (y_fr_mono e7 (fun x q => by rw [List.mem_singleton.mp q]; exact y_m rfl) (fun _ q => by cases q)) f8 (fun _ q => q) (fun _ q => q)
          have HC8 : j_cost H8 := by
            obtain ⟨ndc, co, kn', kc, x1, x2, x3, x4, x5, x6⟩ := hC
            have q1 := x1.symm.trans n1
            cases q1
            have q1 : a5 = co := by
              have := ha5.symm.trans ((y_ae e7 rfl).trans x2)
              cases this
              rfl
            subst q1
            have A5 : w_a H8 161 = some (0, .inl (a5.set z.toNatClampNeg (Int32.ofInt 1))) := h8.2.2.1 161 _ rfl
            refine ⟨_, _, kn', kc, h8.2.1 19591 _ rfl, A5, (y_ae e8 rfl).trans x3, (y_ae e8 rfl).trans x4, fun v hv => ?_, x6⟩
            have hv2 : (v : Int) < (z + Int32.ofInt 1).toInt := hv
            rw [hnc, y_Nset (by omega)]
            split
            · decide
            · exact x5 v (by omega)
          refine hk _ H8 e8 ?_ HC8
          obtain ⟨-, -, ⟨de2, to, kt, sn, sl, sh, o1, o2, o3, o4, o5, o6, o7, o8, o9⟩, ⟨nd2, wl, w1, w2, w3, w4, w5⟩, ⟨nd3, sm, so, sa, s1, s2, s3, s4, s5⟩, ⟨nd4, kn, km, ko, ks, k1, k2, k3, k4, k5, k6⟩, hland⟩ := hJ
          have q1 : a2 = de2 := by
            have := n3.symm.trans o1
            cases this
            rfl
          subst q1
          have q1 := w1.symm.trans n1
          cases q1
          have q1 := s1.symm.trans n1
          cases q1
          have q1 := k1.symm.trans n1
          cases q1
          have q1 : a4 = sa := by
            have := ha4.symm.trans ((y_ae e7 rfl).trans s4)
            cases this
            rfl
          subst q1
          have N8 : w_f H8 19591 = some (.int (z + Int32.ofInt 1)) := h8.2.1 19591 _ rfl
          have A1 : w_a H8 156 = some (0, .inl (a1.set z.toNatClampNeg leans)) := h8.2.2.1 156 _ rfl
          have A2 : w_a H8 157 = some (0, .inl (a2.set z.toNatClampNeg deep)) := h8.2.2.1 157 _ rfl
          have A4 : w_a H8 160 = some (0, .inl (a4.set z.toNatClampNeg (Int32.ofInt (-1)))) := h8.2.2.1 160 _ rfl
          have D8 : w_f H8 19600 = some (.long (z2 * deep.toInt64)) := h8.2.1 19600 _ rfl
          rw [hnc] at A1 A2 A4
          have tn : (z + Int32.ofInt 1).toInt.toNat = n + 1 := by omega
          have dset : ∀ i, y_N (a2.set n deep) i = if i = n then deep.toInt else y_N a2 i := fun i => y_Nset (by omega)
          have dn0 : y_N a2 n = 0 := c5 n (by omega)
          have dmono : ∀ i, y_N a2 i ≤ y_N (a2.set n deep) i := fun i => by
            rw [dset]
            split
            · rename_i e; rw [e, dn0]; omega
            · exact Int.le_refl _
          have epr : y_pr (y_N (a2.set n deep)) (n + 1) = z2.toInt * deep.toInt := by
            show y_pr (y_N (a2.set n deep)) n * y_N (a2.set n deep) n = _
            rw [y_pr_c (g := y_N a2) (fun v hv => by rw [dset, if_neg (by omega)]), dset, if_pos rfl, d4, hnn]
          have ways : y_ways z ≤ y_ways (z + Int32.ofInt 1) := by
            unfold y_ways
            exact Nat.pow_le_pow_right (by decide) (by omega)
          refine ⟨⟨_, _, _, ta, N8, A1, A2, (y_ae e8 rfl).trans n4, fun v hv => ?_, fun i hi => Int.le_trans (c2 i hi) (dmono _), fun v hv => ?_, ?_, fun v hv => ?_⟩, ⟨_, _, _, N8, D8, A2, ?_⟩, ⟨_, to, kt, sn, sl, sh, A2, (y_ae e8 rfl).trans o2, (y_ae e8 rfl).trans o3, (y_ae e8 rfl).trans o4, (y_ae e8 rfl).trans o5, (y_ae e8 rfl).trans o6, fun i hi => Int.le_trans (o7 i hi) (dmono _), fun i hi => Int.le_trans (o8 i hi) (dmono _), fun k hk6 => ⟨Int.le_trans (o9 k hk6).1 (dmono _), Int.le_trans (o9 k hk6).2 (dmono _)⟩⟩, ⟨_, wl, N8, (y_ae e8 rfl).trans w2, w3, w4, fun i hi => w5 i (Nat.le_trans ways hi)⟩, ⟨_, sm, so, _, N8, (y_fe e8 rfl).trans s2, (y_ae e8 rfl).trans s3, A4, ?_⟩, ⟨_, kn, km, ko, ks, N8, (y_ae e8 rfl).trans k2, (y_ae e8 rfl).trans k3, (y_ae e8 rfl).trans k4, (y_ae e8 rfl).trans k5, fun i hi => ⟨by have := (k6 i hi).1; omega, (k6 i hi).2⟩⟩, j_land_e (y_fe e8 rfl) (y_ae e8 rfl) hland⟩
          · rw [y_Nnset (by omega)]
            split
            · rename_i e
              subst e
              have hl2 : leans.toInt.toNat = lb := by omega
              rw [hl2]
              refine ⟨by omega, ?_⟩
              have : y_ways z = 2 ^ v := by unfold y_ways; rw [hnn]
              omega
            · exact c1 v hv
          · rw [dset]
            split
            · omega
            · exact c3 v (by omega)
          · rw [tn, epr]
            omega
          · rw [dset, if_neg (by omega)]
            exact c5 v (by omega)
          · rw [tn, epr, hmul]
          · rw [tn]
            rw [hnn] at s5
            obtain ⟨t1, t2, t3, t4⟩ := s5
            have aset : ∀ i, y_N (a4.set n (Int32.ofInt (-1))) i = if i = n then (Int32.ofInt (-1)).toInt else y_N a4 i := fun i => y_Nset (by omega)
            refine ⟨by omega, fun k hk' => ?_, t3, fun v hv hs => ?_⟩
            · obtain ⟨u1, u2, u3⟩ := t2 k hk'
              refine ⟨u1, by omega, ?_⟩
              rw [aset, if_neg (by omega)]
              exact u3
            · rw [aset] at hs
              split at hs
              · rw [show (Int32.ofInt (-1)).toInt = -1 by decide] at hs
                omega
              · exact t4 v (by omega) hs
        rw [← hdp] at go
        exact go
end WG
end PT26c
section PT27a
/-! ===== v3: shorter ways ===== -/
theorem y_ai {o : Option (Nat × aA)} {t t' : Nat} {l l' : List Int32} (h1 : o = some (t, .inl l)) (h2 : o = some (t', .inl l')) : l = l' := by
  subst h1
  cases h2
  rfl
theorem y_al {o : Option (Nat × aA)} {t t' : Nat} {l l' : List Int64} (h1 : o = some (t, .inr (.inl l))) (h2 : o = some (t', .inr (.inl l'))) : l = l' := by
  subst h1
  cases h2
  rfl
theorem y_fi {o : Option Value} {a b : Int32} (h1 : o = some (.int a)) (h2 : o = some (.int b)) : a = b := by
  subst h1
  cases h2
  rfl
theorem y_fl {o : Option Value} {a b : Int64} (h1 : o = some (.long a)) (h2 : o = some (.long b)) : a = b := by
  subst h1
  cases h2
  rfl
theorem y_sub {l l' : List Nat} (h : l.all (fun x => l'.elem x) = true) : ∀ x ∈ l, x ∈ l' := fun x hx => List.elem_iff.mp (List.all_eq_true.mp h x hx)
section YU
variable {h G H : aH} {fs as fs' as' : List Nat} {hf : wF} {ha : wA}
theorem y_st (e : y_fr h G fs as) (r : w_rel z_D G hf ha H) (h1 : ∀ q ∈ hf, q.1 ∈ fs ∨ w_f G q.1 = some q.2) (h2 : ∀ q ∈ ha, q.1 ∈ as ∨ w_a G q.1 = some q.2) : y_fr h H fs as := y_fr_tr e (y_fr_rel r h1 h2) (fun _ q => q) (fun _ q => q)
theorem y_sq (e : y_fr h G fs as) (r : y_fr G H fs' as') (h1 : fs'.all (fun x => fs.elem x) = true) (h2 : as'.all (fun x => as.elem x) = true) : y_fr h H fs as := y_fr_tr e r (y_sub h1) (y_sub h2)
theorem y_mo (e : y_fr h H fs as) (h1 : fs.all (fun x => fs'.elem x) = true) (h2 : as.all (fun x => as'.elem x) = true) : y_fr h H fs' as' := y_fr_mono e (y_sub h1) (y_sub h2)
theorem y_w0 (r : w_eq h H) : y_fr h H [] [] := y_fr_rel r w_nil w_nil
theorem y_rf (hr : w_hr z_D h) : y_fr h h [] [] := ⟨hr, fun _ _ => rfl, fun _ _ => rfl⟩
end YU
section WG
variable {X : aX} {C S d : Nat} {K0 : Option Value → aH → Nat → Nat → Prop} {h : aH}
theorem q_in (hr : w_hr z_D h) {v lo hi : Int64} (yes : ∀ H, y_fr h H [] [] → lo.toInt ≤ v.toInt → v.toInt ≤ hi.toInt → K0 (some (.int (y_01 true))) H C S) (no : ∀ H, y_fr h H [] [] → (lo.toInt ≤ v.toInt → v.toInt ≤ hi.toInt → False) → K0 (some (.int (y_01 false))) H C S) : aOK s_P X d a_m176 0 [some (.long v), none, some (.long lo), none, some (.long hi), none] [] h C S K0 := by
  refine y_in hr (fun H hH => ?_)
  by_cases q : lo.toInt ≤ v.toInt ∧ v.toInt ≤ hi.toInt
  · rw [decide_eq_true q]
    exact yes H (y_w0 hH) q.1 q.2
  · rw [decide_eq_false q]
    exact no H (y_w0 hH) (fun a b => q ⟨a, b⟩)
theorem q_isNode (hr : w_hr z_D h) {v nd : Int32} (hn : w_f h 19591 = some (.int nd)) (yes : ∀ H (vv : Nat), y_fr h H [] [] → v.toInt = vv → (vv : Int) < nd.toInt → v.toNatClampNeg = vv → K0 (some (.int (y_01 true))) H C S) (no : ∀ H, y_fr h H [] [] → K0 (some (.int (y_01 false))) H C S) : aOK s_P X (d + 1) a_m178 0 [some (.ref 155), some (.int v)] [] h C S K0 := by
  refine y_isNode hr hn (fun H hH => ?_)
  by_cases q : 0 ≤ v.toInt ∧ v.toInt < nd.toInt
  · rw [decide_eq_true q]
    have := v.toInt_lt
    refine yes H v.toInt.toNat hH (by omega) (by omega) rfl
  · rw [decide_eq_false q]
    exact no H hH
theorem q_isSet (hr : w_hr z_D h) {v nd : Int32} (hn : w_f h 19591 = some (.int nd)) (yes : ∀ H (vv : Nat), y_fr h H [] [] → v.toInt = vv → vv < y_ways nd → v.toNatClampNeg = vv → K0 (some (.int (y_01 true))) H C S) (no : ∀ H, y_fr h H [] [] → K0 (some (.int (y_01 false))) H C S) : aOK s_P X (d + 1) a_m174 0 [some (.ref 155), some (.int v)] [] h C S K0 := by
  obtain ⟨b1, b2⟩ := y_ndb hr hn
  refine y_isSet hr hn b1 b2 (fun H hH => ?_)
  by_cases q : 0 ≤ v.toInt ∧ v.toInt < y_ways nd
  · rw [decide_eq_true q]
    refine yes H v.toInt.toNat hH (by omega) (by omega) rfl
  · rw [decide_eq_false q]
    exact no H hH
end WG
theorem y_smb {h : aH} (hr : w_hr z_D h) {nd : Int32} (hn : w_f h 19598 = some (.int nd)) : 0 ≤ nd.toInt ∧ nd.toInt ≤ 10 := by
  obtain ⟨vs, w, g1, g2, g3, g4⟩ := w_get1 hr (o := 153) (ci := 12) rfl (k := 14) rfl
  have e := w_f_at g1 (k := 14) (by decide)
  rw [g3] at e
  have e2 := e.symm.trans hn
  cases e2
  rcases g4 with ⟨-, x, e3, b1, b2⟩ | ⟨q, -⟩
  · cases e3
    exact ⟨b1, b2⟩
  · cases q
theorem y_spb {h : aH} (hr : w_hr z_D h) {nd : Int32} (hn : w_f h 19619 = some (.int nd)) : 0 ≤ nd.toInt ∧ nd.toInt ≤ 6 := by
  obtain ⟨vs, w, g1, g2, g3, g4⟩ := w_get1 hr (o := 153) (ci := 12) rfl (k := 35) rfl
  have e := w_f_at g1 (k := 35) (by decide)
  rw [g3] at e
  have e2 := e.symm.trans hn
  cases e2
  rcases g4 with ⟨-, x, e3, b1, b2⟩ | ⟨q, -⟩
  · cases e3
    exact ⟨b1, b2⟩
  · cases q
theorem y_lnb {h : aH} (hr : w_hr z_D h) {nd : Int32} (hn : w_f h 19640 = some (.int nd)) : 0 ≤ nd.toInt ∧ nd.toInt ≤ 8 := by
  obtain ⟨vs, w, g1, g2, g3, g4⟩ := w_get1 hr (o := 153) (ci := 12) rfl (k := 56) rfl
  have e := w_f_at g1 (k := 56) (by decide)
  rw [g3] at e
  have e2 := e.symm.trans hn
  cases e2
  rcases g4 with ⟨-, x, e3, b1, b2⟩ | ⟨q, -⟩
  · cases e3
    exact ⟨b1, b2⟩
  · cases q
theorem y_syb {h : aH} (hr : w_hr z_D h) {nd : Int32} (hn : w_f h 19603 = some (.int nd)) : 0 ≤ nd.toInt ∧ nd.toInt ≤ 12 := by
  obtain ⟨vs, w, g1, g2, g3, g4⟩ := w_get1 hr (o := 153) (ci := 12) rfl (k := 19) rfl
  have e := w_f_at g1 (k := 19) (by decide)
  rw [g3] at e
  have e2 := e.symm.trans hn
  cases e2
  rcases g4 with ⟨-, x, e3, b1, b2⟩ | ⟨q, -⟩
  · cases e3
    exact ⟨b1, b2⟩
  · cases q
/-- pigeons -/
theorem y_pig : ∀ (n m : Nat) (f : Nat → Int), (∀ k, k < m → 0 ≤ f k ∧ f k < n) → (∀ i j, i < m → j < m → f i = f j → i = j) → m ≤ n := by
  intro n
  induction n with
  | zero =>
    intro m f h1 h2
    rcases Nat.eq_zero_or_pos m with q | q
    · omega
    · have := h1 0 q
      omega
  | succ n ih =>
    intro m f h1 h2
    by_cases hx : ∃ k0, k0 < m ∧ f k0 = n
    · obtain ⟨k0, a1, a2⟩ := hx
      obtain ⟨p, rfl⟩ : ∃ p, m = p + 1 := ⟨m - 1, by omega⟩
      have key : ∀ i, i < p → ∃ u, u < p + 1 ∧ u ≠ k0 ∧ (if i = k0 then f p else f i) = f u ∧ (i = k0 → u = p) ∧ (i ≠ k0 → u = i) := fun i hi => by
        by_cases q : i = k0
        · exact ⟨p, by omega, by omega, by rw [if_pos q], fun _ => rfl, fun r => absurd q r⟩
        · exact ⟨i, by omega, q, by rw [if_neg q], fun r => absurd r q, fun _ => rfl⟩
      have := ih p (fun i => if i = k0 then f p else f i) (fun i hi => ?_) (fun i j hi hj e => ?_)
      · omega
      · obtain ⟨u, u1, u2, u3, -, -⟩ := key i hi
        show 0 ≤ (if i = k0 then f p else f i) ∧ (if i = k0 then f p else f i) < n
        rw [u3]
        have b := h1 u u1
        refine ⟨b.1, ?_⟩
        have : f u ≠ n := fun e => u2 (h2 u k0 u1 a1 (e.trans a2.symm))
        omega
      · obtain ⟨u, u1, u2, u3, u4, u5⟩ := key i hi
        obtain ⟨w, w1, w2, w3, w4, w5⟩ := key j hj
        have e' : f u = f w := u3.symm.trans (e.trans w3)
        have := h2 u w u1 w1 e'
        by_cases qi : i = k0
        · by_cases qj : j = k0
          · omega
          · have := u4 qi
            have := w5 qj
            omega
        · by_cases qj : j = k0
          · have := u5 qi
            have := w4 qj
            omega
          · have := u5 qi
            have := w5 qj
            omega
    · have := ih m f (fun k hk => ?_) h2
      · omega
      · have b := h1 k hk
        refine ⟨b.1, ?_⟩
        have : f k ≠ n := fun e => hx ⟨k, hk, e⟩
        omega
/-- one more can be seen -/
theorem y_ord_lt {n m : Nat} {so sa : Nat → Int} (h : y_ord n m so sa) {v : Nat} (hv : v < n) (hs : sa v < 0) : m < n := by
  obtain ⟨-, t2, t3, -⟩ := h
  have nv : ∀ k, k < m → so k ≠ v := fun k hk e => by
    have := (t2 k hk).2.2
    rw [e] at this
    have e2 : ((v : Nat) : Int).toNat = v := by omega
    rw [e2] at this
    omega
  refine y_pig n (m + 1) (fun k => if k = m then (v : Int) else so k) (fun k hk => ?_) (fun i j hi hj e => ?_)
  · split
    · omega
    · have := t2 k (by omega)
      exact ⟨this.1, this.2.1⟩
  · split at e
    · split at e
      · omega
      · exact absurd e.symm (nv j (by omega))
    · split at e
      · exact absurd e (nv i (by omega))
      · exact t3 i j (by omega) (by omega) e
end PT27a
section PT27b
/-! ===== v3: the reference's see ===== -/
def y_fg (v : Int) (so0 A : Nat → Int) (n k : Nat) : Prop := n ≤ k ∧ (∀ j, k ≤ j → A j = so0 j) ∧ (∀ a, a < n → ∃ i, i < k ∧ A a = so0 i ∧ so0 i ≠ v) ∧ (∀ i, i < k → so0 i ≠ v → ∃ a, a < n ∧ A a = so0 i) ∧ ∀ a b, a < n → b < n → A a = A b → a = b
theorem y_fg_skip {v : Int} {so0 A : Nat → Int} {n k : Nat} (h : y_fg v so0 A n k) (e : so0 k = v) : y_fg v so0 A n (k + 1) := by
  obtain ⟨h1, h2, h3, h4, h5⟩ := h
  refine ⟨by omega, fun j hj => h2 j (by omega), fun a ha => ?_, fun i hi hne => ?_, h5⟩
  · obtain ⟨i, i1, i2, i3⟩ := h3 a ha
    exact ⟨i, by omega, i2, i3⟩
  · by_cases q : i = k
    · subst q
      exact absurd e hne
    · exact h4 i (by omega) hne
theorem y_fg_take {v : Int} {so0 A B : Nat → Int} {n k m : Nat} (h : y_fg v so0 A n k) (hk : k < m) (hi : ∀ i j, i < m → j < m → so0 i = so0 j → i = j) (e : so0 k ≠ v) (hB : ∀ j, B j = if j = n then so0 k else A j) : y_fg v so0 B (n + 1) (k + 1) := by
  obtain ⟨h1, h2, h3, h4, h5⟩ := h
  have old : ∀ a, a < n → B a = A a := fun a ha => by rw [hB, if_neg (by omega)]
  have new : B n = so0 k := by rw [hB, if_pos rfl]
  have fresh : ∀ a, a < n → A a ≠ so0 k := fun a ha q => by
    obtain ⟨i, i1, i2, i3⟩ := h3 a ha
    have := hi i k (by omega) hk (i2.symm.trans q)
    omega
  refine ⟨by omega, fun j hj => ?_, fun a ha => ?_, fun i hi' hne => ?_, fun a b ha hb q => ?_⟩
  · rw [hB, if_neg (by omega)]
    exact h2 j (by omega)
  · by_cases q : a = n
    · subst q
      exact ⟨k, by omega, new, e⟩
    · obtain ⟨i, i1, i2, i3⟩ := h3 a (by omega)
      exact ⟨i, by omega, (old a (by omega)).trans i2, i3⟩
  · by_cases q : i = k
    · subst q
      exact ⟨n, by omega, new⟩
    · obtain ⟨a, a1, a2⟩ := h4 i (by omega) hne
      exact ⟨a, by omega, (old a a1).trans a2⟩
  · by_cases qa : a = n
    · by_cases qb : b = n
      · omega
      · subst qa
        rw [new, old b (by omega)] at q
        exact absurd q.symm (fresh b (by omega))
    · by_cases qb : b = n
      · subst qb
        rw [new, old a (by omega)] at q
        exact absurd q (fresh a (by omega))
      · rw [old a (by omega), old b (by omega)] at q
        exact h5 a b (by omega) (by omega) q
/-- what is seen, behind forgetting -/
theorem y_ord_fg {n m p v : Nat} {so0 sa A sb : Nat → Int} (h : y_ord n m so0 sa) (hf : y_fg v so0 A p m) (hb : ∀ j, sb j = if j = v then -1 else sa j) : y_ord n p A sb := by
  obtain ⟨t1, t2, t3, t4⟩ := h
  obtain ⟨h1, h2, h3, h4, h5⟩ := hf
  refine ⟨by omega, fun k hk => ?_, h5, fun u hu hs => ?_⟩
  · obtain ⟨i, i1, i2, i3⟩ := h3 k hk
    obtain ⟨u1, u2, u3⟩ := t2 i i1
    rw [i2]
    refine ⟨u1, u2, ?_⟩
    rw [hb, if_neg (by omega)]
    exact u3
  · rw [hb] at hs
    split at hs
    · omega
    · rename_i q
      obtain ⟨k, k1, k2⟩ := t4 u hu hs
      obtain ⟨a, a1, a2⟩ := h4 k k1 (by omega)
      exact ⟨a, a1, a2.trans k2⟩
theorem y_ord_add {n m v : Nat} {so sa so' sa' : Nat → Int} {x : Int} (h : y_ord n m so sa) (hv : v < n) (hs : sa v < 0) (hx : 0 ≤ x) (h1 : ∀ j, so' j = if j = m then (v : Int) else so j) (h2 : ∀ j, sa' j = if j = v then x else sa j) : y_ord n (m + 1) so' sa' := by
  have hlt := y_ord_lt h hv hs
  obtain ⟨t1, t2, t3, t4⟩ := h
  have ev : ((v : Nat) : Int).toNat = v := by omega
  have nv : ∀ k, k < m → so k ≠ v := fun k hk e => by
    have := (t2 k hk).2.2
    rw [e, ev] at this
    omega
  refine ⟨by omega, fun k hk => ?_, fun i j hi hj e => ?_, fun u hu hs' => ?_⟩
  · rw [h1]
    split
    · rw [ev, h2, if_pos rfl]
      omega
    · have b := t2 k (by omega)
      refine ⟨b.1, b.2.1, ?_⟩
      rw [h2]
      split
      · exact hx
      · exact b.2.2
  · rw [h1, h1] at e
    split at e
    · split at e
      · omega
      · exact absurd e.symm (nv j (by omega))
    · split at e
      · exact absurd e (nv i (by omega))
      · exact t3 i j (by omega) (by omega) e
  · by_cases q : u = v
    · subst q
      exact ⟨m, by omega, by rw [h1, if_pos rfl]⟩
    · rw [h2, if_neg q] at hs'
      obtain ⟨k, k1, k2⟩ := t4 u hu hs'
      exact ⟨k, by omega, by rw [h1, if_neg (by omega)]; exact k2⟩
theorem y_ord_re {n m v : Nat} {so sa sa' : Nat → Int} {x : Int} (h : y_ord n m so sa) (hs : 0 ≤ sa v) (hx : 0 ≤ x) (h2 : ∀ j, sa' j = if j = v then x else sa j) : y_ord n m so sa' := by
  obtain ⟨t1, t2, t3, t4⟩ := h
  refine ⟨t1, fun k hk => ?_, t3, fun u hu hs' => ?_⟩
  · have b := t2 k hk
    refine ⟨b.1, b.2.1, ?_⟩
    rw [h2]
    split
    · exact hx
    · exact b.2.2
  · rw [h2] at hs'
    split at hs'
    · rename_i q
      subst q
      exact t4 u hu hs
    · exact t4 u hu hs'
section WG
variable {X : aX} {C S d : Nat} {K0 : Option Value → aH → Nat → Nat → Prop}
theorem y_forgets_loop {node sm : Int32} {vv m : Nat} {so0 : Nat → Int} {sa : List Int32} (hv : node.toInt = vv) (hv2 : vv < 10) (hm : sm.toInt = m) (hm2 : m ≤ 10) (hi : ∀ i j, i < m → j < m → so0 i = so0 j → i = j) : ∀ (t : Nat) (h : aH) (nI kI : Int32) (n k : Nat) (so : List Int32), w_hr z_D h → w_f h 19598 = some (.int sm) → w_a h 162 = some (0, .inl so) → w_a h 160 = some (0, .inl sa) → nI.toInt = n → kI.toInt = k → k + t = m → y_fg vv so0 (y_N so) n k →
    (∀ (nI' : Int32) (n' : Nat) (so' : List Int32) (H : aH), y_fr h H [19598] [160, 162] → w_f H 19598 = some (.int nI') → nI'.toInt = n' → w_a H 162 = some (0, .inl so') → w_a H 160 = some (0, .inl (sa.set vv (Int32.ofInt (-1)))) → y_fg vv so0 (y_N so') n' m → K0 none H C S) →
    aOK s_P X d a_m182 4 [some (.ref 155), some (.int node), some (.int nI), some (.int kI)] [] h C S K0 := by
  intro t
  induction t with
  | zero =>
    intro h nI kI n k so hr g1 g2 g3 hn hk hkm hfg hK
    have hvc := (y_ofNat hv (by omega)).2
    have hnk := hfg.1
    refine w_go z_hl [4] [] 40 hr ?_
    intro x hx b1 b2
    obtain rfl := y_fi g1 hx
    refine ⟨fun q => ?_, fun q => ?_⟩
    · refine ⟨rfl, y_zini (by show 0 ≤ nI.toInt; omega) (by show nI.toInt ≤ 10; omega), ?_⟩
      refine ⟨⟨by omega, by omega⟩, by decide, fun l hl hlen hbb => ?_⟩
      obtain rfl := y_ai g3 hl
      intro H hH
      have e : y_fr h H [19598] [160, 162] := y_st (y_mo (y_rf hr) rfl rfl) hH (by repeat (first | exact w_nil | refine w_cons (Or.inl (y_m rfl)) ?_ | refine w_cons (Or.inr (by assumption)) ?_)) (by repeat (first | exact w_nil | refine w_cons (Or.inl (y_m rfl)) ?_ | refine w_cons (Or.inr (by assumption)) ?_))
      have A := hH.2.2.1 160 _ rfl
      rw [hvc] at A
      have e2 : k = m := by omega
      subst e2
      refine hK nI n so H e (hH.2.1 19598 _ rfl) hn ?_ A hfg
      exact (hH.2.2.2.2 162 rfl).trans g2
    · have : ¬ (sm.toInt ≤ kI.toInt) := y_cif q
      omega
  | succ t ih =>
    intro h nI kI n k so hr g1 g2 g3 hn hk hkm hfg hK
    have hnk := hfg.1
    have hkc := (y_ofNat hk (by omega)).2
    have hnc := (y_ofNat hn (by omega)).2
    have hik : (kI + Int32.ofInt 1).toInt = ((k + 1 : Nat) : Int) := by rw [y_inc (by omega), hk]; rfl
    have hin : (nI + Int32.ofInt 1).toInt = ((n + 1 : Nat) : Int) := by rw [y_inc (by omega), hn]; rfl
    refine w_go z_hl [4] [] 40 hr ?_
    intro x hx b1 b2
    obtain rfl := y_fi g1 hx
    refine ⟨fun q => ?_, fun q => ?_⟩
    · have : sm.toInt ≤ kI.toInt := (y_ci .ge _ _).mp q
      omega
    · refine ⟨⟨by omega, by omega⟩, fun l hl hlen hbb => ?_⟩
      obtain rfl := y_ai g2 hl
      have hel : (so.getD kI.toNatClampNeg 0).toInt = so0 k := by
        rw [hkc]
        exact hfg.2.1 k (Nat.le_refl k)
      have hmem := hbb _ (z_gd (0 : Int32) (show kI.toNatClampNeg < so.length by omega))
      refine ⟨fun q2 => ?_, fun q2 => ?_⟩
      · have q3 : (so.getD kI.toNatClampNeg 0).toInt = node.toInt := (y_ci .eq _ _).mp q2
        intro H hH
        have e : y_fr h H [] [] := y_st (y_rf hr) hH (by repeat (first | exact w_nil | refine w_cons (Or.inl (y_m rfl)) ?_ | refine w_cons (Or.inr (by assumption)) ?_)) (by repeat (first | exact w_nil | refine w_cons (Or.inl (y_m rfl)) ?_ | refine w_cons (Or.inr (by assumption)) ?_))
        refine ih H nI _ n (k + 1) so e.1 ((y_fe e rfl).trans g1) ((y_ae e rfl).trans g2) ((y_ae e rfl).trans g3) hn hik (by omega) (y_fg_skip hfg (by omega)) (fun nI' n' so' H' f1 f2 f3 f4 f5 f6 => hK nI' n' so' H' (y_sq (y_mo e rfl rfl) f1 rfl rfl) f2 f3 f4 f5 f6)
      · have q3 : ¬ ((so.getD kI.toNatClampNeg 0).toInt = node.toInt) := y_cif q2
        refine ⟨⟨by omega, by omega⟩, ⟨by omega, by omega⟩, ⟨by omega, by omega⟩, ?_⟩
        intro H hH
        have e : y_fr h H [19598] [160, 162] := y_st (y_mo (y_rf hr) rfl rfl) hH (by repeat (first | exact w_nil | refine w_cons (Or.inl (y_m rfl)) ?_ | refine w_cons (Or.inr (by assumption)) ?_)) (by repeat (first | exact w_nil | refine w_cons (Or.inl (y_m rfl)) ?_ | refine w_cons (Or.inr (by assumption)) ?_))
        have e2 : y_fr h H [] [162] := y_st (y_mo (y_rf hr) rfl rfl) hH (by repeat (first | exact w_nil | refine w_cons (Or.inl (y_m rfl)) ?_ | refine w_cons (Or.inr (by assumption)) ?_)) (by repeat (first | exact w_nil | refine w_cons (Or.inl (y_m rfl)) ?_ | refine w_cons (Or.inr (by assumption)) ?_))
        have A := hH.2.2.1 162 _ rfl
        refine ih H _ _ (n + 1) (k + 1) _ e.1 ((y_fe e2 rfl).trans g1) A ((y_ae e2 rfl).trans g3) hin hik (by omega) (y_fg_take hfg (show k < m by omega) hi (by omega) (fun j => ?_)) (fun nI' n' so' H' f1 f2 f3 f4 f5 f6 => hK nI' n' so' H' (y_sq e f1 rfl rfl) f2 f3 f4 f5 f6)
        rw [y_Nset (by omega), hnc]
        split
        · exact hel
        · rfl
theorem y_forgets {node sm : Int32} {vv m : Nat} {so sa : List Int32} {h : aH} (hr : w_hr z_D h) (hv : node.toInt = vv) (hv2 : vv < 10) (hm : sm.toInt = m) (hm2 : m ≤ 10) (hi : ∀ i j, i < m → j < m → y_N so i = y_N so j → i = j) (g1 : w_f h 19598 = some (.int sm)) (g2 : w_a h 162 = some (0, .inl so)) (g3 : w_a h 160 = some (0, .inl sa)) (hK : ∀ (nI' : Int32) (n' : Nat) (so' : List Int32) (H : aH), y_fr h H [19598] [160, 162] → w_f H 19598 = some (.int nI') → nI'.toInt = n' → w_a H 162 = some (0, .inl so') → w_a H 160 = some (0, .inl (sa.set vv (Int32.ofInt (-1)))) → y_fg vv (y_N so) (y_N so') n' m → K0 none H C S) : aOK s_P X d a_m182 0 [some (.ref 155), some (.int node), none, none] [] h C S K0 := by
  refine w_go z_hl [4] [] 40 hr ?_
  intro H hH
  have e : y_fr h H [] [] := y_st (y_rf hr) hH (by repeat (first | exact w_nil | refine w_cons (Or.inl (y_m rfl)) ?_ | refine w_cons (Or.inr (by assumption)) ?_)) (by repeat (first | exact w_nil | refine w_cons (Or.inl (y_m rfl)) ?_ | refine w_cons (Or.inr (by assumption)) ?_))
  refine y_forgets_loop hv hv2 hm hm2 hi m H _ _ 0 0 so e.1 ((y_fe e rfl).trans g1) ((y_ae e rfl).trans g2) ((y_ae e rfl).trans g3) rfl rfl (by omega) ⟨by omega, fun _ _ => rfl, fun a ha => absurd ha (by omega), fun i hi' => absurd hi' (by omega), fun a b ha => absurd ha (by omega)⟩ (fun nI' n' so' H' f1 f2 f3 f4 f5 f6 => hK nI' n' so' H' (y_sq (y_mo e rfl rfl) f1 rfl rfl) f2 f3 f4 f5 f6)
theorem p_see {h : aH} (hr : w_hr z_D h) (hJ : y_J h) {node st : Int32} (hk : ∀ (r : Int32) (H : aH), y_fr h H [19584, 19598] [160, 162] → y_J H → 0 ≤ r.toInt ∧ r.toInt ≤ 1 → K0 (some (.int r)) H C S) : aOK s_P X (d + 2) a_m181 0 [some (.ref 155), some (.int node), some (.int st)] [] h C S K0 := by
  obtain ⟨q1, q2, q3, q4, q5, q6, q7⟩ := hJ
  obtain ⟨nd, sm, so, sa, s1, s2, s3, s4, s5⟩ := q5
  obtain ⟨b1, b2⟩ := y_ndb hr s1
  refine w_go z_hl [] [178, 176, 182] 30 hr ?_
  refine ⟨rfl, y_zini (by decide) (by decide), fun H1 h1 => ?_⟩
  have e1 : y_fr h H1 [19584] [] := y_st (y_mo (y_rf hr) rfl rfl) h1 (by repeat (first | exact w_nil | refine w_cons (Or.inl (y_m rfl)) ?_ | refine w_cons (Or.inr (by assumption)) ?_)) (by repeat (first | exact w_nil | refine w_cons (Or.inl (y_m rfl)) ?_ | refine w_cons (Or.inr (by assumption)) ?_))
  have out : ∀ {G : aH}, y_fr h G [19584] [] → K0 (some (.int (Int32.ofInt 0))) G C S := fun g => hk _ _ (y_mo g rfl rfl) (y_J_fr g rfl rfl ⟨q1, q2, q3, q4, ⟨nd, sm, so, sa, s1, s2, s3, s4, s5⟩, q6, q7⟩) (by decide)
  refine q_isNode (v := node) e1.1 ((y_fe e1 rfl).trans s1) (fun H2 vv h2 hv hv2 hvc => ⟨fun n e => (by cases e), ?_⟩) (fun H2 h2 => ⟨fun n e => (by cases e), ?_⟩)
  · have e2 := y_sq e1 h2 rfl rfl
    refine w_go z_hl [] [178, 176, 182] 30 h2.1 ?_
    refine ⟨fun q => absurd q (by decide), fun _ => ?_⟩
    intro H3 h3
    have e3 := y_st e2 h3 (by repeat (first | exact w_nil | refine w_cons (Or.inl (y_m rfl)) ?_ | refine w_cons (Or.inr (by assumption)) ?_)) (by repeat (first | exact w_nil | refine w_cons (Or.inl (y_m rfl)) ?_ | refine w_cons (Or.inr (by assumption)) ?_))
    refine q_in e3.1 (fun H4 h4 l1 l2 => ⟨fun n e => (by cases e), ?_⟩) (fun H4 h4 _ => ⟨fun n e => (by cases e), ?_⟩)
    · have l1 : -1 ≤ st.toInt := by rw [y_i2l] at l1; exact l1
      have l2 : st.toInt ≤ 1 := by rw [y_i2l] at l2; exact l2
      have e4 := y_sq e3 h4 rfl rfl
      refine w_go z_hl [] [178, 176, 182] 40 e4.1 ?_
      refine ⟨fun _ => ?_, fun q => absurd q (by decide)⟩
      refine ⟨fun q => ?_, fun q => ?_⟩
      · have hst : 0 ≤ st.toInt := (y_ci .ge _ _).mp q
        refine ⟨⟨by omega, by omega⟩, fun l hl hlen hbb => ?_⟩
        obtain rfl := y_ai ((y_ae e4 rfl).trans s4) hl
        have hsn : (sa.getD node.toNatClampNeg 0).toInt = y_N sa vv := by rw [hvc]; rfl
        refine ⟨fun q => ?_, fun q => ?_⟩
        · have hs0 : 0 ≤ (sa.getD node.toNatClampNeg 0).toInt := (y_ci .ge _ _).mp q
          refine ⟨⟨by omega, by omega⟩, ⟨by omega, by omega⟩, ?_⟩
          refine ⟨by decide, fun H5 h5 => ?_⟩
          have e5 : y_fr h H5 [19584] [160] := y_st (y_mo e4 rfl rfl) h5 (by repeat (first | exact w_nil | refine w_cons (Or.inl (y_m rfl)) ?_ | refine w_cons (Or.inr (by assumption)) ?_)) (by repeat (first | exact w_nil | refine w_cons (Or.inl (y_m rfl)) ?_ | refine w_cons (Or.inr (by assumption)) ?_))
          have A := h5.2.2.1 160 _ rfl
          refine hk _ _ (y_mo e5 rfl rfl) ⟨j_net_e (y_fe e5 rfl) (y_ae e5 rfl) (y_ae e5 rfl) (y_ae e5 rfl) q1, j_dp_e (y_fe e5 rfl) (y_fe e5 rfl) (y_ae e5 rfl) q2, j_old_e (y_ae e5 rfl) (y_ae e5 rfl) (y_ae e5 rfl) (y_ae e5 rfl) (y_ae e5 rfl) (y_ae e5 rfl) q3, j_w_e (y_fe e5 rfl) (y_ae e5 rfl) q4, ⟨nd, sm, so, _, (y_fe e5 rfl).trans s1, (y_fe e5 rfl).trans s2, (y_ae e5 rfl).trans s3, A, y_ord_re (v := vv) (x := st.toInt) s5 (by omega) hst (fun j => ?_)⟩, j_kept_e (y_fe e5 rfl) (y_ae e5 rfl) (y_ae e5 rfl) (y_ae e5 rfl) (y_ae e5 rfl) q6, j_land_e (y_fe e5 rfl) (y_ae e5 rfl) q7⟩ (by decide)
          rw [hvc, y_Nset (by omega)]
        · have hs0 : ¬ (0 ≤ (sa.getD node.toNatClampNeg 0).toInt) := y_cif q
          have hlt := y_ord_lt s5 (show vv < nd.toInt.toNat by omega) (show y_N sa vv < 0 by omega)
          intro x hx c1 c2
          obtain rfl := y_fi ((y_fe e4 rfl).trans s2) hx
          have hinc : (sm + Int32.ofInt 1).toInt = sm.toInt + 1 := y_inc (by omega)
          refine ⟨⟨by omega, by omega⟩, ⟨by omega, by omega⟩, fun l2 hl2 hlen2 hbb2 => ?_⟩
          obtain rfl := y_ai ((y_ae e4 rfl).trans s3) hl2
          refine ⟨rfl, y_zini (by show 0 ≤ (sm + Int32.ofInt 1).toInt; omega) (by show (sm + Int32.ofInt 1).toInt ≤ 10; omega), ?_⟩
          refine ⟨⟨by omega, by omega⟩, ⟨by omega, by omega⟩, ?_⟩
          refine ⟨by decide, fun H5 h5 => ?_⟩
          have e5 : y_fr h H5 [19584, 19598] [160, 162] := y_st (y_mo e4 rfl rfl) h5 (by repeat (first | exact w_nil | refine w_cons (Or.inl (y_m rfl)) ?_ | refine w_cons (Or.inr (by assumption)) ?_)) (by repeat (first | exact w_nil | refine w_cons (Or.inl (y_m rfl)) ?_ | refine w_cons (Or.inr (by assumption)) ?_))
          have A := h5.2.2.1 160 _ rfl
          have B := h5.2.2.1 162 _ rfl
          have F := h5.2.1 19598 _ rfl
          refine hk _ _ (y_mo e5 rfl rfl) ⟨j_net_e (y_fe e5 rfl) (y_ae e5 rfl) (y_ae e5 rfl) (y_ae e5 rfl) q1, j_dp_e (y_fe e5 rfl) (y_fe e5 rfl) (y_ae e5 rfl) q2, j_old_e (y_ae e5 rfl) (y_ae e5 rfl) (y_ae e5 rfl) (y_ae e5 rfl) (y_ae e5 rfl) (y_ae e5 rfl) q3, j_w_e (y_fe e5 rfl) (y_ae e5 rfl) q4, ⟨nd, _, _, _, (y_fe e5 rfl).trans s1, F, B, A, ?_⟩, j_kept_e (y_fe e5 rfl) (y_ae e5 rfl) (y_ae e5 rfl) (y_ae e5 rfl) (y_ae e5 rfl) q6, j_land_e (y_fe e5 rfl) (y_ae e5 rfl) q7⟩ (by decide)
          have em : (sm + Int32.ofInt 1).toInt.toNat = sm.toInt.toNat + 1 := by omega
          rw [em]
          refine y_ord_add (v := vv) (x := st.toInt) s5 (by omega) (by omega) hst (fun j => ?_) (fun j => ?_)
          · rw [y_Nset (show sm.toNatClampNeg < so.length by show sm.toInt.toNat < _; omega), hv]
            rfl
          · rw [hvc, y_Nset (by omega)]
      · intro H5 h5
        have e5 := y_st e4 h5 (by repeat (first | exact w_nil | refine w_cons (Or.inl (y_m rfl)) ?_ | refine w_cons (Or.inr (by assumption)) ?_)) (by repeat (first | exact w_nil | refine w_cons (Or.inl (y_m rfl)) ?_ | refine w_cons (Or.inr (by assumption)) ?_))
        have smb := y_smb hr s2
        refine y_forgets (m := sm.toInt.toNat) e5.1 hv (by omega) (by have := (y_smb hr s2).1; omega) (by have := s5.1; omega) s5.2.2.1 ((y_fe e5 rfl).trans s2) ((y_ae e5 rfl).trans s3) ((y_ae e5 rfl).trans s4) (fun nI' n' so' H6 f1 f2 f3 f4 f5 f6 => ⟨fun n e => (by cases e), ?_⟩)
        have e6 : y_fr h H6 [19584, 19598] [160, 162] := y_sq (y_mo e5 rfl rfl) f1 rfl rfl
        refine w_go z_hl [] [178, 176, 182] 30 e6.1 ?_
        refine ⟨by decide, fun H7 h7 => ?_⟩
        have g7 : y_fr H6 H7 [] [] := y_st (y_rf f1.1) h7 (by repeat (first | exact w_nil | refine w_cons (Or.inl (y_m rfl)) ?_ | refine w_cons (Or.inr (by assumption)) ?_)) (by repeat (first | exact w_nil | refine w_cons (Or.inl (y_m rfl)) ?_ | refine w_cons (Or.inr (by assumption)) ?_))
        have e7 := y_sq e6 g7 rfl rfl
        have hsal : vv < sa.length := by
          obtain ⟨l, z1, z2, z3⟩ := w_arrI hr (o := 160) (t := 0) (n := 10) (lo := -1) (hi := 1) (by decide) rfl
          obtain rfl := y_ai s4 (w_a_at z1)
          omega
        refine hk _ _ e7 ⟨j_net_e (y_fe e7 rfl) (y_ae e7 rfl) (y_ae e7 rfl) (y_ae e7 rfl) q1, j_dp_e (y_fe e7 rfl) (y_fe e7 rfl) (y_ae e7 rfl) q2, j_old_e (y_ae e7 rfl) (y_ae e7 rfl) (y_ae e7 rfl) (y_ae e7 rfl) (y_ae e7 rfl) (y_ae e7 rfl) q3, j_w_e (y_fe e7 rfl) (y_ae e7 rfl) q4, ⟨nd, nI', so', _, (y_fe e7 rfl).trans s1, (y_fe g7 rfl).trans f2, (y_ae g7 rfl).trans f4, (y_ae g7 rfl).trans f5, ?_⟩, j_kept_e (y_fe e7 rfl) (y_ae e7 rfl) (y_ae e7 rfl) (y_ae e7 rfl) (y_ae e7 rfl) q6, j_land_e (y_fe e7 rfl) (y_ae e7 rfl) q7⟩ (by decide)
        rw [show nI'.toInt.toNat = n' by omega]
        refine y_ord_fg s5 f6 (fun j => ?_)
        rw [y_Nset hsal]
        rfl
    · refine w_go z_hl [] [178, 176, 182] 30 h4.1 ?_
      refine ⟨fun q => absurd q (by decide), fun _ => ⟨by decide, fun H5 h5 => ?_⟩⟩
      exact out (y_st (y_sq e3 h4 rfl rfl) h5 (by repeat (first | exact w_nil | refine w_cons (Or.inl (y_m rfl)) ?_ | refine w_cons (Or.inr (by assumption)) ?_)) (by repeat (first | exact w_nil | refine w_cons (Or.inl (y_m rfl)) ?_ | refine w_cons (Or.inr (by assumption)) ?_)))
  · refine w_go z_hl [] [178, 176, 182] 30 h2.1 ?_
    refine ⟨fun _ => ⟨by decide, fun H3 h3 => ?_⟩, fun q => absurd q (by decide)⟩
    exact out (y_st (y_sq e1 h2 rfl rfl) h3 (by repeat (first | exact w_nil | refine w_cons (Or.inl (y_m rfl)) ?_ | refine w_cons (Or.inr (by assumption)) ?_)) (by repeat (first | exact w_nil | refine w_cons (Or.inl (y_m rfl)) ?_ | refine w_cons (Or.inr (by assumption)) ?_)))
end WG
end PT27b
section PT27c
/-! ===== v3: the reference's keep ===== -/
theorem y_mulS {a b : Int32} {m n : Nat} (p : Nat) (ha : a.toInt = m) (hb : b.toInt = n) (hp : m * n = p) (h : p < 2147483648) : (a * b).toInt = p := by
  rw [Int32.toInt_mul, ha, hb, ← Int.natCast_mul, hp]
  exact Int.bmod_eq_of_le (by omega) (by omega)
theorem y_addS {a b : Int32} {m n : Nat} (p : Nat) (ha : a.toInt = m) (hb : b.toInt = n) (hp : m + n = p) (h : p < 2147483648) : (a + b).toInt = p := by
  rw [Int32.toInt_add, ha, hb, show (m : Int) + n = p by omega]
  exact Int.bmod_eq_of_le (by omega) (by omega)
theorem y_c8 : ((Int8.ofInt 8).toInt32).toInt = ((8 : Nat) : Int) := by decide
theorem y_c10 : ((Int8.ofInt 10).toInt32).toInt = ((10 : Nat) : Int) := by decide
theorem y_c6 : ((Int8.ofInt 6).toInt32).toInt = ((6 : Nat) : Int) := by decide
theorem y_i10 {a b : Int32} {i v : Nat} (ha : a.toInt = i) (hb : b.toInt = v) (hi : i < 1000) (hv : v < 1000) : ((Int8.ofInt 10).toInt32 * a + b).toInt = ((10 * i + v : Nat) : Int) := y_addS _ (y_mulS _ y_c10 ha rfl (by omega)) hb rfl (by omega)
theorem y_i8 {a b : Int32} {i v : Nat} (ha : a.toInt = i) (hb : b.toInt = v) (hi : i < 1000) (hv : v < 1000) : ((Int8.ofInt 8).toInt32 * a + b).toInt = ((8 * i + v : Nat) : Int) := y_addS _ (y_mulS _ y_c8 ha rfl (by omega)) hb rfl (by omega)
theorem y_i6 {a b : Int32} {i v : Nat} (ha : a.toInt = i) (hb : b.toInt = v) (hi : i < 1000) (hv : v < 1000) : ((Int8.ofInt 6).toInt32 * a + b).toInt = ((6 * i + v : Nat) : Int) := y_addS _ (y_mulS _ y_c6 ha rfl (by omega)) hb rfl (by omega)
theorem y_cl1 {x : Int32} {n : Nat} (h : x.toInt = n) : x.toNatClampNeg = n := by
  show x.toInt.toNat = n
  omega
theorem y_ord_c {n m : Nat} {so sa so' sa' : Nat → Int} (h : y_ord n m so sa) (h1 : ∀ k, k < n → so' k = so k) (h2 : ∀ k, k < n → sa' k = sa k) : y_ord n m so' sa' := by
  obtain ⟨t1, t2, t3, t4⟩ := h
  refine ⟨t1, fun k hk => ?_, fun i j hi hj e => ?_, fun v hv hs => ?_⟩
  · have b := t2 k hk
    rw [h1 k (by omega), h2 _ (by omega)]
    exact b
  · rw [h1 i (by omega), h1 j (by omega)] at e
    exact t3 i j hi hj e
  · rw [h2 v hv] at hs
    obtain ⟨k, k1, k2⟩ := t4 v hv hs
    exact ⟨k, k1, by rw [h1 k (by omega)]; exact k2⟩
/-- tables that are kept -/
def y_kt (de kt : List Int32) : Prop := ∀ i, i < 240 → y_N kt i ≤ y_N de (i % 80 / 8)
section WG
variable {X : aX} {C S d : Nat} {K0 : Option Value → aH → Nat → Nat → Prop}
theorem y_keep_in {iI vI : Int32} {i v : Nat} {ta de : List Int32} (hi : iI.toInt = i) (hv : vI.toInt = v) (hi3 : i < 3) (hv10 : v < 10) (c2 : ∀ i, i < 80 → y_N ta i ≤ y_N de (i / 8)) : ∀ (t : Nat) (h : aH) (kI : Int32) (k : Nat) (kt : List Int32), w_hr z_D h → w_a h 194 = some (0, .inl kt) → w_a h 158 = some (0, .inl ta) → kI.toInt = k → k + t = 8 → y_kt de kt →
    (∀ (H : aH) (kt' : List Int32) (kI' : Int32), y_fr h H [] [194] → w_a H 194 = some (0, .inl kt') → y_kt de kt' → aOK s_P X d a_m279 163 [some (.ref 155), some (.int iI), some (.int vI), some (.int kI')] [] H C S K0) →
    aOK s_P X d a_m279 124 [some (.ref 155), some (.int iI), some (.int vI), some (.int kI)] [] h C S K0 := by
  intro t
  induction t with
  | zero =>
    intro h kI k kt hr g1 g2 hk hkt hq hK
    refine w_go z_hl [124, 163] [] 40 hr ?_
    refine ⟨fun q => ?_, fun q => ?_⟩
    · intro H hH
      have e : y_fr h H [] [194] := y_st (y_mo (y_rf hr) rfl rfl) hH (by repeat (first | exact w_nil | refine w_cons (Or.inl (y_m rfl)) ?_ | refine w_cons (Or.inr (by assumption)) ?_)) (by repeat (first | exact w_nil | refine w_cons (Or.inl (y_m rfl)) ?_ | refine w_cons (Or.inr (by assumption)) ?_))
      have e0 : y_fr h H [] [] := y_st (y_mo (y_rf hr) rfl rfl) hH (by repeat (first | exact w_nil | refine w_cons (Or.inl (y_m rfl)) ?_ | refine w_cons (Or.inr (by assumption)) ?_)) (by repeat (first | exact w_nil | refine w_cons (Or.inl (y_m rfl)) ?_ | refine w_cons (Or.inr (by assumption)) ?_))
      exact hK H kt kI e ((y_ae e0 rfl).trans g1) hq
    · have : ¬ (((Int8.ofInt 8).toInt32).toInt ≤ kI.toInt) := y_cif q
      rw [y_c8] at this
      omega
  | succ t ih =>
    intro h kI k kt hr g1 g2 hk hkt hq hK
    refine w_go z_hl [124, 163] [] 40 hr ?_
    refine ⟨fun q => ?_, fun q => ?_⟩
    · have : ((Int8.ofInt 8).toInt32).toInt ≤ kI.toInt := (y_ci .ge _ _).mp q
      rw [y_c8] at this
      omega
    · have i1 := y_i8 (y_i10 hi hv (by omega) (by omega)) hk (by omega) (by omega)
      have i2 := y_i8 hv hk (by omega) (by omega)
      have c1 := y_cl1 i1
      have c3 := y_cl1 i2
      have hik : (kI + Int32.ofInt 1).toInt = ((k + 1 : Nat) : Int) := by rw [y_inc (by omega), hk]; rfl
      have b1 : 0 ≤ ((Int8.ofInt 8).toInt32 * ((Int8.ofInt 10).toInt32 * iI + vI) + kI).toInt ∧ ((Int8.ofInt 8).toInt32 * ((Int8.ofInt 10).toInt32 * iI + vI) + kI).toInt < ((240 : Nat) : Int) := by omega
      have b2 : 0 ≤ ((Int8.ofInt 8).toInt32 * vI + kI).toInt ∧ ((Int8.ofInt 8).toInt32 * vI + kI).toInt < ((80 : Nat) : Int) := by omega
      refine ⟨b2, fun l hl hlen hbb => ?_⟩
      obtain rfl := y_ai g2 hl
      have hm := hbb _ (z_gd (0 : Int32) (show ((Int8.ofInt 8).toInt32 * vI + kI).toNatClampNeg < ta.length by omega))
      refine ⟨b1, hm, fun l2 hl2 hlen2 hbb2 => ?_⟩
      obtain rfl := y_ai g1 hl2
      intro H hH
      have e : y_fr h H [] [194] := y_st (y_mo (y_rf hr) rfl rfl) hH (by repeat (first | exact w_nil | refine w_cons (Or.inl (y_m rfl)) ?_ | refine w_cons (Or.inr (by assumption)) ?_)) (by repeat (first | exact w_nil | refine w_cons (Or.inl (y_m rfl)) ?_ | refine w_cons (Or.inr (by assumption)) ?_))
      refine ih H _ (k + 1) _ e.1 (hH.2.2.1 194 _ rfl) ((y_ae e rfl).trans g2) hik (by omega) (fun j hj => ?_) (fun H' kt' kI' f1 f2 f3 => hK H' kt' kI' (y_sq e f1 rfl rfl) f2 f3)
      rw [c1, y_Nset (by omega)]
      split
      · rename_i ej
        subst ej
        rw [c3, show (8 * (10 * i + v) + k) % 80 / 8 = v by omega]
        have := c2 (8 * v + k) (by omega)
        rw [show (8 * v + k) / 8 = v by omega] at this
        exact this
      · exact hq j hj
/-- rows that are kept: the row i up to v as it is, the others as they were -/
def y_row (i v : Nat) (a b0 b : List Int32) : Prop := ∀ j, y_N b j = if 10 * i ≤ j ∧ j < 10 * i + v then y_N a (j - 10 * i) else y_N b0 j
theorem y_row_s {i v : Nat} {a b0 b : List Int32} (h : y_row i v a b0 b) (hl : 10 * i + v < b.length) : y_row i (v + 1) a b0 (b.set (10 * i + v) (a.getD v 0)) := by
  intro j
  rw [y_Nset hl]
  split
  · rename_i e
    subst e
    rw [if_pos (by omega), show 10 * i + v - 10 * i = v by omega]
    rfl
  · rw [h j]
    by_cases q : 10 * i ≤ j ∧ j < 10 * i + v
    · rw [if_pos q, if_pos (by omega)]
    · rw [if_neg q, if_neg (by omega)]
theorem y_keep_out {iI : Int32} {i : Nat} {ta de so sa fo co ks0 ko0 kc0 : List Int32} (hi : iI.toInt = i) (hi3 : i < 3) (c2 : ∀ i, i < 80 → y_N ta i ≤ y_N de (i / 8)) : ∀ (t : Nat) (h : aH) (vI : Int32) (v : Nat) (o3 : Option Value) (kf ks kc ko kt : List Int32), w_hr z_D h → w_a h 189 = some (0, .inl kf) → w_a h 190 = some (0, .inl ks) → w_a h 191 = some (0, .inl kc) → w_a h 192 = some (0, .inl ko) → w_a h 194 = some (0, .inl kt) → w_a h 158 = some (0, .inl ta) → w_a h 159 = some (0, .inl fo) → w_a h 160 = some (0, .inl sa) → w_a h 161 = some (0, .inl co) → w_a h 162 = some (0, .inl so) → vI.toInt = v → v + t = 10 → y_kt de kt → y_row i v sa ks0 ks → y_row i v so ko0 ko → y_row i v co kc0 kc →
    (∀ (H : aH) (ks' ko' kt' kc' : List Int32), y_fr h H [] [189, 190, 191, 192, 194] → w_a H 190 = some (0, .inl ks') → w_a H 192 = some (0, .inl ko') → w_a H 194 = some (0, .inl kt') → y_kt de kt' → y_row i 10 sa ks0 ks' → y_row i 10 so ko0 ko' → w_a H 191 = some (0, .inl kc') → y_row i 10 co kc0 kc' → K0 (some (.int (Int32.ofInt 1))) H C S) →
    aOK s_P X d a_m279 48 [some (.ref 155), some (.int iI), some (.int vI), o3] [] h C S K0 := by
  intro t
  induction t with
  | zero =>
    intro h vI v o3 kf ks kc ko kt hr a1 a2 a3 a4 a5 a6 a7 a8 a9 a10 hv hvt r1 r2 r3 r4 hK
    refine w_go z_hl [48, 124] [] 80 hr ?_
    refine ⟨fun q => ?_, fun q => ?_⟩
    · refine ⟨by decide, fun H hH => ?_⟩
      have e : y_fr h H [] [189, 190, 191, 192, 194] := y_st (y_mo (y_rf hr) rfl rfl) hH (by repeat (first | exact w_nil | refine w_cons (Or.inl (y_m rfl)) ?_ | refine w_cons (Or.inr (by assumption)) ?_)) (by repeat (first | exact w_nil | refine w_cons (Or.inl (y_m rfl)) ?_ | refine w_cons (Or.inr (by assumption)) ?_))
      have e0 : y_fr h H [] [] := y_st (y_mo (y_rf hr) rfl rfl) hH (by repeat (first | exact w_nil | refine w_cons (Or.inl (y_m rfl)) ?_ | refine w_cons (Or.inr (by assumption)) ?_)) (by repeat (first | exact w_nil | refine w_cons (Or.inl (y_m rfl)) ?_ | refine w_cons (Or.inr (by assumption)) ?_))
      have ev : v = 10 := by omega
      subst ev
      exact hK H ks ko kt kc e ((y_ae e0 rfl).trans a2) ((y_ae e0 rfl).trans a4) ((y_ae e0 rfl).trans a5) r1 r2 r3 ((y_ae e0 rfl).trans a3) r4
    · have : ¬ (((Int8.ofInt 10).toInt32).toInt ≤ vI.toInt) := y_cif q
      rw [y_c10] at this
      omega
  | succ t ih =>
    intro h vI v o3 kf ks kc ko kt hr a1 a2 a3 a4 a5 a6 a7 a8 a9 a10 hv hvt r1 r2 r3 r4 hK
    have i1 := y_i10 hi hv (by omega) (by omega)
    have c1 := y_cl1 i1
    have cv := y_cl1 hv
    have hiv : (vI + Int32.ofInt 1).toInt = ((v + 1 : Nat) : Int) := by rw [y_inc (by omega), hv]; rfl
    have b1 : 0 ≤ ((Int8.ofInt 10).toInt32 * iI + vI).toInt ∧ ((Int8.ofInt 10).toInt32 * iI + vI).toInt < ((30 : Nat) : Int) := by omega
    have bv : 0 ≤ vI.toInt ∧ vI.toInt < ((10 : Nat) : Int) := by omega
    refine w_go z_hl [48, 124] [] 80 hr ?_
    refine ⟨fun q => ?_, fun q => ?_⟩
    · have : ((Int8.ofInt 10).toInt32).toInt ≤ vI.toInt := (y_ci .ge _ _).mp q
      rw [y_c10] at this
      omega
    · refine ⟨bv, fun l hl len bb => ⟨b1, bb _ (z_gd (0 : Int32) (by omega)), fun l2 hl2 len2 bb2 => ?_⟩⟩
      obtain rfl := y_ai a7 hl
      obtain rfl := y_ai a1 hl2
      refine ⟨bv, fun l hl len bb => ⟨b1, bb _ (z_gd (0 : Int32) (by omega)), fun l2 hl2 len2 bb2 => ?_⟩⟩
      obtain rfl := y_ai a8 hl
      obtain rfl := y_ai a2 hl2
      refine ⟨bv, fun l hl len bb => ⟨b1, bb _ (z_gd (0 : Int32) (by omega)), fun l2 hl2 len2 bb2 => ?_⟩⟩
      obtain rfl := y_ai a9 hl
      obtain rfl := y_ai a3 hl2
      refine ⟨bv, fun l hl len bb => ⟨b1, bb _ (z_gd (0 : Int32) (by omega)), fun l2 hl2 len2 bb2 => ?_⟩⟩
      obtain rfl := y_ai a10 hl
      obtain rfl := y_ai a4 hl2
      intro H hH
      have e : y_fr h H [] [189, 190, 191, 192, 194] := y_st (y_mo (y_rf hr) rfl rfl) hH (by repeat (first | exact w_nil | refine w_cons (Or.inl (y_m rfl)) ?_ | refine w_cons (Or.inr (by assumption)) ?_)) (by repeat (first | exact w_nil | refine w_cons (Or.inl (y_m rfl)) ?_ | refine w_cons (Or.inr (by assumption)) ?_))
      have e2 : y_fr h H [] [189, 190, 191, 192] := y_st (y_mo (y_rf hr) rfl rfl) hH (by repeat (first | exact w_nil | refine w_cons (Or.inl (y_m rfl)) ?_ | refine w_cons (Or.inr (by assumption)) ?_)) (by repeat (first | exact w_nil | refine w_cons (Or.inl (y_m rfl)) ?_ | refine w_cons (Or.inr (by assumption)) ?_))
      have A1 := hH.2.2.1 189 _ rfl
      have A2 := hH.2.2.1 190 _ rfl
      have A3 := hH.2.2.1 191 _ rfl
      have A4 := hH.2.2.1 192 _ rfl
      refine y_keep_in hi hv hi3 (by omega) c2 8 H _ 0 kt e.1 ((y_ae e2 rfl).trans a5) ((y_ae e2 rfl).trans a6) rfl rfl r1 (fun H2 kt' kI' f1 f2 f3 => ?_)
      refine w_go z_hl [48, 124] [] 80 f1.1 ?_
      intro H3 h3
      have g3 : y_fr H2 H3 [] [] := y_st (y_rf f1.1) h3 (by repeat (first | exact w_nil | refine w_cons (Or.inl (y_m rfl)) ?_ | refine w_cons (Or.inr (by assumption)) ?_)) (by repeat (first | exact w_nil | refine w_cons (Or.inl (y_m rfl)) ?_ | refine w_cons (Or.inr (by assumption)) ?_))
      have g4 : y_fr H H3 [] [194] := y_sq f1 g3 rfl rfl
      have g5 : y_fr h H3 [] [189, 190, 191, 192, 194] := y_sq e g4 rfl rfl
      refine ih H3 _ (v + 1) _ _ _ _ _ kt' g3.1 ((y_ae g4 rfl).trans A1) ((y_ae g4 rfl).trans A2) ((y_ae g4 rfl).trans A3) ((y_ae g4 rfl).trans A4) ((y_ae g3 rfl).trans f2) ((y_ae g5 rfl).trans a6) ((y_ae g5 rfl).trans a7) ((y_ae g5 rfl).trans a8) ((y_ae g5 rfl).trans a9) ((y_ae g5 rfl).trans a10) hiv (by omega) f3 ?_ ?_ ?_ (fun H' ks' ko' kt'' kc'' u1 u2 u3 u4 u5 u6 u7 u8 u9 => hK H' ks' ko' kt'' kc'' (y_sq g5 u1 rfl rfl) u2 u3 u4 u5 u6 u7 u8 u9)
      · rw [c1, cv]
        exact y_row_s r2 (by omega)
      · rw [c1, cv]
        exact y_row_s r3 (by omega)
      · rw [c1, cv]
        exact y_row_s r4 (by omega)
theorem p_keep {h : aH} (hr : w_hr z_D h) (hJ : y_J h) (hC : j_cost h) {iI : Int32} (hk : ∀ (r : Int32) (H : aH), y_fr h H [19584] [187, 188, 189, 190, 191, 192, 193, 194] → y_J H → j_cost H → 0 ≤ r.toInt ∧ r.toInt ≤ 1 → K0 (some (.int r)) H C S) : aOK s_P X (d + 1) a_m279 0 [some (.ref 155), some (.int iI), none, none] [] h C S K0 := by
  have hJ' := hJ
  obtain ⟨q1, q2, q3, q4, q5, q6, q7⟩ := hJ'
  obtain ⟨nd, le, de, ta, n1, n2, n3, n4, c1, c2, c3, c4, c5⟩ := q1
  obtain ⟨nd', sm, so, sa, s1, s2, s3, s4, s5⟩ := q5
  obtain rfl := y_fi n1 s1
  obtain ⟨nd', kn, km, ko, ks, k1, k2, k3, k4, k5, k6⟩ := q6
  obtain rfl := y_fi n1 k1
  obtain ⟨de', to, kt, sn, sl, sh, o1, o2, o3, o4, o5, o6, o7, o8, o9⟩ := q3
  obtain rfl := y_ai n3 o1
  refine w_go z_hl [48] [176] 30 hr ?_
  refine ⟨rfl, y_zini (by decide) (by decide), fun H1 h1 => ?_⟩
  have e1 : y_fr h H1 [19584] [] := y_st (y_mo (y_rf hr) rfl rfl) h1 (by repeat (first | exact w_nil | refine w_cons (Or.inl (y_m rfl)) ?_ | refine w_cons (Or.inr (by assumption)) ?_)) (by repeat (first | exact w_nil | refine w_cons (Or.inl (y_m rfl)) ?_ | refine w_cons (Or.inr (by assumption)) ?_))
  refine q_in e1.1 (fun H2 h2 l1 l2 => ⟨fun n e => (by cases e), ?_⟩) (fun H2 h2 _ => ⟨fun n e => (by cases e), ?_⟩)
  · have l1 : 0 ≤ iI.toInt := by rw [y_i2l] at l1; exact l1
    have l2 : iI.toInt ≤ 2 := by rw [y_i2l] at l2; exact l2
    obtain ⟨i, hi⟩ : ∃ i : Nat, iI.toInt = i := ⟨iI.toInt.toNat, by omega⟩
    have ci := y_cl1 hi
    have e2 := y_sq e1 h2 rfl rfl
    refine w_go z_hl [48] [176] 40 e2.1 ?_
    refine ⟨fun _ => ?_, fun q => absurd q (by decide)⟩
    refine ⟨⟨by omega, by omega⟩, by decide, fun l hl len bb => ?_⟩
    intro x hx b1 b2
    obtain rfl := y_fi ((y_fe e2 rfl).trans n1) hx
    refine ⟨⟨by omega, by omega⟩, ⟨by omega, by omega⟩, fun l2 hl2 len2 bb2 => ?_⟩
    obtain rfl := y_ai ((y_ae e2 rfl).trans k2) hl2
    intro y hy b3 b4
    obtain rfl := y_fi ((y_fe e2 rfl).trans s2) hy
    refine ⟨⟨by omega, by omega⟩, ⟨by omega, by omega⟩, fun l3 hl3 len3 bb3 => ?_⟩
    obtain rfl := y_ai ((y_ae e2 rfl).trans k3) hl3
    intro H3 h3
    have e3 : y_fr h H3 [19584] [187, 188, 193] := y_st (y_mo e2 rfl rfl) h3 (by repeat (first | exact w_nil | refine w_cons (Or.inl (y_m rfl)) ?_ | refine w_cons (Or.inr (by assumption)) ?_)) (by repeat (first | exact w_nil | refine w_cons (Or.inl (y_m rfl)) ?_ | refine w_cons (Or.inr (by assumption)) ?_))
    have A1 := h3.2.2.1 187 _ rfl
    have A2 := h3.2.2.1 193 _ rfl
    obtain ⟨kf, z1, z2, -⟩ := w_arrI e3.1 (o := 189) (t := 0) (n := 30) (lo := -1) (hi := 1) (by decide) rfl
    obtain ⟨kc, z3, z4, -⟩ := w_arrI e3.1 (o := 191) (t := 0) (n := 30) (lo := 0) (hi := 99) (by decide) rfl
    obtain ⟨fo, z5, z6, -⟩ := w_arrI e3.1 (o := 159) (t := 0) (n := 10) (lo := -1) (hi := 1) (by decide) rfl
    obtain ⟨co, z7, z8, -⟩ := w_arrI e3.1 (o := 161) (t := 0) (n := 10) (lo := 0) (hi := 99) (by decide) rfl
    obtain ⟨ndc, co', knc, kcc, x1, x2, x3, x4, x5, x6⟩ := id hC
    obtain rfl := y_fi n1 x1
    obtain rfl := y_ai ((y_ae e3 rfl).trans x2) (w_a_at z7)
    obtain rfl := y_ai ((y_ae e3 rfl).trans x4) (w_a_at z3)
    obtain rfl := y_ai k2 x3
    refine y_keep_out (de := de) (ks0 := ks) (ko0 := ko) (kc0 := kcc) hi (by omega) c2 10 H3 _ 0 none kf ks kcc ko kt e3.1 (w_a_at z1) ((y_ae e3 rfl).trans k5) (w_a_at z3) ((y_ae e3 rfl).trans k4) ((y_ae e3 rfl).trans o3) ((y_ae e3 rfl).trans n4) (w_a_at z5) ((y_ae e3 rfl).trans s4) (w_a_at z7) ((y_ae e3 rfl).trans s3) rfl rfl o8 (fun j => by rw [if_neg (by omega)]) (fun j => by rw [if_neg (by omega)]) (fun j => by rw [if_neg (by omega)]) (fun H4 ks' ko' kt' kc' f1 f2 f3 f4 f5 f6 f7 f8 f9 => ?_)
    have e4 : y_fr h H4 [19584] [187, 188, 189, 190, 191, 192, 193, 194] := y_sq (y_mo e3 rfl rfl) f1 rfl rfl
    have HC4 : j_cost H4 := by
      refine ⟨nd, co', _, kc', (y_fe e4 rfl).trans n1, (y_ae e4 rfl).trans x2, (y_ae f1 rfl).trans A1, f8, x5, fun j v hj hv => ?_⟩
      rw [ci, y_Nnset (by omega)] at hv
      rw [f9]
      by_cases q : j = i
      · subst q
        rw [if_pos rfl] at hv
        rw [if_pos (by omega), show 10 * j + v - 10 * j = v by omega]
        exact x5 v (by omega)
      · rw [if_neg q] at hv
        have hb10 : y_Nn kn j ≤ 10 := by
          have := (k6 j hj).1
          unfold y_N at this
          unfold y_Nn
          omega
        rw [if_neg (by omega)]
        exact x6 j v hj hv
    refine hk _ _ e4 ⟨⟨nd, le, de, ta, (y_fe e4 rfl).trans n1, (y_ae e4 rfl).trans n2, (y_ae e4 rfl).trans n3, (y_ae e4 rfl).trans n4, c1, c2, c3, c4, c5⟩, j_dp_e (y_fe e4 rfl) (y_fe e4 rfl) (y_ae e4 rfl) q2, ⟨de, to, kt', sn, sl, sh, (y_ae e4 rfl).trans n3, (y_ae e4 rfl).trans o2, f4, (y_ae e4 rfl).trans o4, (y_ae e4 rfl).trans o5, (y_ae e4 rfl).trans o6, o7, f5, o9⟩, j_w_e (y_fe e4 rfl) (y_ae e4 rfl) q4, ⟨nd, sm, so, sa, (y_fe e4 rfl).trans n1, (y_fe e4 rfl).trans s2, (y_ae e4 rfl).trans s3, (y_ae e4 rfl).trans s4, s5⟩, ⟨nd, _, _, ko', ks', (y_fe e4 rfl).trans n1, (y_ae f1 rfl).trans A1, (y_ae f1 rfl).trans A2, f3, f2, fun j hj => ?_⟩, j_land_e (y_fe e4 rfl) (y_ae e4 rfl) q7⟩ HC4 (by decide)
    rw [ci]
    have en : y_Nn (kn.set i nd) j = if j = i then nd.toInt.toNat else y_Nn kn j := y_Nnset (by omega)
    have en2 : y_N (kn.set i nd) j = if j = i then nd.toInt else y_N kn j := y_Nset (by omega)
    have em : y_Nn (km.set i sm) j = if j = i then sm.toInt.toNat else y_Nn km j := y_Nnset (by omega)
    rw [en, en2, em]
    by_cases q : j = i
    · subst q
      rw [if_pos rfl, if_pos rfl, if_pos rfl]
      refine ⟨Int.le_refl _, y_ord_c s5 (fun k hk' => ?_) (fun k hk' => ?_)⟩
      · rw [f7, if_pos (by omega), show 10 * j + k - 10 * j = k by omega]
      · rw [f6, if_pos (by omega), show 10 * j + k - 10 * j = k by omega]
    · rw [if_neg q, if_neg q, if_neg q]
      have kj := k6 j hj
      have hb10 : y_Nn kn j ≤ 10 := by
        unfold y_Nn
        have := kj.1
        unfold y_N at this
        omega
      refine ⟨kj.1, y_ord_c kj.2 (fun k hk' => ?_) (fun k hk' => ?_)⟩
      · rw [f7, if_neg (by omega)]
      · rw [f6, if_neg (by omega)]
  · refine w_go z_hl [48] [176] 30 h2.1 ?_
    refine ⟨fun q => absurd q (by decide), fun _ => ⟨by decide, fun H3 h3 => ?_⟩⟩
    have g := y_st (y_sq e1 h2 rfl rfl) h3 (by repeat (first | exact w_nil | refine w_cons (Or.inl (y_m rfl)) ?_ | refine w_cons (Or.inr (by assumption)) ?_)) (by repeat (first | exact w_nil | refine w_cons (Or.inl (y_m rfl)) ?_ | refine w_cons (Or.inr (by assumption)) ?_))
    exact hk _ _ (y_mo g rfl rfl) (y_J_fr g rfl rfl hJ) (j_cost_e g rfl rfl hC) (by decide)
end WG
end PT27c
section PT27d
/-! ===== v3: the reference's again ===== -/
theorem y_ord_x {n p m : Nat} {so sa ko ks : Nat → Int} (h : y_ord p m ko ks) (hp : p ≤ n) (h1 : ∀ k, k < n → so k = ko k) (h2 : ∀ k, k < n → sa k = if k < p then ks k else -1) : y_ord n m so sa := by
  obtain ⟨t1, t2, t3, t4⟩ := h
  refine ⟨by omega, fun k hk => ?_, fun i j hi hj e => ?_, fun v hv hs => ?_⟩
  · have b := t2 k hk
    rw [h1 k (by omega), h2 _ (by omega), if_pos (by omega)]
    exact ⟨b.1, by omega, b.2.2⟩
  · rw [h1 i (by omega), h1 j (by omega)] at e
    exact t3 i j hi hj e
  · rw [h2 v hv] at hs
    split at hs
    · obtain ⟨k, k1, k2⟩ := t4 v (by omega) hs
      exact ⟨k, k1, by rw [h1 k (by omega)]; exact k2⟩
    · omega
/-- a table fits depths -/
def y_tb (de ta : List Int32) : Prop := ∀ i, i < 80 → y_N ta i ≤ y_N de (i / 8)
section WG
variable {X : aX} {C S d : Nat} {K0 : Option Value → aH → Nat → Nat → Prop}
theorem y_again_in {iI vI : Int32} {i v : Nat} {kt de : List Int32} (hi : iI.toInt = i) (hv : vI.toInt = v) (hi3 : i < 3) (hv10 : v < 10) (c2 : y_kt de kt) : ∀ (t : Nat) (h : aH) (kI : Int32) (k : Nat) (ta : List Int32), w_hr z_D h → w_a h 194 = some (0, .inl kt) → w_a h 158 = some (0, .inl ta) → kI.toInt = k → k + t = 8 → y_tb de ta →
    (∀ (H : aH) (ta' : List Int32) (kI' : Int32), y_fr h H [] [158] → w_a H 158 = some (0, .inl ta') → y_tb de ta' → aOK s_P X d a_m280 40 [some (.ref 155), some (.int iI), some (.int (vI + Int32.ofInt 1)), some (.int (Int32.ofInt 1)), some (.int kI')] [] H C S K0) →
    aOK s_P X d a_m280 164 [some (.ref 155), some (.int iI), some (.int vI), some (.int (Int32.ofInt 1)), some (.int kI)] [] h C S K0 := by
  intro t
  induction t with
  | zero =>
    intro h kI k ta hr g1 g2 hk hkt hq hK
    refine w_go z_hl [164, 40] [] 40 hr ?_
    refine ⟨fun q => ?_, fun q => ?_⟩
    · intro H hH
      have e : y_fr h H [] [158] := y_st (y_mo (y_rf hr) rfl rfl) hH (by repeat (first | exact w_nil | refine w_cons (Or.inl (y_m rfl)) ?_ | refine w_cons (Or.inr (by assumption)) ?_)) (by repeat (first | exact w_nil | refine w_cons (Or.inl (y_m rfl)) ?_ | refine w_cons (Or.inr (by assumption)) ?_))
      have e0 : y_fr h H [] [] := y_st (y_mo (y_rf hr) rfl rfl) hH (by repeat (first | exact w_nil | refine w_cons (Or.inl (y_m rfl)) ?_ | refine w_cons (Or.inr (by assumption)) ?_)) (by repeat (first | exact w_nil | refine w_cons (Or.inl (y_m rfl)) ?_ | refine w_cons (Or.inr (by assumption)) ?_))
      exact hK H ta kI e ((y_ae e0 rfl).trans g2) hq
    · have : ¬ (((Int8.ofInt 8).toInt32).toInt ≤ kI.toInt) := y_cif q
      rw [y_c8] at this
      omega
  | succ t ih =>
    intro h kI k ta hr g1 g2 hk hkt hq hK
    refine w_go z_hl [164, 40] [] 40 hr ?_
    refine ⟨fun q => ?_, fun q => ⟨fun q2 => absurd q2 (by decide), fun _ => ?_⟩⟩
    · have : ((Int8.ofInt 8).toInt32).toInt ≤ kI.toInt := (y_ci .ge _ _).mp q
      rw [y_c8] at this
      omega
    · have i1 := y_i8 (y_i10 hi hv (by omega) (by omega)) hk (by omega) (by omega)
      have i2 := y_i8 hv hk (by omega) (by omega)
      have c1 := y_cl1 i1
      have c3 := y_cl1 i2
      have hik : (kI + Int32.ofInt 1).toInt = ((k + 1 : Nat) : Int) := by rw [y_inc (by omega), hk]; rfl
      have b1 : 0 ≤ ((Int8.ofInt 8).toInt32 * ((Int8.ofInt 10).toInt32 * iI + vI) + kI).toInt ∧ ((Int8.ofInt 8).toInt32 * ((Int8.ofInt 10).toInt32 * iI + vI) + kI).toInt < ((240 : Nat) : Int) := by omega
      have b2 : 0 ≤ ((Int8.ofInt 8).toInt32 * vI + kI).toInt ∧ ((Int8.ofInt 8).toInt32 * vI + kI).toInt < ((80 : Nat) : Int) := by omega
      refine ⟨b1, fun l hl hlen hbb => ?_⟩
      obtain rfl := y_ai g1 hl
      have hm := hbb _ (z_gd (0 : Int32) (show ((Int8.ofInt 8).toInt32 * ((Int8.ofInt 10).toInt32 * iI + vI) + kI).toNatClampNeg < kt.length by omega))
      refine ⟨b2, hm, fun l2 hl2 hlen2 hbb2 => ?_⟩
      obtain rfl := y_ai g2 hl2
      intro H hH
      have e : y_fr h H [] [158] := y_st (y_mo (y_rf hr) rfl rfl) hH (by repeat (first | exact w_nil | refine w_cons (Or.inl (y_m rfl)) ?_ | refine w_cons (Or.inr (by assumption)) ?_)) (by repeat (first | exact w_nil | refine w_cons (Or.inl (y_m rfl)) ?_ | refine w_cons (Or.inr (by assumption)) ?_))
      refine ih H _ (k + 1) _ e.1 ((y_ae e rfl).trans g1) (hH.2.2.1 158 _ rfl) hik (by omega) (fun j hj => ?_) (fun H' kt' kI' f1 f2 f3 => hK H' kt' kI' (y_sq e f1 rfl rfl) f2 f3)
      rw [c3, y_Nset (by omega)]
      split
      · rename_i ej
        subst ej
        rw [c1, show (8 * v + k) / 8 = v by omega]
        have := c2 (8 * (10 * i + v) + k) (by omega)
        rw [show (8 * (10 * i + v) + k) % 80 / 8 = v by omega] at this
        exact this
      · exact hq j hj
/-- what was kept, up to v -/
def y_bk (i p v : Nat) (ks ko sa so : List Int32) : Prop := ∀ u, u < v → y_N sa u = (if u < p then y_N ks (10 * i + u) else -1) ∧ y_N so u = y_N ko (10 * i + u)
theorem y_bk_s {i p v : Nat} {ks ko sa so : List Int32} {x y : Int32} (h : y_bk i p v ks ko sa so) (l1 : v < sa.length) (l2 : v < so.length) (hx : x.toInt = if v < p then y_N ks (10 * i + v) else -1) (hy : y.toInt = y_N ko (10 * i + v)) : y_bk i p (v + 1) ks ko (sa.set v x) (so.set v y) := by
  intro u hu
  rw [y_Nset l1, y_Nset l2]
  by_cases q : u = v
  · subst q
    rw [if_pos rfl, if_pos rfl]
    exact ⟨hx, hy⟩
  · rw [if_neg q, if_neg q]
    exact h u (by omega)
/-- costs: none below 1 -/
def y_c1 (nd : Int32) (co : List Int32) : Prop := ∀ v : Nat, (v : Int) < nd.toInt → 1 ≤ y_N co v
theorem y_again_out {iI nd : Int32} {i : Nat} {de kn kf ks kc ko kt : List Int32} (kc1 : ∀ v, v < y_Nn kn i → 1 ≤ y_N kc (10 * i + v)) (hi : iI.toInt = i) (hi3 : i < 3) (c2 : y_kt de kt) (n0 : 0 ≤ nd.toInt) (n10 : nd.toInt ≤ 10) (pn : y_N kn i = y_Nn kn i) : ∀ (t : Nat) (h : aH) (vI : Int32) (v : Nat) (o3 o4 : Option Value) (fo sa co so ta : List Int32), w_hr z_D h → w_f h 19591 = some (.int nd) → w_a h 187 = some (0, .inl kn) → w_a h 189 = some (0, .inl kf) → w_a h 190 = some (0, .inl ks) → w_a h 191 = some (0, .inl kc) → w_a h 192 = some (0, .inl ko) → w_a h 194 = some (0, .inl kt) → w_a h 158 = some (0, .inl ta) → w_a h 159 = some (0, .inl fo) → w_a h 160 = some (0, .inl sa) → w_a h 161 = some (0, .inl co) → w_a h 162 = some (0, .inl so) → vI.toInt = v → (v : Int) + t = nd.toInt → y_tb de ta → y_bk i (y_Nn kn i) v ks ko sa so → y_c1 nd co →
    (∀ (H : aH) (sa' so' ta' co' : List Int32), w_a H 161 = some (0, .inl co') → y_c1 nd co' → y_fr h H [] [158, 159, 160, 161, 162] → w_a H 160 = some (0, .inl sa') → w_a H 162 = some (0, .inl so') → w_a H 158 = some (0, .inl ta') → y_tb de ta' → y_bk i (y_Nn kn i) nd.toInt.toNat ks ko sa' so' → K0 (some (.int (Int32.ofInt 1))) H C S) →
    aOK s_P X d a_m280 40 [some (.ref 155), some (.int iI), some (.int vI), o3, o4] [] h C S K0 := by
  intro t
  induction t with
  | zero =>
    intro h vI v o3 o4 fo sa co so ta hr a0 a1 a2 a3 a4 a5 a6 a7 a8 a9 a10 a11 hv hvt r1 r2 r3 hK
    refine w_go z_hl [40] [] 80 hr ?_
    intro x hx b1 b2
    obtain rfl := y_fi a0 hx
    refine ⟨fun q => ?_, fun q => ?_⟩
    · refine ⟨by decide, fun H hH => ?_⟩
      have e : y_fr h H [] [158, 159, 160, 161, 162] := y_st (y_mo (y_rf hr) rfl rfl) hH (by repeat (first | exact w_nil | refine w_cons (Or.inl (y_m rfl)) ?_ | refine w_cons (Or.inr (by assumption)) ?_)) (by repeat (first | exact w_nil | refine w_cons (Or.inl (y_m rfl)) ?_ | refine w_cons (Or.inr (by assumption)) ?_))
      have e0 : y_fr h H [] [] := y_st (y_mo (y_rf hr) rfl rfl) hH (by repeat (first | exact w_nil | refine w_cons (Or.inl (y_m rfl)) ?_ | refine w_cons (Or.inr (by assumption)) ?_)) (by repeat (first | exact w_nil | refine w_cons (Or.inl (y_m rfl)) ?_ | refine w_cons (Or.inr (by assumption)) ?_))
      refine hK H sa so ta co ((y_ae e0 rfl).trans a10) r3 e ((y_ae e0 rfl).trans a9) ((y_ae e0 rfl).trans a11) ((y_ae e0 rfl).trans a7) r1 ?_
      rw [show nd.toInt.toNat = v by omega]
      exact r2
    · have : ¬ (nd.toInt ≤ vI.toInt) := y_cif q
      omega
  | succ t ih =>
    intro h vI v o3 o4 fo sa co so ta hr a0 a1 a2 a3 a4 a5 a6 a7 a8 a9 a10 a11 hv hvt r1 r2 r3 hK
    have i1 := y_i10 hi hv (by omega) (by omega)
    have c1 := y_cl1 i1
    have cv := y_cl1 hv
    have ci := y_cl1 hi
    have hiv : (vI + Int32.ofInt 1).toInt = ((v + 1 : Nat) : Int) := by rw [y_inc (by omega), hv]; rfl
    have b1 : 0 ≤ ((Int8.ofInt 10).toInt32 * iI + vI).toInt ∧ ((Int8.ofInt 10).toInt32 * iI + vI).toInt < ((30 : Nat) : Int) := by omega
    have bv : 0 ≤ vI.toInt ∧ vI.toInt < ((10 : Nat) : Int) := by omega
    have c30 : ((Int8.ofInt 10).toInt32 * iI + vI).toNatClampNeg < 30 := by omega
    refine w_go z_hl [40, 64] [] 80 hr ?_
    intro x hx x1 x2
    obtain rfl := y_fi a0 hx
    refine ⟨fun q => ?_, fun q => ?_⟩
    · have : nd.toInt ≤ vI.toInt := (y_ci .ge _ _).mp q
      omega
    · refine ⟨⟨by omega, by omega⟩, fun l hl len bb => ?_⟩
      obtain rfl := y_ai a1 hl
      have hkn : (kn.getD iI.toNatClampNeg 0).toInt = y_Nn kn i := by
        rw [ci]
        exact pn
      refine ⟨fun q2 => ?_, fun q2 => ?_⟩
      · -- not kept
        have q3 : (kn.getD iI.toNatClampNeg 0).toInt ≤ vI.toInt := (y_ci .ge _ _).mp q2
        intro H hH
        have e : y_fr h H [] [] := y_st (y_mo (y_rf hr) rfl rfl) hH (by repeat (first | exact w_nil | refine w_cons (Or.inl (y_m rfl)) ?_ | refine w_cons (Or.inr (by assumption)) ?_)) (by repeat (first | exact w_nil | refine w_cons (Or.inl (y_m rfl)) ?_ | refine w_cons (Or.inr (by assumption)) ?_))
        have A6 := (y_ae e (k := 159) rfl).trans a8
        have A7 := (y_ae e (k := 160) rfl).trans a9
        have A8 := (y_ae e (k := 162) rfl).trans a11
        have A9 := (y_ae e (k := 192) rfl).trans a5
        have A10 := (y_ae e (k := 161) rfl).trans a10
        refine w_go z_hl [40] [] 80 e.1 ?_
        refine ⟨fun _ => ?_, fun q => absurd q (by decide)⟩
        refine ⟨bv, by decide, fun l1 hl1 len1 bb1 => ?_⟩
        obtain rfl := y_ai A6 hl1
        refine ⟨fun _ => ?_, fun q => absurd q (by decide)⟩
        refine ⟨bv, by decide, fun l2 hl2 len2 bb2 => ?_⟩
        obtain rfl := y_ai A7 hl2
        refine ⟨b1, fun l3 hl3 len3 bb3 => ⟨bv, bb3 _ (z_gd (0 : Int32) (Nat.lt_of_lt_of_eq c30 len3.symm)), fun l4 hl4 len4 bb4 => ?_⟩⟩
        obtain rfl := y_ai A9 hl3
        obtain rfl := y_ai A8 hl4
        refine ⟨fun _ => ?_, fun q => absurd q (by decide)⟩
        refine ⟨bv, fun l5 hl5 len5 bb5 => ⟨bv, bb5 _ (z_gd (0 : Int32) (by omega)), ?_⟩⟩
        obtain rfl := y_ai A10 hl5
        refine ⟨fun q => absurd q (by decide), fun _ => ⟨fun _ => ?_, fun q => absurd q (by decide)⟩⟩
        intro H2 h2
        have f2 : y_fr H H2 [] [159, 160, 161, 162] := y_st (y_mo (y_rf e.1) rfl rfl) h2 (by repeat (first | exact w_nil | refine w_cons (Or.inl (y_m rfl)) ?_ | refine w_cons (Or.inr (by assumption)) ?_)) (by repeat (first | exact w_nil | refine w_cons (Or.inl (y_m rfl)) ?_ | refine w_cons (Or.inr (by assumption)) ?_))
        have e2 : y_fr h H2 [] [159, 160, 161, 162] := y_sq (y_mo e rfl rfl) f2 rfl rfl
        refine ih H2 _ (v + 1) _ _ _ _ _ _ ta f2.1 ((y_fe e2 rfl).trans a0) ((y_ae e2 rfl).trans a1) ((y_ae e2 rfl).trans a2) ((y_ae e2 rfl).trans a3) ((y_ae e2 rfl).trans a4) ((y_ae e2 rfl).trans a5) ((y_ae e2 rfl).trans a6) ((y_ae e2 rfl).trans a7) (h2.2.2.1 159 _ rfl) (h2.2.2.1 160 _ rfl) (h2.2.2.1 161 _ rfl) (h2.2.2.1 162 _ rfl) hiv (by omega) r1 ?_ ?_ (fun H' sa' so' ta' co' v1 v2 u1 u2 u3 u4 u5 u6 => hK H' sa' so' ta' co' v1 v2 (y_sq (y_mo e2 rfl rfl) u1 rfl rfl) u2 u3 u4 u5 u6)
        · rw [cv]
          refine y_bk_s r2 (by omega) (by omega) ?_ ?_
          · rw [if_neg (by omega)]
            decide
          · rw [c1]
            rfl
        · rw [cv]
          intro u hu
          rw [y_Nset (by omega)]
          split
          · exact r3 v (by omega)
          · exact r3 u hu
      · -- kept
        have q3 : ¬ ((kn.getD iI.toNatClampNeg 0).toInt ≤ vI.toInt) := y_cif q2
        intro H hH
        have e : y_fr h H [] [] := y_st (y_mo (y_rf hr) rfl rfl) hH (by repeat (first | exact w_nil | refine w_cons (Or.inl (y_m rfl)) ?_ | refine w_cons (Or.inr (by assumption)) ?_)) (by repeat (first | exact w_nil | refine w_cons (Or.inl (y_m rfl)) ?_ | refine w_cons (Or.inr (by assumption)) ?_))
        have A4 := (y_ae e (k := 189) rfl).trans a2
        have A5 := (y_ae e (k := 190) rfl).trans a3
        have A6 := (y_ae e (k := 159) rfl).trans a8
        have A7 := (y_ae e (k := 160) rfl).trans a9
        have A8 := (y_ae e (k := 162) rfl).trans a11
        have A9 := (y_ae e (k := 192) rfl).trans a5
        have A10 := (y_ae e (k := 161) rfl).trans a10
        have A11 := (y_ae e (k := 191) rfl).trans a4
        refine w_go z_hl [40, 164] [] 80 e.1 ?_
        refine ⟨fun q => absurd q (by decide), fun _ => ?_⟩
        refine ⟨b1, fun l0 hl0 len0 bb0 => ⟨bv, bb0 _ (z_gd (0 : Int32) (Nat.lt_of_lt_of_eq c30 len0.symm)), fun l1 hl1 len1 bb1 => ?_⟩⟩
        obtain rfl := y_ai A4 hl0
        obtain rfl := y_ai A6 hl1
        refine ⟨fun q => absurd q (by decide), fun _ => ?_⟩
        refine ⟨b1, fun l0 hl0 len0 bb0 => ⟨bv, bb0 _ (z_gd (0 : Int32) (Nat.lt_of_lt_of_eq c30 len0.symm)), fun l2 hl2 len2 bb2 => ?_⟩⟩
        obtain rfl := y_ai A5 hl0
        obtain rfl := y_ai A7 hl2
        refine ⟨b1, fun l3 hl3 len3 bb3 => ⟨bv, bb3 _ (z_gd (0 : Int32) (Nat.lt_of_lt_of_eq c30 len3.symm)), fun l4 hl4 len4 bb4 => ?_⟩⟩
        obtain rfl := y_ai A9 hl3
        obtain rfl := y_ai A8 hl4
        refine ⟨fun q => absurd q (by decide), fun _ => ?_⟩
        refine ⟨b1, fun l5 hl5 len5 bb5 => ⟨bv, bb5 _ (z_gd (0 : Int32) (Nat.lt_of_lt_of_eq c30 len5.symm)), fun l6 hl6 len6 bb6 => ?_⟩⟩
        obtain rfl := y_ai A11 hl5
        obtain rfl := y_ai A10 hl6
        intro H2 h2
        have f2 : y_fr H H2 [] [159, 160, 161, 162] := y_st (y_mo (y_rf e.1) rfl rfl) h2 (by repeat (first | exact w_nil | refine w_cons (Or.inl (y_m rfl)) ?_ | refine w_cons (Or.inr (by assumption)) ?_)) (by repeat (first | exact w_nil | refine w_cons (Or.inl (y_m rfl)) ?_ | refine w_cons (Or.inr (by assumption)) ?_))
        have e2 : y_fr h H2 [] [159, 160, 161, 162] := y_sq (y_mo e rfl rfl) f2 rfl rfl
        refine y_again_in hi hv hi3 (by omega) c2 8 H2 _ 0 ta f2.1 ((y_ae e2 rfl).trans a6) ((y_ae e2 rfl).trans a7) rfl rfl r1 (fun H3 ta' kI' u1 u2 u3 => ?_)
        have e3 : y_fr h H3 [] [158, 159, 160, 161, 162] := y_sq (y_mo e2 rfl rfl) u1 rfl rfl
        refine ih H3 _ (v + 1) _ _ _ _ _ _ ta' u1.1 ((y_fe e3 rfl).trans a0) ((y_ae e3 rfl).trans a1) ((y_ae e3 rfl).trans a2) ((y_ae e3 rfl).trans a3) ((y_ae e3 rfl).trans a4) ((y_ae e3 rfl).trans a5) ((y_ae e3 rfl).trans a6) u2 ((y_ae u1 rfl).trans (h2.2.2.1 159 _ rfl)) ((y_ae u1 rfl).trans (h2.2.2.1 160 _ rfl)) ((y_ae u1 rfl).trans (h2.2.2.1 161 _ rfl)) ((y_ae u1 rfl).trans (h2.2.2.1 162 _ rfl)) hiv (by omega) u3 ?_ ?_ (fun H' sa' so' ta' co' v1 v2 u1 u2 u3 u4 u5 u6 => hK H' sa' so' ta' co' v1 v2 (y_sq e3 u1 rfl rfl) u2 u3 u4 u5 u6)
        · rw [cv]
          refine y_bk_s r2 (by omega) (by omega) ?_ ?_
          · rw [if_pos (by omega), c1]
            rfl
          · rw [c1]
            rfl
        · rw [cv, c1]
          intro u hu
          rw [y_Nset (by omega)]
          split
          · exact kc1 v (by omega)
          · exact r3 u hu
theorem p_again {h : aH} (hr : w_hr z_D h) (hJ : y_J h) (hC : j_cost h) {iI : Int32} (hk : ∀ (r : Int32) (H : aH), y_fr h H [19584, 19598] [158, 159, 160, 161, 162] → y_J H → j_cost H → 0 ≤ r.toInt ∧ r.toInt ≤ 1 → K0 (some (.int r)) H C S) : aOK s_P X (d + 1) a_m280 0 [some (.ref 155), some (.int iI), none, none, none] [] h C S K0 := by
  have hJ' := hJ
  obtain ⟨q1, q2, q3, q4, q5, q6, q7⟩ := hJ'
  obtain ⟨nd, le, de, ta, n1, n2, n3, n4, c1, c2, c3, c4, c5⟩ := q1
  obtain ⟨nd', sm, so, sa, s1, s2, s3, s4, s5⟩ := q5
  obtain rfl := y_fi n1 s1
  obtain ⟨nd', kn, km, ko, ks, k1, k2, k3, k4, k5, k6⟩ := id q6
  obtain rfl := y_fi n1 k1
  obtain ⟨de', to, kt, sn, sl, sh, o1, o2, o3, o4, o5, o6, o7, o8, o9⟩ := id q3
  obtain rfl := y_ai n3 o1
  obtain ⟨b1, b2⟩ := y_ndb hr n1
  refine w_go z_hl [40] [176] 30 hr ?_
  refine ⟨rfl, y_zini (by decide) (by decide), fun H1 h1 => ?_⟩
  have e1 : y_fr h H1 [19584] [] := y_st (y_mo (y_rf hr) rfl rfl) h1 (by repeat (first | exact w_nil | refine w_cons (Or.inl (y_m rfl)) ?_ | refine w_cons (Or.inr (by assumption)) ?_)) (by repeat (first | exact w_nil | refine w_cons (Or.inl (y_m rfl)) ?_ | refine w_cons (Or.inr (by assumption)) ?_))
  have out : ∀ {G : aH}, y_fr h G [19584] [] → K0 (some (.int (Int32.ofInt 0))) G C S := fun g => hk _ _ (y_mo g rfl rfl) (y_J_fr g rfl rfl hJ) (j_cost_e g rfl rfl hC) (by decide)
  refine q_in e1.1 (fun H2 h2 l1 l2 => ⟨fun n e => (by cases e), ?_⟩) (fun H2 h2 _ => ⟨fun n e => (by cases e), ?_⟩)
  · have l1 : 0 ≤ iI.toInt := by rw [y_i2l] at l1; exact l1
    have l2 : iI.toInt ≤ 2 := by rw [y_i2l] at l2; exact l2
    obtain ⟨i, hi⟩ : ∃ i : Nat, iI.toInt = i := ⟨iI.toInt.toNat, by omega⟩
    have ci := y_cl1 hi
    have e2 := y_sq e1 h2 rfl rfl
    refine w_go z_hl [40] [176] 40 e2.1 ?_
    refine ⟨fun q => absurd q (by decide), fun _ => ?_⟩
    refine ⟨⟨by omega, by omega⟩, fun l hl len bb => ?_⟩
    refine ⟨fun _ => ?_, fun _ => ⟨by decide, fun H3 h3 => out (y_st e2 h3 (by repeat (first | exact w_nil | refine w_cons (Or.inl (y_m rfl)) ?_ | refine w_cons (Or.inr (by assumption)) ?_)) (by repeat (first | exact w_nil | refine w_cons (Or.inl (y_m rfl)) ?_ | refine w_cons (Or.inr (by assumption)) ?_)))⟩⟩
    refine ⟨⟨by omega, by omega⟩, fun l2 hl2 len2 bb2 => ?_⟩
    obtain rfl := y_ai ((y_ae e2 rfl).trans k3) hl2
    have hm := bb2 _ (z_gd (0 : Int32) (show iI.toNatClampNeg < km.length by omega))
    refine ⟨rfl, y_zini hm.1 hm.2, ?_⟩
    intro H3 h3
    have e3 : y_fr h H3 [19584, 19598] [] := y_st (y_mo e2 rfl rfl) h3 (by repeat (first | exact w_nil | refine w_cons (Or.inl (y_m rfl)) ?_ | refine w_cons (Or.inr (by assumption)) ?_)) (by repeat (first | exact w_nil | refine w_cons (Or.inl (y_m rfl)) ?_ | refine w_cons (Or.inr (by assumption)) ?_))
    have F := h3.2.1 19598 _ rfl
    obtain ⟨kf, z1, z2, -⟩ := w_arrI e3.1 (o := 189) (t := 0) (n := 30) (lo := -1) (hi := 1) (by decide) rfl
    obtain ⟨kc, z3, z4, -⟩ := w_arrI e3.1 (o := 191) (t := 0) (n := 30) (lo := 0) (hi := 99) (by decide) rfl
    obtain ⟨fo, z5, z6, -⟩ := w_arrI e3.1 (o := 159) (t := 0) (n := 10) (lo := -1) (hi := 1) (by decide) rfl
    obtain ⟨co, z7, z8, -⟩ := w_arrI e3.1 (o := 161) (t := 0) (n := 10) (lo := 0) (hi := 99) (by decide) rfl
    obtain ⟨kn', z9, z10, z11⟩ := w_arrI e3.1 (o := 187) (t := 0) (n := 3) (lo := 0) (hi := 10) (by decide) rfl
    obtain rfl := y_ai ((y_ae e3 rfl).trans k2) (w_a_at z9)
    have pn : y_N kn i = y_Nn kn i := by
      have := z11 _ (z_gd (0 : Int32) (show i < kn.length by omega))
      unfold y_N y_Nn
      omega
    obtain ⟨ndc, co', knc, kcc, x1, x2, x3, x4, x5, x6⟩ := id hC
    obtain rfl := y_fi n1 x1
    obtain rfl := y_ai ((y_ae e3 rfl).trans x2) (w_a_at z7)
    obtain rfl := y_ai ((y_ae e3 rfl).trans x4) (w_a_at z3)
    obtain rfl := y_ai k2 x3
    refine y_again_out (de := de) (ks := ks) (ko := ko) (fun v hv => x6 i v (by omega) hv) hi (by omega) o8 b1 b2 pn nd.toInt.toNat H3 _ 0 none none fo sa co' so ta e3.1 ((y_fe e3 rfl).trans n1) ((y_ae e3 rfl).trans k2) (w_a_at z1) ((y_ae e3 rfl).trans k5) (w_a_at z3) ((y_ae e3 rfl).trans k4) ((y_ae e3 rfl).trans o3) ((y_ae e3 rfl).trans n4) (w_a_at z5) ((y_ae e3 rfl).trans s4) (w_a_at z7) ((y_ae e3 rfl).trans s3) rfl (by omega) c2 (fun u hu => absurd hu (by omega)) x5 (fun H4 sa' so' ta' co'' w1 w2 f1 f2 f3 f4 f5 f6 => ?_)
    have e4 : y_fr h H4 [19584, 19598] [158, 159, 160, 161, 162] := y_sq (y_mo e3 rfl rfl) f1 rfl rfl
    refine hk _ _ e4 ⟨⟨nd, le, de, ta', (y_fe e4 rfl).trans n1, (y_ae e4 rfl).trans n2, (y_ae e4 rfl).trans n3, f4, c1, f5, c3, c4, c5⟩, j_dp_e (y_fe e4 rfl) (y_fe e4 rfl) (y_ae e4 rfl) q2, j_old_e (y_ae e4 rfl) (y_ae e4 rfl) (y_ae e4 rfl) (y_ae e4 rfl) (y_ae e4 rfl) (y_ae e4 rfl) q3, j_w_e (y_fe e4 rfl) (y_ae e4 rfl) q4, ⟨nd, _, so', sa', (y_fe e4 rfl).trans n1, (y_fe f1 rfl).trans F, f3, f2, ?_⟩, j_kept_e (y_fe e4 rfl) (y_ae e4 rfl) (y_ae e4 rfl) (y_ae e4 rfl) (y_ae e4 rfl) q6, j_land_e (y_fe e4 rfl) (y_ae e4 rfl) q7⟩ ⟨nd, co'', kn, kcc, (y_fe e4 rfl).trans n1, w1, (y_ae e4 rfl).trans k2, (y_ae e4 rfl).trans x4, w2, x6⟩ (by decide)
    rw [ci]
    have kj := k6 i (by omega)
    refine y_ord_x (p := y_Nn kn i) kj.2 (by have := kj.1; omega) (fun k hk' => (f6 k hk').2) (fun k hk' => (f6 k hk').1)
  · refine w_go z_hl [40] [176] 30 h2.1 ?_
    refine ⟨fun _ => ⟨by decide, fun H3 h3 => ?_⟩, fun q => absurd q (by decide)⟩
    exact out (y_st (y_sq e1 h2 rfl rfl) h3 (by repeat (first | exact w_nil | refine w_cons (Or.inl (y_m rfl)) ?_ | refine w_cons (Or.inr (by assumption)) ?_)) (by repeat (first | exact w_nil | refine w_cons (Or.inl (y_m rfl)) ?_ | refine w_cons (Or.inr (by assumption)) ?_)))
end WG
end PT27d
section PT27e
/-! ===== v3: the reference's spans ===== -/
def y_sp (de sn sl sh : List Int32) : Prop := ∀ k, k < 6 → y_N sl k ≤ y_N de (y_Nn sn k) ∧ y_N sh k ≤ y_N de (y_Nn sn k)
theorem y_sp_set {de sn sl sh : List Int32} {k : Nat} {a b c : Int32} (h : y_sp de sn sl sh) (l1 : k < sn.length) (l2 : k < sl.length) (l3 : k < sh.length) (h1 : b.toInt ≤ y_N de a.toInt.toNat) (h2 : c.toInt ≤ y_N de a.toInt.toNat) : y_sp de (sn.set k a) (sl.set k b) (sh.set k c) := by
  intro j hj
  rw [y_Nnset l1, y_Nset l2, y_Nset l3]
  by_cases q : j = k
  · rw [if_pos q, if_pos q, if_pos q]
    exact ⟨h1, h2⟩
  · rw [if_neg q, if_neg q, if_neg q]
    exact h j hj
section WG
variable {X : aX} {C S d : Nat} {K0 : Option Value → aH → Nat → Nat → Prop}
theorem y_span_find {nI aI lI gI sp : Int32} {o6 : Option Value} (s0 : 0 ≤ sp.toInt) (s6 : sp.toInt ≤ 6) : ∀ (t : Nat) (h : aH) (kI : Int32), w_hr z_D h → w_f h 19619 = some (.int sp) → 0 ≤ kI.toInt → kI.toInt + t = sp.toInt →
    (∀ (H : aH) (kI' : Int32), y_fr h H [] [] → 0 ≤ kI'.toInt → kI'.toInt ≤ sp.toInt → aOK s_P X d a_m249 105 [some (.ref 155), some (.int nI), some (.int aI), some (.int lI), some (.int gI), some (.int kI'), o6] [] H C S K0) →
    aOK s_P X d a_m249 68 [some (.ref 155), some (.int nI), some (.int aI), some (.int lI), some (.int gI), some (.int kI), o6] [] h C S K0 := by
  intro t
  induction t with
  | zero =>
    intro h kI hr g1 k0 hkt hK
    refine w_go z_hl [68, 105] [] 40 hr ?_
    intro x hx _ _
    obtain rfl := y_fi g1 hx
    refine ⟨fun q => ?_, fun q => ?_⟩
    · intro H hH
      exact hK H kI (y_st (y_rf hr) hH (by repeat (first | exact w_nil | refine w_cons (Or.inl (y_m rfl)) ?_ | refine w_cons (Or.inr (by assumption)) ?_)) (by repeat (first | exact w_nil | refine w_cons (Or.inl (y_m rfl)) ?_ | refine w_cons (Or.inr (by assumption)) ?_))) k0 (by omega)
    · have : ¬ (sp.toInt ≤ kI.toInt) := y_cif q
      omega
  | succ t ih =>
    intro h kI hr g1 k0 hkt hK
    have hik : (kI + Int32.ofInt 1).toInt = kI.toInt + 1 := y_inc (by omega)
    refine w_go z_hl [68, 105] [] 40 hr ?_
    intro x hx _ _
    obtain rfl := y_fi g1 hx
    refine ⟨fun q => ?_, fun q => ?_⟩
    · have : sp.toInt ≤ kI.toInt := (y_ci .ge _ _).mp q
      omega
    · refine ⟨⟨by omega, by omega⟩, fun l hl len bb => ⟨fun _ => ?_, fun _ => ?_⟩⟩
      · intro H hH
        have e : y_fr h H [] [] := y_st (y_rf hr) hH (by repeat (first | exact w_nil | refine w_cons (Or.inl (y_m rfl)) ?_ | refine w_cons (Or.inr (by assumption)) ?_)) (by repeat (first | exact w_nil | refine w_cons (Or.inl (y_m rfl)) ?_ | refine w_cons (Or.inr (by assumption)) ?_))
        exact ih H _ e.1 ((y_fe e rfl).trans g1) (by omega) (by omega) (fun H' k' f1 f2 f3 => hK H' k' (y_sq e f1 rfl rfl) f2 f3)
      · refine ⟨⟨by omega, by omega⟩, fun l2 hl2 len2 bb2 => ⟨fun _ => ?_, fun _ => ?_⟩⟩
        · intro H hH
          exact hK H kI (y_st (y_rf hr) hH (by repeat (first | exact w_nil | refine w_cons (Or.inl (y_m rfl)) ?_ | refine w_cons (Or.inr (by assumption)) ?_)) (by repeat (first | exact w_nil | refine w_cons (Or.inl (y_m rfl)) ?_ | refine w_cons (Or.inr (by assumption)) ?_))) k0 (by omega)
        · intro H hH
          have e : y_fr h H [] [] := y_st (y_rf hr) hH (by repeat (first | exact w_nil | refine w_cons (Or.inl (y_m rfl)) ?_ | refine w_cons (Or.inr (by assumption)) ?_)) (by repeat (first | exact w_nil | refine w_cons (Or.inl (y_m rfl)) ?_ | refine w_cons (Or.inr (by assumption)) ?_))
          exact ih H _ e.1 ((y_fe e rfl).trans g1) (by omega) (by omega) (fun H' k' f1 f2 f3 => hK H' k' (y_sq e f1 rfl rfl) f2 f3)
theorem y_span_shift {nI aI lI gI kI sp : Int32} {de : List Int32} (s0 : 0 ≤ sp.toInt) (s6 : sp.toInt ≤ 5) : ∀ (t : Nat) (h : aH) (iI : Int32) (i : Nat) (sn sl sh : List Int32), w_hr z_D h → w_f h 19619 = some (.int sp) → iI.toInt = i → iI.toInt + t = sp.toInt → w_a h 172 = some (0, .inl sn) → w_a h 174 = some (0, .inl sl) → w_a h 175 = some (0, .inl sh) → y_sp de sn sl sh →
    (∀ (H : aH) (sn' sl' sh' : List Int32), y_fr h H [] [172, 173, 174, 175] → w_a H 172 = some (0, .inl sn') → w_a H 174 = some (0, .inl sl') → w_a H 175 = some (0, .inl sh') → y_sp de sn' sl' sh' → K0 (some (.int sp)) H C S) →
    aOK s_P X d a_m249 136 [some (.ref 155), some (.int nI), some (.int aI), some (.int lI), some (.int gI), some (.int kI), some (.int iI)] [] h C S K0 := by
  intro t
  induction t with
  | zero =>
    intro h iI i sn sl sh hr g1 hi hit a1 a2 a3 hq hK
    refine w_go z_hl [136] [] 80 hr ?_
    intro x hx _ _
    obtain rfl := y_fi g1 hx
    refine ⟨fun q => ?_, fun q => ?_⟩
    · intro H hH
      have e0 : y_fr h H [] [] := y_st (y_rf hr) hH (by repeat (first | exact w_nil | refine w_cons (Or.inl (y_m rfl)) ?_ | refine w_cons (Or.inr (by assumption)) ?_)) (by repeat (first | exact w_nil | refine w_cons (Or.inl (y_m rfl)) ?_ | refine w_cons (Or.inr (by assumption)) ?_))
      exact hK H sn sl sh (y_mo e0 rfl rfl) ((y_ae e0 rfl).trans a1) ((y_ae e0 rfl).trans a2) ((y_ae e0 rfl).trans a3) hq
    · have : ¬ (sp.toInt ≤ iI.toInt) := y_cif q
      omega
  | succ t ih =>
    intro h iI i sn sl sh hr g1 hi hit a1 a2 a3 hq hK
    have hii : (iI + Int32.ofInt 1).toInt = ((i + 1 : Nat) : Int) := by rw [y_inc (by omega), hi]; rfl
    have ci := y_cl1 hi
    have ci1 := y_cl1 hii
    have b0 : 0 ≤ iI.toInt ∧ iI.toInt < ((6 : Nat) : Int) := by omega
    have b1 : 0 ≤ (iI + Int32.ofInt 1).toInt ∧ (iI + Int32.ofInt 1).toInt < ((6 : Nat) : Int) := by omega
    have c6 : (iI + Int32.ofInt 1).toNatClampNeg < 6 := by omega
    refine w_go z_hl [136] [] 80 hr ?_
    intro x hx _ _
    obtain rfl := y_fi g1 hx
    refine ⟨fun q => ?_, fun q => ?_⟩
    · have : sp.toInt ≤ iI.toInt := (y_ci .ge _ _).mp q
      omega
    · refine ⟨b1, fun l1 hl1 len1 bb1 => ⟨b0, bb1 _ (z_gd (0 : Int32) (Nat.lt_of_lt_of_eq c6 len1.symm)), ?_⟩⟩
      obtain rfl := y_ai a1 hl1
      refine ⟨b1, fun l2 hl2 len2 bb2 => ⟨b0, bb2 _ (z_gd (0 : Int32) (Nat.lt_of_lt_of_eq c6 len2.symm)), ?_⟩⟩
      refine ⟨b1, fun l3 hl3 len3 bb3 => ⟨b0, bb3 _ (z_gd (0 : Int32) (Nat.lt_of_lt_of_eq c6 len3.symm)), ?_⟩⟩
      obtain rfl := y_ai a2 hl3
      refine ⟨b1, fun l4 hl4 len4 bb4 => ⟨b0, bb4 _ (z_gd (0 : Int32) (Nat.lt_of_lt_of_eq c6 len4.symm)), ?_⟩⟩
      obtain rfl := y_ai a3 hl4
      intro H hH
      have e : y_fr h H [] [172, 173, 174, 175] := y_st (y_mo (y_rf hr) rfl rfl) hH (by repeat (first | exact w_nil | refine w_cons (Or.inl (y_m rfl)) ?_ | refine w_cons (Or.inr (by assumption)) ?_)) (by repeat (first | exact w_nil | refine w_cons (Or.inl (y_m rfl)) ?_ | refine w_cons (Or.inr (by assumption)) ?_))
      refine ih H _ (i + 1) _ _ _ e.1 ((y_fe e rfl).trans g1) hii (by omega) (hH.2.2.1 172 _ rfl) (hH.2.2.1 174 _ rfl) (hH.2.2.1 175 _ rfl) ?_ (fun H' u1 u2 u3 f1 f2 f3 f4 f5 => hK H' u1 u2 u3 (y_sq e f1 rfl rfl) f2 f3 f4 f5)
      rw [ci, ci1]
      have hs := hq (i + 1) (by omega)
      exact y_sp_set hq (by omega) (by omega) (by omega) hs.1 hs.2
theorem y_span_end {h H12 : aH} (hr : w_hr z_D h) (hJ : y_J h) {nI aI lI gI : Int32} {v : Nat} {de : List Int32} (n3 : w_a h 157 = some (0, .inl de)) (hv : nI.toInt = v) (hv10 : v < 10) (l1 : 0 ≤ aI.toInt) (l2 : aI.toInt ≤ 7) (l3 : 0 ≤ lI.toInt) (l4 : lI.toInt ≤ y_N de v) (l5 : 0 ≤ gI.toInt) (l6 : gI.toInt ≤ y_N de v) (hde : y_N de v ≤ 10000000) {sp kI : Int32} (e12 : y_fr h H12 [19584] []) (g12 : w_f H12 19619 = some (.int sp)) (sp0 : 0 ≤ sp.toInt) (sp6 : sp.toInt ≤ 6) (k0 : 0 ≤ kI.toInt) (ks : kI.toInt ≤ sp.toInt) (hk : ∀ (r : Int32) (H : aH), y_fr h H [19584, 19619] [172, 173, 174, 175] → y_J H → K0 (some (.int r)) H C S) : aOK s_P X (d + 1) a_m249 105 [some (.ref 155), some (.int nI), some (.int aI), some (.int lI), some (.int gI), some (.int kI), none] [] H12 C S K0 := by
  have hJ' := hJ
  obtain ⟨q1, q2, q3, q4, q5, q6, q7⟩ := hJ'
  obtain ⟨de', to, kt, sn, sl, sh, o1, o2, o3, o4, o5, o6, o7, o8, o9⟩ := id q3
  obtain rfl := y_ai n3 o1
  have g1 : w_f h 19619 = some (.int sp) := (y_fe e12 rfl).symm.trans g12
  have out : ∀ {G : aH} {r : Int32}, y_fr h G [19584] [] → K0 (some (.int r)) G C S := fun g => hk _ _ (y_mo g rfl rfl) (y_J_fr g rfl rfl hJ)
  obtain ⟨k, hkk⟩ : ∃ k : Nat, kI.toInt = k := ⟨kI.toInt.toNat, by omega⟩
  have kc := y_cl1 hkk
  refine w_go z_hl [136, 262] [] 60 e12.1 ?_
  refine ⟨fun q => ?_, fun q => ?_⟩
  · -- a span is told
    refine ⟨fun r5 => ?_, fun r5 => fun H13 h13 => out (y_st e12 h13 (by repeat (first | exact w_nil | refine w_cons (Or.inl (y_m rfl)) ?_ | refine w_cons (Or.inr (by assumption)) ?_)) (by repeat (first | exact w_nil | refine w_cons (Or.inl (y_m rfl)) ?_ | refine w_cons (Or.inr (by assumption)) ?_)))⟩
    have r6 : kI.toInt ≠ ((Int8.ofInt 6).toInt32).toInt := (y_ci .ne _ _).mp r5
    rw [y_c6] at r6
    refine ⟨⟨by omega, by omega⟩, ⟨by omega, by omega⟩, fun s1 hs1 ls1 bs1 => ?_⟩
    obtain rfl := y_ai ((y_ae e12 rfl).trans o4) hs1
    refine ⟨⟨by omega, by omega⟩, ⟨by omega, by omega⟩, fun s2 hs2 ls2 bs2 => ?_⟩
    refine ⟨⟨by omega, by omega⟩, ⟨by omega, by omega⟩, fun s3 hs3 ls3 bs3 => ?_⟩
    obtain rfl := y_ai ((y_ae e12 rfl).trans o5) hs3
    refine ⟨⟨by omega, by omega⟩, ⟨by omega, by omega⟩, fun s4 hs4 ls4 bs4 => ?_⟩
    obtain rfl := y_ai ((y_ae e12 rfl).trans o6) hs4
    intro H13 h13
    have e13 : y_fr h H13 [19584, 19619] [172, 173, 174, 175] := y_st (y_mo e12 rfl rfl) h13 (by repeat (first | exact w_nil | refine w_cons (Or.inl (y_m rfl)) ?_ | refine w_cons (Or.inr (by assumption)) ?_)) (by repeat (first | exact w_nil | refine w_cons (Or.inl (y_m rfl)) ?_ | refine w_cons (Or.inr (by assumption)) ?_))
    have e13' : y_fr h H13 [19584] [172, 173, 174, 175] := y_st (y_mo e12 rfl rfl) h13 (by repeat (first | exact w_nil | refine w_cons (Or.inl (y_m rfl)) ?_ | refine w_cons (Or.inr (by assumption)) ?_)) (by repeat (first | exact w_nil | refine w_cons (Or.inl (y_m rfl)) ?_ | refine w_cons (Or.inr (by assumption)) ?_))
    have A1 := h13.2.2.1 172 _ rfl
    have A2 := h13.2.2.1 174 _ rfl
    have A3 := h13.2.2.1 175 _ rfl
    have fin : ∀ {G : aH} {r : Int32}, y_fr h G [19584, 19619] [172, 173, 174, 175] → y_fr H13 G [19619] [] → K0 (some (.int r)) G C S := by
      intro G r g f
      refine hk _ _ g ⟨j_net_e (y_fe g rfl) (y_ae g rfl) (y_ae g rfl) (y_ae g rfl) q1, j_dp_e (y_fe g rfl) (y_fe g rfl) (y_ae g rfl) q2, ⟨de, to, kt, _, _, _, (y_ae g rfl).trans n3, (y_ae g rfl).trans o2, (y_ae g rfl).trans o3, (y_ae f rfl).trans A1, (y_ae f rfl).trans A2, (y_ae f rfl).trans A3, o7, o8, ?_⟩, j_w_e (y_fe g rfl) (y_ae g rfl) q4, j_seen_e (y_fe g rfl) (y_fe g rfl) (y_ae g rfl) (y_ae g rfl) q5, j_kept_e (y_fe g rfl) (y_ae g rfl) (y_ae g rfl) (y_ae g rfl) (y_ae g rfl) q6, j_land_e (y_fe g rfl) (y_ae g rfl) q7⟩
      rw [kc]
      have ev : nI.toInt.toNat = v := by omega
      exact y_sp_set o9 (by omega) (by omega) (by omega) (by rw [ev]; exact l4) (by rw [ev]; exact l6)
    refine w_go z_hl [] [] 60 e13.1 ?_
    intro x hx _ _
    obtain rfl := y_fi ((y_fe e13' rfl).trans g1) hx
    refine ⟨fun r7 => ?_, fun r7 => ?_⟩
    · have z0 : (sp + Int32.ofInt 0).toInt = sp.toInt := by rw [show Int32.ofInt 0 = (0 : Int32) by decide, Int32.add_zero]
      refine ⟨fun _ => ?_, fun r8 => absurd r8 (by decide)⟩
      refine ⟨rfl, y_zini (by show 0 ≤ (sp + Int32.ofInt 0).toInt; rw [z0]; omega) (by show (sp + Int32.ofInt 0).toInt ≤ 6; rw [z0]; omega), ?_⟩
      intro H14 h14
      exact fin (y_st e13 h14 (by repeat (first | exact w_nil | refine w_cons (Or.inl (y_m rfl)) ?_ | refine w_cons (Or.inr (by assumption)) ?_)) (by repeat (first | exact w_nil | refine w_cons (Or.inl (y_m rfl)) ?_ | refine w_cons (Or.inr (by assumption)) ?_))) (y_st (y_mo (y_rf e13.1) rfl rfl) h14 (by repeat (first | exact w_nil | refine w_cons (Or.inl (y_m rfl)) ?_ | refine w_cons (Or.inr (by assumption)) ?_)) (by repeat (first | exact w_nil | refine w_cons (Or.inl (y_m rfl)) ?_ | refine w_cons (Or.inr (by assumption)) ?_)))
    · have r8 : ¬ (kI.toInt ≠ sp.toInt) := y_cif r7
      have hinc : (sp + Int32.ofInt 1).toInt = sp.toInt + 1 := y_inc (by omega)
      refine ⟨fun r8 => absurd r8 (by decide), fun _ => ?_⟩
      refine ⟨rfl, y_zini (by show 0 ≤ (sp + Int32.ofInt 1).toInt; omega) (by show (sp + Int32.ofInt 1).toInt ≤ 6; omega), ?_⟩
      intro H14 h14
      exact fin (y_st e13 h14 (by repeat (first | exact w_nil | refine w_cons (Or.inl (y_m rfl)) ?_ | refine w_cons (Or.inr (by assumption)) ?_)) (by repeat (first | exact w_nil | refine w_cons (Or.inl (y_m rfl)) ?_ | refine w_cons (Or.inr (by assumption)) ?_))) (y_st (y_mo (y_rf e13.1) rfl rfl) h14 (by repeat (first | exact w_nil | refine w_cons (Or.inl (y_m rfl)) ?_ | refine w_cons (Or.inr (by assumption)) ?_)) (by repeat (first | exact w_nil | refine w_cons (Or.inl (y_m rfl)) ?_ | refine w_cons (Or.inr (by assumption)) ?_)))
  · -- a span is taken away
    intro x hx _ _
    obtain rfl := y_fi g12 hx
    refine ⟨fun r5 => ?_, fun r5 => fun H13 h13 => out (y_st e12 h13 (by repeat (first | exact w_nil | refine w_cons (Or.inl (y_m rfl)) ?_ | refine w_cons (Or.inr (by assumption)) ?_)) (by repeat (first | exact w_nil | refine w_cons (Or.inl (y_m rfl)) ?_ | refine w_cons (Or.inr (by assumption)) ?_)))⟩
    have r6 : kI.toInt ≠ sp.toInt := (y_ci .ne _ _).mp r5
    have hdec : (sp - Int32.ofInt 1).toInt = sp.toInt - 1 := y_sub1 sp0
    refine ⟨rfl, y_zini (by show 0 ≤ (sp - Int32.ofInt 1).toInt; omega) (by show (sp - Int32.ofInt 1).toInt ≤ 6; omega), ?_⟩
    intro H13 h13
    have e13 : y_fr h H13 [19584, 19619] [] := y_st (y_mo e12 rfl rfl) h13 (by repeat (first | exact w_nil | refine w_cons (Or.inl (y_m rfl)) ?_ | refine w_cons (Or.inr (by assumption)) ?_)) (by repeat (first | exact w_nil | refine w_cons (Or.inl (y_m rfl)) ?_ | refine w_cons (Or.inr (by assumption)) ?_))
    refine y_span_shift (sp := sp - Int32.ofInt 1) (de := de) (by omega) (by omega) (sp.toInt - 1 - kI.toInt).toNat H13 _ k sn sl sh e13.1 (h13.2.1 19619 _ rfl) hkk (by omega) ((y_ae e13 rfl).trans o4) ((y_ae e13 rfl).trans o5) ((y_ae e13 rfl).trans o6) o9 (fun H14 sn' sl' sh' f1 f2 f3 f4 f5 => ?_)
    have e14 : y_fr h H14 [19584, 19619] [172, 173, 174, 175] := y_sq (y_mo e13 rfl rfl) f1 rfl rfl
    exact hk _ _ e14 ⟨j_net_e (y_fe e14 rfl) (y_ae e14 rfl) (y_ae e14 rfl) (y_ae e14 rfl) q1, j_dp_e (y_fe e14 rfl) (y_fe e14 rfl) (y_ae e14 rfl) q2, ⟨de, to, kt, _, _, _, (y_ae e14 rfl).trans n3, (y_ae e14 rfl).trans o2, (y_ae e14 rfl).trans o3, f2, f3, f4, o7, o8, f5⟩, j_w_e (y_fe e14 rfl) (y_ae e14 rfl) q4, j_seen_e (y_fe e14 rfl) (y_fe e14 rfl) (y_ae e14 rfl) (y_ae e14 rfl) q5, j_kept_e (y_fe e14 rfl) (y_ae e14 rfl) (y_ae e14 rfl) (y_ae e14 rfl) (y_ae e14 rfl) q6, j_land_e (y_fe e14 rfl) (y_ae e14 rfl) q7⟩
theorem y_span_mid {h H6 : aH} (hr : w_hr z_D h) (hJ : y_J h) {nI aI lI gI : Int32} {v : Nat} {de : List Int32} (n3 : w_a h 157 = some (0, .inl de)) (hv : nI.toInt = v) (hv10 : v < 10) (l1 : 0 ≤ aI.toInt) (l2 : aI.toInt ≤ 7) (e6 : y_fr h H6 [19584] []) (hk : ∀ (r : Int32) (H : aH), y_fr h H [19584, 19619] [172, 173, 174, 175] → y_J H → K0 (some (.int r)) H C S) : aOK s_P X (d + 2) a_m249 27 [some (.ref 155), some (.int nI), some (.int aI), some (.int lI), some (.int gI), none, none] [.int (y_01 true)] H6 C S K0 := by
  have hvc := y_cl1 hv
  have out : ∀ {G : aH} {r : Int32}, y_fr h G [19584] [] → K0 (some (.int r)) G C S := fun g => hk _ _ (y_mo g rfl rfl) (y_J_fr g rfl rfl hJ)
  have no43 : ∀ {G : aH}, y_fr h G [19584] [] → aOK s_P X (d + 2) a_m249 43 [some (.ref 155), some (.int nI), some (.int aI), some (.int lI), some (.int gI), none, none] [.int (y_01 false)] G C S K0 := by
    intro G g
    refine w_go z_hl [] [] 30 g.1 ?_
    refine ⟨fun _ => fun H11 h11 => ?_, fun q => absurd q (by decide)⟩
    exact out (y_st g h11 (by repeat (first | exact w_nil | refine w_cons (Or.inl (y_m rfl)) ?_ | refine w_cons (Or.inr (by assumption)) ?_)) (by repeat (first | exact w_nil | refine w_cons (Or.inl (y_m rfl)) ?_ | refine w_cons (Or.inr (by assumption)) ?_)))
  have no60 : ∀ {G : aH}, y_fr h G [19584] [] → aOK s_P X (d + 2) a_m249 60 [some (.ref 155), some (.int nI), some (.int aI), some (.int lI), some (.int gI), none, none] [.int (y_01 false)] G C S K0 := by
    intro G g
    refine w_go z_hl [] [] 30 g.1 ?_
    refine ⟨fun q => absurd q (by decide), fun _ => fun H11 h11 => ?_⟩
    exact out (y_st g h11 (by repeat (first | exact w_nil | refine w_cons (Or.inl (y_m rfl)) ?_ | refine w_cons (Or.inr (by assumption)) ?_)) (by repeat (first | exact w_nil | refine w_cons (Or.inl (y_m rfl)) ?_ | refine w_cons (Or.inr (by assumption)) ?_)))
  have yes60 : ∀ {G : aH}, y_fr h G [19584] [] → 0 ≤ lI.toInt → lI.toInt ≤ y_N de v → 0 ≤ gI.toInt → gI.toInt ≤ y_N de v → y_N de v ≤ 10000000 → aOK s_P X (d + 2) a_m249 60 [some (.ref 155), some (.int nI), some (.int aI), some (.int lI), some (.int gI), none, none] [.int (y_01 true)] G C S K0 := by
    intro G e10 l3 l4 l5 l6 hde
    obtain ⟨sp, -, g1⟩ : ∃ sp : Int32, True ∧ w_f h 19619 = some (.int sp) := by
      obtain ⟨vs, w, z1, z2, z3, z4⟩ := w_get1 hr (o := 153) (ci := 12) rfl (k := 35) rfl
      have e := w_f_at z1 (k := 35) (by decide)
      rcases z4 with ⟨-, x, ex, -, -⟩ | ⟨q, -⟩
      · exact ⟨x, trivial, by rw [show (19619 : Nat) = 153 * 128 + 35 by decide, e, z3, ex]⟩
      · cases q
    obtain ⟨sp0, sp6⟩ := y_spb hr g1
    refine w_go z_hl [68] [] 30 e10.1 ?_
    refine ⟨fun _ => ?_, fun q => absurd q (by decide)⟩
    intro H11 h11
    have e11 := y_st e10 h11 (by repeat (first | exact w_nil | refine w_cons (Or.inl (y_m rfl)) ?_ | refine w_cons (Or.inr (by assumption)) ?_)) (by repeat (first | exact w_nil | refine w_cons (Or.inl (y_m rfl)) ?_ | refine w_cons (Or.inr (by assumption)) ?_))
    refine y_span_find sp0 sp6 sp.toInt.toNat H11 _ e11.1 ((y_fe e11 rfl).trans g1) (by decide) (by rw [show (Int32.ofInt 0).toInt = 0 by decide]; omega) (fun H12 kI f1 k0 ks => ?_)
    have e12 := y_sq e11 f1 rfl rfl
    have g12 := (y_fe e12 (k := 19619) rfl).trans g1
    exact y_span_end hr hJ n3 hv hv10 l1 l2 l3 l4 l5 l6 hde e12 g12 sp0 sp6 k0 ks hk
  have yes43 : ∀ {G : aH}, y_fr h G [19584] [] → 0 ≤ lI.toInt → lI.toInt ≤ y_N de v → y_N de v ≤ 10000000 → aOK s_P X (d + 2) a_m249 43 [some (.ref 155), some (.int nI), some (.int aI), some (.int lI), some (.int gI), none, none] [.int (y_01 true)] G C S K0 := by
    intro G e8 l3 l4 hde
    refine w_go z_hl [] [178, 179, 176] 30 e8.1 ?_
    refine ⟨fun q => absurd q (by decide), fun _ => ?_⟩
    refine ⟨⟨by omega, by omega⟩, fun l' hl' len' bb' => ?_⟩
    obtain rfl := y_ai ((y_ae e8 rfl).trans n3) hl'
    intro H9 h9
    have e9 := y_st e8 h9 (by repeat (first | exact w_nil | refine w_cons (Or.inl (y_m rfl)) ?_ | refine w_cons (Or.inr (by assumption)) ?_)) (by repeat (first | exact w_nil | refine w_cons (Or.inl (y_m rfl)) ?_ | refine w_cons (Or.inr (by assumption)) ?_))
    refine q_in (v := gI.toInt64) (lo := Int64.ofNat 0) (hi := (de.getD nI.toNatClampNeg 0).toInt64) e9.1 (fun H10 h10 l5 l6 => ⟨fun n e => (by cases e), ?_⟩) (fun H10 h10 _ => ⟨fun n e => (by cases e), ?_⟩)
    · rw [y_i2l] at l5
      rw [y_i2l, y_i2l, hvc] at l6
      exact yes60 (y_sq e9 h10 rfl rfl) l3 l4 l5 l6 hde
    · exact no60 (y_sq e9 h10 rfl rfl)
  refine w_go z_hl [] [178, 179, 176] 30 e6.1 ?_
  refine ⟨fun q => absurd q (by decide), fun _ => ?_⟩
  refine ⟨⟨by omega, by omega⟩, fun l hl len bb => ?_⟩
  obtain rfl := y_ai ((y_ae e6 rfl).trans n3) hl
  have hm := bb _ (z_gd (0 : Int32) (show nI.toNatClampNeg < de.length by omega))
  have hde : y_N de v ≤ 10000000 := by rw [hvc] at hm; exact hm.2
  intro H7 h7
  have e7 := y_st e6 h7 (by repeat (first | exact w_nil | refine w_cons (Or.inl (y_m rfl)) ?_ | refine w_cons (Or.inr (by assumption)) ?_)) (by repeat (first | exact w_nil | refine w_cons (Or.inl (y_m rfl)) ?_ | refine w_cons (Or.inr (by assumption)) ?_))
  refine q_in (v := lI.toInt64) (lo := Int64.ofNat 0) (hi := (de.getD nI.toNatClampNeg 0).toInt64) e7.1 (fun H8 h8 l3 l4 => ⟨fun n e => (by cases e), ?_⟩) (fun H8 h8 _ => ⟨fun n e => (by cases e), ?_⟩)
  · rw [y_i2l] at l3
    rw [y_i2l, y_i2l, hvc] at l4
    exact yes43 (y_sq e7 h8 rfl rfl) l3 l4 hde
  · exact no43 (y_sq e7 h8 rfl rfl)
theorem p_span {h : aH} (hr : w_hr z_D h) (hJ : y_J h) {nI aI lI gI : Int32} (hk : ∀ (r : Int32) (H : aH), y_fr h H [19584, 19619] [172, 173, 174, 175] → y_J H → K0 (some (.int r)) H C S) : aOK s_P X (d + 2) a_m249 0 [some (.ref 155), some (.int nI), some (.int aI), some (.int lI), some (.int gI), none, none] [] h C S K0 := by
  have hJ' := hJ
  obtain ⟨q1, q2, q3, q4, q5, q6, q7⟩ := hJ'
  obtain ⟨nd, le, de, ta, n1, n2, n3, n4, c1, c2, c3, c4, c5⟩ := id q1
  obtain ⟨b1, b2⟩ := y_ndb hr n1
  refine w_go z_hl [] [178, 179, 176] 30 hr ?_
  refine ⟨rfl, y_zini (by decide) (by decide), fun H1 h1 => ?_⟩
  have e1 : y_fr h H1 [19584] [] := y_st (y_mo (y_rf hr) rfl rfl) h1 (by repeat (first | exact w_nil | refine w_cons (Or.inl (y_m rfl)) ?_ | refine w_cons (Or.inr (by assumption)) ?_)) (by repeat (first | exact w_nil | refine w_cons (Or.inl (y_m rfl)) ?_ | refine w_cons (Or.inr (by assumption)) ?_))
  have out : ∀ {G : aH} {r : Int32}, y_fr h G [19584] [] → K0 (some (.int r)) G C S := fun g => hk _ _ (y_mo g rfl rfl) (y_J_fr g rfl rfl hJ)
  refine q_isNode (v := nI) e1.1 ((y_fe e1 rfl).trans n1) (fun H2 v h2 hv hv2 hvc => ⟨fun n e => (by cases e), ?_⟩) (fun H2 h2 => ⟨fun n e => (by cases e), ?_⟩)
  · have e2 := y_sq e1 h2 rfl rfl
    refine w_go z_hl [] [178, 179, 176] 30 e2.1 ?_
    refine ⟨fun q => absurd q (by decide), fun _ => ?_⟩
    intro H3 h3
    have e3 := y_st e2 h3 (by repeat (first | exact w_nil | refine w_cons (Or.inl (y_m rfl)) ?_ | refine w_cons (Or.inr (by assumption)) ?_)) (by repeat (first | exact w_nil | refine w_cons (Or.inl (y_m rfl)) ?_ | refine w_cons (Or.inr (by assumption)) ?_))
    refine y_cases (v := nI) e3.1 hv (by omega) ((y_ae e3 rfl).trans n2) (c1 v (by omega)).1 (fun cs H4 h4 hcs => ⟨fun n e => (by cases e), ?_⟩)
    have e4 := y_sq e3 h4 rfl rfl
    have hcs8 : cs.toInt ≤ 8 ∧ 1 ≤ cs.toInt := by
      rw [hcs]
      have h5 : 2 ^ y_pl (y_Nn le v) 10 ≤ 2 ^ 3 := Nat.pow_le_pow_right (by decide) (c1 v (by omega)).1
      have h6 : 0 < 2 ^ y_pl (y_Nn le v) 10 := Nat.pow_pos (by decide)
      omega
    refine w_go z_hl [] [178, 179, 176] 30 e4.1 ?_
    intro H5 h5
    have e5 := y_st e4 h5 (by repeat (first | exact w_nil | refine w_cons (Or.inl (y_m rfl)) ?_ | refine w_cons (Or.inr (by assumption)) ?_)) (by repeat (first | exact w_nil | refine w_cons (Or.inl (y_m rfl)) ?_ | refine w_cons (Or.inr (by assumption)) ?_))
    refine q_in (v := aI.toInt64) (lo := Int64.ofNat 0) (hi := (cs - Int32.ofInt 1).toInt64) e5.1 (fun H6 h6 l1 l2 => ⟨fun n e => (by cases e), ?_⟩) (fun H6 h6 _ => ⟨fun n e => (by cases e), ?_⟩)
    · have l1 : 0 ≤ aI.toInt := by rw [y_i2l] at l1; exact l1
      have l2 : aI.toInt ≤ cs.toInt - 1 := by rw [y_i2l, y_i2l, y_sub1 (by omega)] at l2; exact l2
      have e6 := y_sq e5 h6 rfl rfl
      exact y_span_mid hr hJ n3 hv (by omega) l1 (by omega) e6 hk
    · refine w_go z_hl [] [178, 179, 176] 30 h6.1 ?_
      refine ⟨fun _ => fun H11 h11 => ?_, fun q => absurd q (by decide)⟩
      exact out (y_st (y_sq e5 h6 rfl rfl) h11 (by repeat (first | exact w_nil | refine w_cons (Or.inl (y_m rfl)) ?_ | refine w_cons (Or.inr (by assumption)) ?_)) (by repeat (first | exact w_nil | refine w_cons (Or.inl (y_m rfl)) ?_ | refine w_cons (Or.inr (by assumption)) ?_)))
  · refine w_go z_hl [] [178, 179, 176] 30 h2.1 ?_
    refine ⟨fun _ => fun H11 h11 => ?_, fun q => absurd q (by decide)⟩
    exact out (y_st (y_sq e1 h2 rfl rfl) h11 (by repeat (first | exact w_nil | refine w_cons (Or.inl (y_m rfl)) ?_ | refine w_cons (Or.inr (by assumption)) ?_)) (by repeat (first | exact w_nil | refine w_cons (Or.inl (y_m rfl)) ?_ | refine w_cons (Or.inr (by assumption)) ?_)))
end WG
end PT27e
section PT27f
/-! ===== v3: the reference's lays, remembers, restores ===== -/
theorem y_cpyN {f g : List Int32} (hl : g.length = 80) {i : Nat} (hi : i < 80) : y_N (a_cpy f g 0 0 80) i = y_N f i := by
  unfold y_N a_cpy
  rw [List.getD_eq_getElem?_getD, List.getElem?_map, List.getElem?_range (by omega)]
  show (if 0 ≤ i ∧ i < 0 + 80 then f.getD (0 + (i - 0)) 0 else g.getD i 0).toInt = _
  rw [if_pos (by omega), show 0 + (i - 0) = i by omega]
theorem y_cpyM {f g : List Int32} (hf : f.length = 80) (hl : g.length = 80) {lo hi : Int} (h1 : ∀ x ∈ f, lo ≤ x.toInt ∧ x.toInt ≤ hi) : (a_cpy f g 0 0 80).length = 80 ∧ ∀ x ∈ a_cpy f g 0 0 80, lo ≤ x.toInt ∧ x.toInt ≤ hi := by
  unfold a_cpy
  refine ⟨by rw [List.length_map, List.length_range, hl], fun x hx => ?_⟩
  obtain ⟨j, hj, rfl⟩ := List.mem_map.mp hx
  have hj' := List.mem_range.mp hj
  rw [if_pos (by omega)]
  exact h1 _ (z_gd 0 (by omega))
section WG
variable {X : aX} {C S d : Nat} {K0 : Option Value → aH → Nat → Nat → Prop}
theorem y_lays {h : aH} (hr : w_hr z_D h) (hJ : y_J h) {kI bI : Int32} (k0 : 0 ≤ kI.toInt) (k6 : kI.toInt < 6) (hk : ∀ (H : aH), y_fr h H [] [158] → y_J H → K0 none H C S) : aOK s_P X d a_m252 0 [some (.ref 155), some (.int kI), some (.int bI)] [] h C S K0 := by
  have hJ' := hJ
  obtain ⟨q1, q2, q3, q4, q5, q6, q7⟩ := hJ'
  obtain ⟨nd, le, de, ta, n1, n2, n3, n4, c1, c2, c3, c4, c5⟩ := id q1
  obtain ⟨de', to, kt, sn, sl, sh, o1, o2, o3, o4, o5, o6, o7, o8, o9⟩ := id q3
  obtain rfl := y_ai n3 o1
  obtain ⟨k, hkk⟩ : ∃ k : Nat, kI.toInt = k := ⟨kI.toInt.toNat, by omega⟩
  have kc := y_cl1 hkk
  have bk : 0 ≤ kI.toInt ∧ kI.toInt < ((6 : Nat) : Int) := by omega
  have ck : kI.toNatClampNeg < 6 := by omega
  refine w_go z_hl [] [] 60 hr ?_
  refine ⟨bk, fun l1 hl1 len1 bb1 => ⟨bk, fun l2 hl2 len2 bb2 => ?_⟩⟩
  obtain rfl := y_ai o4 hl1
  have m1 := bb1 _ (z_gd (0 : Int32) (Nat.lt_of_lt_of_eq ck len1.symm))
  have m2 := bb2 _ (z_gd (0 : Int32) (Nat.lt_of_lt_of_eq ck len2.symm))
  rw [kc] at m1 m2
  obtain ⟨a, ha⟩ : ∃ a : Nat, (sn.getD k 0).toInt = a := ⟨(sn.getD k 0).toInt.toNat, by omega⟩
  obtain ⟨b, hb⟩ : ∃ b : Nat, (l2.getD k 0).toInt = b := ⟨(l2.getD k 0).toInt.toNat, by omega⟩
  have ea : y_Nn sn k = a := by unfold y_Nn; omega
  have ia : ((Int8.ofInt 8).toInt32 * sn.getD kI.toNatClampNeg 0 + l2.getD kI.toNatClampNeg 0).toInt = ((8 * a + b : Nat) : Int) := by
    rw [kc]
    exact y_i8 ha hb (by omega) (by omega)
  have ci := y_cl1 ia
  have bi : 0 ≤ ((Int8.ofInt 8).toInt32 * sn.getD kI.toNatClampNeg 0 + l2.getD kI.toNatClampNeg 0).toInt ∧ ((Int8.ofInt 8).toInt32 * sn.getD kI.toNatClampNeg 0 + l2.getD kI.toNatClampNeg 0).toInt < ((80 : Nat) : Int) := by
    rw [ia]
    have := m2.2
    omega
  have o9k := o9 k (by omega)
  rw [ea] at o9k
  have fin : ∀ {H : aH} {x : Int32}, y_fr h H [] [158] → w_a H 158 = some (0, .inl (ta.set ((Int8.ofInt 8).toInt32 * sn.getD kI.toNatClampNeg 0 + l2.getD kI.toNatClampNeg 0).toNatClampNeg x)) → x.toInt ≤ y_N de a → ta.length = 80 → K0 none H C S := by
    intro H x e A hx hlen
    refine hk H e ⟨⟨nd, le, de, _, (y_fe e rfl).trans n1, (y_ae e rfl).trans n2, (y_ae e rfl).trans n3, A, c1, fun i hi => ?_, c3, c4, c5⟩, j_dp_e (y_fe e rfl) (y_fe e rfl) (y_ae e rfl) q2, j_old_e (y_ae e rfl) (y_ae e rfl) (y_ae e rfl) (y_ae e rfl) (y_ae e rfl) (y_ae e rfl) q3, j_w_e (y_fe e rfl) (y_ae e rfl) q4, j_seen_e (y_fe e rfl) (y_fe e rfl) (y_ae e rfl) (y_ae e rfl) q5, j_kept_e (y_fe e rfl) (y_ae e rfl) (y_ae e rfl) (y_ae e rfl) (y_ae e rfl) q6, j_land_e (y_fe e rfl) (y_ae e rfl) q7⟩
    have m22 : (l2.getD k 0).toInt ≤ 7 := m2.2
    rw [ci, y_Nset (by omega)]
    split
    · rename_i ei
      subst ei
      rw [show (8 * a + b) / 8 = a by omega]
      exact hx
    · exact c2 i hi
  refine ⟨fun _ => ?_, fun _ => ?_⟩
  · refine ⟨bk, fun l3 hl3 len3 bb3 => ⟨bi, bb3 _ (z_gd (0 : Int32) (Nat.lt_of_lt_of_eq ck len3.symm)), fun l4 hl4 len4 bb4 => ?_⟩⟩
    obtain rfl := y_ai o5 hl3
    obtain rfl := y_ai n4 hl4
    intro H hH
    refine fin (y_st (y_mo (y_rf hr) rfl rfl) hH (by repeat (first | exact w_nil | refine w_cons (Or.inl (y_m rfl)) ?_ | refine w_cons (Or.inr (by assumption)) ?_)) (by repeat (first | exact w_nil | refine w_cons (Or.inl (y_m rfl)) ?_ | refine w_cons (Or.inr (by assumption)) ?_))) (hH.2.2.1 158 _ rfl) ?_ len4
    rw [kc]
    exact o9k.1
  · refine ⟨bk, fun l3 hl3 len3 bb3 => ⟨bi, bb3 _ (z_gd (0 : Int32) (Nat.lt_of_lt_of_eq ck len3.symm)), fun l4 hl4 len4 bb4 => ?_⟩⟩
    obtain rfl := y_ai o6 hl3
    obtain rfl := y_ai n4 hl4
    intro H hH
    refine fin (y_st (y_mo (y_rf hr) rfl rfl) hH (by repeat (first | exact w_nil | refine w_cons (Or.inl (y_m rfl)) ?_ | refine w_cons (Or.inr (by assumption)) ?_)) (by repeat (first | exact w_nil | refine w_cons (Or.inl (y_m rfl)) ?_ | refine w_cons (Or.inr (by assumption)) ?_))) (hH.2.2.1 158 _ rfl) ?_ len4
    rw [kc]
    exact o9k.2
theorem y_len80 {h : aH} {M : aM} {o pc len nx : Nat} {k : aK} {ls : aL} {r : List Value} {f : List Int32} (hl : M.2.2.2.2.2.lookup pc = some (.arraylength, len, k)) (hH : h[o]? = some (.inl (0, .inl f))) (hf : f.length = 80) (hp : pc + len = nx) (hk : aOK s_P X d M nx ls (.int (Int32.ofNat 80) :: r) h C S K0) : aOK s_P X d M pc ls (.ref (o + 2) :: r) h C S K0 := by
  refine aOK_op0 (pc' := nx) (ls' := ls) (st' := .int (Int32.ofNat 80) :: r) hl ?_ hk
  have e : a_hp .arraylength k (.ref (o + 2) :: r) h = some (.int (Int32.ofNat 80) :: r, h, 0, 0) := by
    show a_len (.ref (o + 2) :: r) h = _
    unfold a_len
    dsimp only
    rw [hH]
    dsimp only
    rw [hf, if_pos (by decide)]
  show (match a_hp .arraylength k (.ref (o + 2) :: r) h with
    | some (st', h', c, s) => some (pc + len, ls, st', h', c, s)
    | none => _) = _
  rw [e, hp]
theorem y_copy80 {h : aH} {M : aM} {o q pc len nx idx : Nat} {k : aK} {ls : aL} {f g : List Int32} (hl : M.2.2.2.2.2.lookup pc = some (.invokestatic idx, len, k)) (hk10 : k.1 = 10) (hH : h[o]? = some (.inl (0, .inl f))) (hf : f.length = 80) (hG : h[q]? = some (.inl (0, .inl g))) (hg : g.length = 80) (hp : pc + len = nx) (hk : aOK s_P X d M nx ls [] (h.set q (.inl (0, .inl (a_cpy f g 0 0 80)))) C S K0) : aOK s_P X d M pc ls [.int (Int32.ofNat 80), .int (Int32.ofInt 0), .ref (q + 2), .int (Int32.ofInt 0), .ref (o + 2)] h C S K0 := by
  refine aOK_op (pc' := nx) (ls' := ls) (st' := []) (h' := h.set q (.inl (0, .inl (a_cpy f g 0 0 80)))) (c := 0) (s := 0) hl ?_ hk
  have e : a_hp (.invokestatic idx) k [.int (Int32.ofNat 80), .int (Int32.ofInt 0), .ref (q + 2), .int (Int32.ofInt 0), .ref (o + 2)] h = some ([], h.set q (.inl (0, .inl (a_cpy f g 0 0 80))), 0, 0) := by
    unfold a_hp
    dsimp only
    rw [if_pos hk10, if_pos (show a_wd (List.drop 5 [.int (Int32.ofNat 80), .int (Int32.ofInt 0), .ref (q + 2), .int (Int32.ofInt 0), .ref (o + 2)]) ≤ 8 from Nat.zero_le 8)]
    unfold a_copy
    dsimp only
    rw [hH, hG]
    dsimp only
    rw [if_pos (by decide)]
    rw [show (Int32.ofInt 0).toNatClampNeg = 0 by decide, show (Int32.ofNat 80).toNatClampNeg = 80 by decide, hf, hg, if_neg (by decide), if_pos (Or.inl rfl)]
  show (match a_hp (.invokestatic idx) k [.int (Int32.ofNat 80), .int (Int32.ofInt 0), .ref (q + 2), .int (Int32.ofInt 0), .ref (o + 2)] h with
    | some (st', h', c, s) => some (pc + len, ls, st', h', c, s)
    | none => _) = _
  rw [e, hp]
theorem y_remembers {h : aH} (hr : w_hr z_D h) (hJ : y_J h) (hk : ∀ (H : aH), y_fr h H [] [176] → y_J H → K0 none H C S) : aOK s_P X d a_m251 0 [some (.ref 155)] [] h C S K0 := by
  have hJ' := hJ
  obtain ⟨q1, q2, q3, q4, q5, q6, q7⟩ := hJ'
  obtain ⟨nd, le, de, ta, n1, n2, n3, n4, c1, c2, c3, c4, c5⟩ := id q1
  obtain ⟨de', to, kt, sn, sl, sh, o1, o2, o3, o4, o5, o6, o7, o8, o9⟩ := id q3
  obtain rfl := y_ai n3 o1
  refine w_go z_hl [14] [] 60 hr ?_
  intro H hH
  have e : y_fr h H [] [] := y_st (y_rf hr) hH (by repeat (first | exact w_nil | refine w_cons (Or.inl (y_m rfl)) ?_ | refine w_cons (Or.inr (by assumption)) ?_)) (by repeat (first | exact w_nil | refine w_cons (Or.inl (y_m rfl)) ?_ | refine w_cons (Or.inr (by assumption)) ?_))
  obtain ⟨f, z1, z2, z3⟩ := w_arrI e.1 (o := 158) (t := 0) (n := 80) (lo := 0) (hi := 10000000) (by decide) rfl
  obtain ⟨g, z4, z5, z6⟩ := w_arrI e.1 (o := 176) (t := 0) (n := 80) (lo := 0) (hi := 10000000) (by decide) rfl
  obtain rfl := y_ai ((y_ae e rfl).trans n4) (w_a_at z1)
  refine y_len80 (nx := 15) rfl z1 z2 rfl ?_
  refine y_copy80 (nx := 18) rfl rfl z1 z2 z4 z5 rfl ?_
  have hm := y_cpyM z2 z5 z3
  have rel : w_rel z_D H [] [(176, (0, .inl (a_cpy ta g 0 0 80)))] (H.set 176 (.inl (0, .inl (a_cpy ta g 0 0 80)))) := w_rel_arr (w_rel0 e.1) (a := (0, 80, 0, 10000000)) rfl z4 ⟨by decide, _, rfl, hm.1, hm.2⟩
  refine w_go z_hl [] [] 60 rel.1 ?_
  intro H2 h2
  have e1 : y_fr h (H.set 176 (.inl (0, .inl (a_cpy ta g 0 0 80)))) [] [176] := y_st (y_mo e rfl rfl) rel (by repeat (first | exact w_nil | refine w_cons (Or.inl (y_m rfl)) ?_ | refine w_cons (Or.inr (by assumption)) ?_)) (by repeat (first | exact w_nil | refine w_cons (Or.inl (y_m rfl)) ?_ | refine w_cons (Or.inr (by assumption)) ?_))
  have e2 : y_fr h H2 [] [176] := y_st e1 h2 (by repeat (first | exact w_nil | refine w_cons (Or.inl (y_m rfl)) ?_ | refine w_cons (Or.inr (by assumption)) ?_)) (by repeat (first | exact w_nil | refine w_cons (Or.inl (y_m rfl)) ?_ | refine w_cons (Or.inr (by assumption)) ?_))
  have e3 : y_fr (H.set 176 (.inl (0, .inl (a_cpy ta g 0 0 80)))) H2 [] [] := y_st (y_rf rel.1) h2 (by repeat (first | exact w_nil | refine w_cons (Or.inl (y_m rfl)) ?_ | refine w_cons (Or.inr (by assumption)) ?_)) (by repeat (first | exact w_nil | refine w_cons (Or.inl (y_m rfl)) ?_ | refine w_cons (Or.inr (by assumption)) ?_))
  refine hk H2 e2 ⟨j_net_e (y_fe e2 rfl) (y_ae e2 rfl) (y_ae e2 rfl) (y_ae e2 rfl) q1, j_dp_e (y_fe e2 rfl) (y_fe e2 rfl) (y_ae e2 rfl) q2, ⟨de, _, kt, sn, sl, sh, (y_ae e2 rfl).trans n3, (y_ae e3 rfl).trans (rel.2.2.1 176 _ rfl), (y_ae e2 rfl).trans o3, (y_ae e2 rfl).trans o4, (y_ae e2 rfl).trans o5, (y_ae e2 rfl).trans o6, fun i hi => ?_, o8, o9⟩, j_w_e (y_fe e2 rfl) (y_ae e2 rfl) q4, j_seen_e (y_fe e2 rfl) (y_fe e2 rfl) (y_ae e2 rfl) (y_ae e2 rfl) q5, j_kept_e (y_fe e2 rfl) (y_ae e2 rfl) (y_ae e2 rfl) (y_ae e2 rfl) (y_ae e2 rfl) q6, j_land_e (y_fe e2 rfl) (y_ae e2 rfl) q7⟩
  rw [y_cpyN z5 hi]
  exact c2 i hi
theorem y_restores {h : aH} (hr : w_hr z_D h) (hJ : y_J h) (hk : ∀ (H : aH), y_fr h H [] [158] → y_J H → K0 none H C S) : aOK s_P X d a_m253 0 [some (.ref 155)] [] h C S K0 := by
  have hJ' := hJ
  obtain ⟨q1, q2, q3, q4, q5, q6, q7⟩ := hJ'
  obtain ⟨nd, le, de, ta, n1, n2, n3, n4, c1, c2, c3, c4, c5⟩ := id q1
  obtain ⟨de', to, kt, sn, sl, sh, o1, o2, o3, o4, o5, o6, o7, o8, o9⟩ := id q3
  obtain rfl := y_ai n3 o1
  refine w_go z_hl [14] [] 60 hr ?_
  intro H hH
  have e : y_fr h H [] [] := y_st (y_rf hr) hH (by repeat (first | exact w_nil | refine w_cons (Or.inl (y_m rfl)) ?_ | refine w_cons (Or.inr (by assumption)) ?_)) (by repeat (first | exact w_nil | refine w_cons (Or.inl (y_m rfl)) ?_ | refine w_cons (Or.inr (by assumption)) ?_))
  obtain ⟨g, z1, z2, z3⟩ := w_arrI e.1 (o := 158) (t := 0) (n := 80) (lo := 0) (hi := 10000000) (by decide) rfl
  obtain ⟨f, z4, z5, z6⟩ := w_arrI e.1 (o := 176) (t := 0) (n := 80) (lo := 0) (hi := 10000000) (by decide) rfl
  obtain rfl := y_ai ((y_ae e rfl).trans o2) (w_a_at z4)
  refine y_len80 (nx := 15) rfl z1 z2 rfl ?_
  refine y_copy80 (nx := 18) rfl rfl z4 z5 z1 z2 rfl ?_
  have hm := y_cpyM z5 z2 z6
  have rel : w_rel z_D H [] [(158, (0, .inl (a_cpy to g 0 0 80)))] (H.set 158 (.inl (0, .inl (a_cpy to g 0 0 80)))) := w_rel_arr (w_rel0 e.1) (a := (0, 80, 0, 10000000)) rfl z1 ⟨by decide, _, rfl, hm.1, hm.2⟩
  refine w_go z_hl [] [] 60 rel.1 ?_
  intro H2 h2
  have e1 : y_fr h (H.set 158 (.inl (0, .inl (a_cpy to g 0 0 80)))) [] [158] := y_st (y_mo e rfl rfl) rel (by repeat (first | exact w_nil | refine w_cons (Or.inl (y_m rfl)) ?_ | refine w_cons (Or.inr (by assumption)) ?_)) (by repeat (first | exact w_nil | refine w_cons (Or.inl (y_m rfl)) ?_ | refine w_cons (Or.inr (by assumption)) ?_))
  have e2 : y_fr h H2 [] [158] := y_st e1 h2 (by repeat (first | exact w_nil | refine w_cons (Or.inl (y_m rfl)) ?_ | refine w_cons (Or.inr (by assumption)) ?_)) (by repeat (first | exact w_nil | refine w_cons (Or.inl (y_m rfl)) ?_ | refine w_cons (Or.inr (by assumption)) ?_))
  have e3 : y_fr (H.set 158 (.inl (0, .inl (a_cpy to g 0 0 80)))) H2 [] [] := y_st (y_rf rel.1) h2 (by repeat (first | exact w_nil | refine w_cons (Or.inl (y_m rfl)) ?_ | refine w_cons (Or.inr (by assumption)) ?_)) (by repeat (first | exact w_nil | refine w_cons (Or.inl (y_m rfl)) ?_ | refine w_cons (Or.inr (by assumption)) ?_))
  refine hk H2 e2 ⟨⟨nd, le, de, _, (y_fe e2 rfl).trans n1, (y_ae e2 rfl).trans n2, (y_ae e2 rfl).trans n3, (y_ae e3 rfl).trans (rel.2.2.1 158 _ rfl), c1, fun i hi => ?_, c3, c4, c5⟩, j_dp_e (y_fe e2 rfl) (y_fe e2 rfl) (y_ae e2 rfl) q2, j_old_e (y_ae e2 rfl) (y_ae e2 rfl) (y_ae e2 rfl) (y_ae e2 rfl) (y_ae e2 rfl) (y_ae e2 rfl) q3, j_w_e (y_fe e2 rfl) (y_ae e2 rfl) q4, j_seen_e (y_fe e2 rfl) (y_fe e2 rfl) (y_ae e2 rfl) (y_ae e2 rfl) q5, j_kept_e (y_fe e2 rfl) (y_ae e2 rfl) (y_ae e2 rfl) (y_ae e2 rfl) (y_ae e2 rfl) q6, j_land_e (y_fe e2 rfl) (y_ae e2 rfl) q7⟩
  rw [y_cpyN z2 hi]
  exact o7 i hi
end WG
end PT27f
