/-! ===== v3: what is told of the reference's heap ===== -/
/-- the net: leanings, depths, tables -/
def y_nc (nd : Int32) (le de ta : List Int32) : Prop := (∀ v, v < 10 → y_pl (y_Nn le v) 10 ≤ 3 ∧ y_Nn le v < 2 ^ v) ∧ (∀ i, i < 80 → y_N ta i ≤ y_N de (i / 8)) ∧ (∀ v : Nat, (v : Int) < nd.toInt → 1 ≤ y_N de v) ∧ y_pr (y_N de) nd.toInt.toNat ≤ 100000000 ∧ ∀ v : Nat, nd.toInt ≤ v → y_N de v = 0
def j_net0 (a : Option Value) (b c e : Option (Nat × aA)) : Prop := ∃ nd le de ta, a = some (.int nd) ∧ b = some (0, .inl le) ∧ c = some (0, .inl de) ∧ e = some (0, .inl ta) ∧ y_nc nd le de ta
def j_net (H : aH) : Prop := j_net0 (w_f H 19591) (w_a H 156) (w_a H 157) (w_a H 158)
/-- the product of depths -/
def j_dp0 (a b : Option Value) (c : Option (Nat × aA)) : Prop := ∃ nd dp de, a = some (.int nd) ∧ b = some (.long dp) ∧ c = some (0, .inl de) ∧ dp.toInt = y_pr (y_N de) nd.toInt.toNat
def j_dp (H : aH) : Prop := j_dp0 (w_f H 19591) (w_f H 19600) (w_a H 157)
/-- tables that lie by -/
def j_old0 (c a1 a2 a3 a4 a5 : Option (Nat × aA)) : Prop := ∃ de to kt sn sl sh, c = some (0, .inl de) ∧ a1 = some (0, .inl to) ∧ a2 = some (0, .inl kt) ∧ a3 = some (0, .inl sn) ∧ a4 = some (0, .inl sl) ∧ a5 = some (0, .inl sh) ∧ (∀ i, i < 80 → y_N to i ≤ y_N de (i / 8)) ∧ (∀ i, i < 240 → y_N kt i ≤ y_N de (i % 80 / 8)) ∧ ∀ k, k < 6 → y_N sl k ≤ y_N de (y_Nn sn k) ∧ y_N sh k ≤ y_N de (y_Nn sn k)
def j_old (H : aH) : Prop := j_old0 (w_a H 157) (w_a H 176) (w_a H 194) (w_a H 172) (w_a H 174) (w_a H 175)
/-- weights -/
def j_w0 (a : Option Value) (b : Option (Nat × aA)) : Prop := ∃ nd wl, a = some (.int nd) ∧ b = some (1, .inr (.inl wl)) ∧ (∀ x ∈ wl, 0 ≤ x.toInt) ∧ y_tot wl 1024 ≤ 100000000 ∧ ∀ i, y_ways nd ≤ i → wl.getD i 0 = 0
def j_w (H : aH) : Prop := j_w0 (w_f H 19591) (w_a H 163)
/-- what was seen, in its order -/
def y_ord (n m : Nat) (so sa : Nat → Int) : Prop := m ≤ n ∧ (∀ k, k < m → 0 ≤ so k ∧ so k < n ∧ 0 ≤ sa (so k).toNat) ∧ (∀ i j, i < m → j < m → so i = so j → i = j) ∧ ∀ v, v < n → 0 ≤ sa v → ∃ k, k < m ∧ so k = v
def j_seen0 (a b : Option Value) (c e : Option (Nat × aA)) : Prop := ∃ nd sm so sa, a = some (.int nd) ∧ b = some (.int sm) ∧ c = some (0, .inl so) ∧ e = some (0, .inl sa) ∧ y_ord nd.toInt.toNat sm.toInt.toNat (y_N so) (y_N sa)
def j_seen (H : aH) : Prop := j_seen0 (w_f H 19591) (w_f H 19598) (w_a H 162) (w_a H 160)
def j_kept0 (a : Option Value) (b c e f : Option (Nat × aA)) : Prop := ∃ nd kn km ko ks, a = some (.int nd) ∧ b = some (0, .inl kn) ∧ c = some (0, .inl km) ∧ e = some (0, .inl ko) ∧ f = some (0, .inl ks) ∧ ∀ i, i < 3 → y_N kn i ≤ nd.toInt ∧ y_ord (y_Nn kn i) (y_Nn km i) (fun k => y_N ko (10 * i + k)) (fun v => y_N ks (10 * i + v))
def j_kept (H : aH) : Prop := j_kept0 (w_f H 19591) (w_a H 187) (w_a H 193) (w_a H 192) (w_a H 190)
/-- lands have people -/
def j_land0 (a : Option Value) (b : Option (Nat × aA)) : Prop := ∃ ln pe, a = some (.int ln) ∧ b = some (0, .inl pe) ∧ ∀ k : Nat, (k : Int) < ln.toInt → 1 ≤ y_N pe k
def j_land (H : aH) : Prop := j_land0 (w_f H 19640) (w_a H 182)
def y_J (H : aH) : Prop := j_net H ∧ j_dp H ∧ j_old H ∧ j_w H ∧ j_seen H ∧ j_kept H ∧ j_land H
section YJ
variable {h H : aH}
theorem j_net_e (e1 : w_f H 19591 = w_f h 19591) (e2 : w_a H 156 = w_a h 156) (e3 : w_a H 157 = w_a h 157) (e4 : w_a H 158 = w_a h 158) (q : j_net h) : j_net H := by unfold j_net; rw [e1, e2, e3, e4]; exact q
theorem j_dp_e (e1 : w_f H 19591 = w_f h 19591) (e2 : w_f H 19600 = w_f h 19600) (e3 : w_a H 157 = w_a h 157) (q : j_dp h) : j_dp H := by unfold j_dp; rw [e1, e2, e3]; exact q
theorem j_old_e (e1 : w_a H 157 = w_a h 157) (e2 : w_a H 176 = w_a h 176) (e3 : w_a H 194 = w_a h 194) (e4 : w_a H 172 = w_a h 172) (e5 : w_a H 174 = w_a h 174) (e6 : w_a H 175 = w_a h 175) (q : j_old h) : j_old H := by unfold j_old; rw [e1, e2, e3, e4, e5, e6]; exact q
theorem j_w_e (e1 : w_f H 19591 = w_f h 19591) (e2 : w_a H 163 = w_a h 163) (q : j_w h) : j_w H := by unfold j_w; rw [e1, e2]; exact q
theorem j_seen_e (e1 : w_f H 19591 = w_f h 19591) (e2 : w_f H 19598 = w_f h 19598) (e3 : w_a H 162 = w_a h 162) (e4 : w_a H 160 = w_a h 160) (q : j_seen h) : j_seen H := by unfold j_seen; rw [e1, e2, e3, e4]; exact q
theorem j_kept_e (e1 : w_f H 19591 = w_f h 19591) (e2 : w_a H 187 = w_a h 187) (e3 : w_a H 193 = w_a h 193) (e4 : w_a H 192 = w_a h 192) (e5 : w_a H 190 = w_a h 190) (q : j_kept h) : j_kept H := by unfold j_kept; rw [e1, e2, e3, e4, e5]; exact q
theorem j_land_e (e1 : w_f H 19640 = w_f h 19640) (e2 : w_a H 182 = w_a h 182) (q : j_land h) : j_land H := by unfold j_land; rw [e1, e2]; exact q
theorem y_J_x : y_jx y_J := by
  intro H H' hf ha q
  have f : ∀ k, z_jc.elem k = true → w_f H' k = w_f H k := fun k hk => hf k (List.elem_iff.mp hk)
  have a : ∀ o, z_jc.elem (o * 128) = true → w_a H' o = w_a H o := fun o ho => ha o (List.elem_iff.mp ho)
  obtain ⟨q1, q2, q3, q4, q5, q6, q7⟩ := q
  exact ⟨j_net_e (f _ rfl) (a _ rfl) (a _ rfl) (a _ rfl) q1, j_dp_e (f _ rfl) (f _ rfl) (a _ rfl) q2, j_old_e (a _ rfl) (a _ rfl) (a _ rfl) (a _ rfl) (a _ rfl) (a _ rfl) q3, j_w_e (f _ rfl) (a _ rfl) q4, j_seen_e (f _ rfl) (f _ rfl) (a _ rfl) (a _ rfl) q5, j_kept_e (f _ rfl) (a _ rfl) (a _ rfl) (a _ rfl) (a _ rfl) q6, j_land_e (f _ rfl) (a _ rfl) q7⟩
/-- nothing that is told rests on what changed -/
theorem y_J_fr {fs as : List Nat} (hf : y_fr h H fs as) (h1 : fs.all (fun x => !z_jc.elem x) = true) (h2 : as.all (fun x => !z_jc.elem (x * 128)) = true) (q : y_J h) : y_J H := y_jfr y_J_x hf h1 h2 q
theorem y_fe {fs as : List Nat} (hf : y_fr h H fs as) {k : Nat} (hk : fs.elem k = false) : w_f H k = w_f h k := hf.2.1 k (fun q => by rw [List.elem_iff.mpr q] at hk; cases hk)
theorem y_ae {fs as : List Nat} (hf : y_fr h H fs as) {k : Nat} (hk : as.elem k = false) : w_a H k = w_a h k := hf.2.2 k (fun q => by rw [List.elem_iff.mpr q] at hk; cases hk)
theorem y_ndb (hr : w_hr z_D h) {nd : Int32} (hn : w_f h 19591 = some (.int nd)) : 0 ≤ nd.toInt ∧ nd.toInt ≤ 10 := by
  obtain ⟨vs, w, g1, g2, g3, g4⟩ := w_get1 hr (o := 153) (ci := 12) rfl (k := 7) rfl
  have e := w_f_at g1 (k := 7) (by decide)
  rw [g3] at e
  have e2 := e.symm.trans hn
  cases e2
  rcases g4 with ⟨-, x, e3, b1, b2⟩ | ⟨q, -⟩
  · cases e3
    exact ⟨b1, b2⟩
  · cases q
end YJ
/-- what looking costs: at least 1 -/
def j_cost0 (a : Option Value) (b c e : Option (Nat × aA)) : Prop := ∃ nd co kn kc, a = some (.int nd) ∧ b = some (0, .inl co) ∧ c = some (0, .inl kn) ∧ e = some (0, .inl kc) ∧ (∀ v : Nat, (v : Int) < nd.toInt → 1 ≤ y_N co v) ∧ ∀ i v : Nat, i < 3 → v < y_Nn kn i → 1 ≤ y_N kc (10 * i + v)
def j_cost (H : aH) : Prop := j_cost0 (w_f H 19591) (w_a H 161) (w_a H 187) (w_a H 191)
theorem j_cost_e {h H : aH} {fs as : List Nat} (e : y_fr h H fs as) (h1 : fs.elem 19591 = false) (h2 : [161, 187, 191].all (fun x => !as.elem x) = true) (q : j_cost h) : j_cost H := by
  have k : ∀ x, [161, 187, 191].elem x = true → as.elem x = false := fun x hx => by
    have := List.all_eq_true.mp h2 x (List.elem_iff.mp hx)
    cases q : as.elem x with
    | true => rw [q] at this; cases this
    | false => rfl
  unfold j_cost
  rw [y_fe e h1, y_ae e (k 161 rfl), y_ae e (k 187 rfl), y_ae e (k 191 rfl)]
  exact q
section WG
variable {X : aX} {C S d : Nat} {K0 : Option Value → aH → Nat → Nat → Prop} {h : aH}
theorem p_set (hr : w_hr z_D h) (hJ : y_J h) {node at' v : Int32} (hk : ∀ (r : Int32) (H : aH), y_fr h H [19584] [158] → y_J H → K0 (some (.int r)) H C S) : aOK s_P X (d + 2) a_m177 0 [some (.ref 155), some (.int node), some (.int at'), some (.int v), none] [] h C S K0 := by
  have hJ' := hJ
  obtain ⟨⟨nd, le, de, ta, n1, n2, n3, n4, c1, c2, c3, c4, c5⟩, -⟩ := hJ'
  obtain ⟨b1, b2⟩ := y_ndb hr n1
  refine w_go z_hl [] [178, 179, 176] 30 hr ?_
  refine ⟨rfl, y_zini (by decide) (by decide), ?_⟩
  intro H1 h1
  have f1 : y_fr h H1 [19584] [158] := y_fr_rel h1 (w_cons (Or.inl (y_m rfl)) w_nil) w_nil
  have out : ∀ {G H : aH}, y_fr h G [19584] [158] → y_J G → w_rel z_D G [] [] H → K0 (some (.int (Int32.ofInt (-1)))) H C S := fun g1 g2 g3 => hk _ _ (y_fr_tr g1 (y_fr_rel g3 w_nil w_nil) (fun _ q => q) (fun _ q => q)) (y_J_fr (fs := []) (as := []) (y_fr_rel g3 w_nil w_nil) rfl rfl g2)
  have e1 : y_fr h H1 [19584] [] := y_fr_rel h1 (w_cons (Or.inl (y_m rfl)) w_nil) w_nil
  have J1 : y_J H1 := y_J_fr e1 rfl rfl hJ
  refine y_isNode (v := node) f1.1 ((y_fe e1 rfl).trans n1) (fun H2 h2 => ?_)
  refine ⟨fun n e => (by cases e), ?_⟩
  have e2 : y_fr h H2 [19584] [] := y_fr_tr e1 (y_fr_mono h2 (fun _ q => by cases q) (fun _ q => q)) (fun _ q => q) (fun _ q => q)
  have J2 : y_J H2 := y_J_fr e2 rfl rfl hJ
  cases hnode : decide (0 ≤ node.toInt ∧ node.toInt < nd.toInt) with
  | false =>
    refine w_go z_hl [] [178, 179, 176] 30 h2.1 ?_
    refine ⟨fun q => ?_, fun q => absurd q (by decide)⟩
    intro H3 h3
    exact out (y_fr_mono e2 (fun _ q => q) (fun _ q => by cases q)) J2 h3
  | true =>
    have hnv := of_decide_eq_true hnode
    obtain ⟨vv, hv⟩ : ∃ vv : Nat, node.toInt = vv := ⟨node.toInt.toNat, by omega⟩
    refine w_go z_hl [] [178, 179, 176] 30 h2.1 ?_
    refine ⟨fun q => absurd q (by decide), fun q => ?_⟩
    intro H3 h3
    have e3 : y_fr h H3 [19584] [] := y_fr_tr e2 (y_fr_rel h3 w_nil w_nil) (fun _ q => q) (fun _ q => q)
    refine y_cases (v := node) e3.1 hv (by omega) ((y_ae e3 rfl).trans n2) (c1 vv (by omega)).1 (fun cs H4 h4 hcs => ?_)
    refine ⟨fun n e => (by cases e), ?_⟩
    have e4 : y_fr h H4 [19584] [] := y_fr_tr e3 (y_fr_mono h4 (fun _ q => by cases q) (fun _ q => q)) (fun _ q => q) (fun _ q => q)
    have hcs8 : cs.toInt ≤ 8 ∧ 1 ≤ cs.toInt := by
      rw [hcs]
      have h5 : 2 ^ y_pl (y_Nn le vv) 10 ≤ 2 ^ 3 := Nat.pow_le_pow_right (by decide) (c1 vv (by omega)).1
      have h6 : 0 < 2 ^ y_pl (y_Nn le vv) 10 := Nat.pow_pos (by decide)
      omega
    refine w_go z_hl [] [178, 179, 176] 30 e4.1 ?_
    intro H5 h5
    have e5 : y_fr h H5 [19584] [] := y_fr_tr e4 (y_fr_rel h5 w_nil w_nil) (fun _ q => q) (fun _ q => q)
    refine y_in h5.1 (fun H6 h6 => ?_)
    refine ⟨fun n e => (by cases e), ?_⟩
    have e6 : y_fr h H6 [19584] [] := y_fr_tr e5 (y_fr_rel h6 w_nil w_nil) (fun _ q => q) (fun _ q => q)
    have J6 : y_J H6 := y_J_fr e6 rfl rfl hJ
    cases hat : decide ((Int64.ofNat 0).toInt ≤ at'.toInt64.toInt ∧ at'.toInt64.toInt ≤ (cs - Int32.ofInt 1).toInt64.toInt) with
    | false =>
      have go : aOK s_P X (d + 2) a_m177 27 [some (.ref 155), some (.int node), some (.int at'), some (.int v), none] [.int (y_01 false)] H6 C S K0 := by
        refine w_go z_hl [] [178, 179, 176] 30 e6.1 ?_
        refine ⟨fun q => ?_, fun q => absurd q (by decide)⟩
        intro H7 h7
        exact out (y_fr_mono e6 (fun _ q => q) (fun _ q => by cases q)) J6 h7
      rw [← hat] at go
      exact go
    | true =>
      have hav := of_decide_eq_true hat
      rw [y_i2l, y_i2l, y_sub1 (by omega), show (Int64.ofNat 0).toInt = 0 from rfl] at hav
      obtain ⟨aa, ha⟩ : ∃ aa : Nat, at'.toInt = aa := ⟨at'.toInt.toNat, by omega⟩
      have hidx := y_idx8 hv ha (by omega) (by omega)
      have hic := (y_ofNat hidx (by omega)).2
      have hidxb : 0 ≤ ((Int8.ofInt 8).toInt32 * node + at').toInt ∧ ((Int8.ofInt 8).toInt32 * node + at').toInt < ((80 : Nat) : Int) := by omega
      have hvc := (y_ofNat hv (by omega)).2
      have go : aOK s_P X (d + 2) a_m177 27 [some (.ref 155), some (.int node), some (.int at'), some (.int v), none] [.int (y_01 true)] H6 C S K0 := by
        refine w_go z_hl [] [178, 179, 176] 30 e6.1 ?_
        refine ⟨fun q => absurd q (by decide), fun q => ?_⟩
        refine ⟨⟨by omega, by omega⟩, fun l hl hlen hbb => ?_⟩
        have el : l = de := by
          have := hl.symm.trans ((y_ae e6 rfl).trans n3)
          cases this
          rfl
        subst el
        intro H7 h7
        have e7 : y_fr h H7 [19584] [] := y_fr_tr e6 (y_fr_rel h7 w_nil (w_cons (Or.inr hl) w_nil)) (fun _ q => q) (fun _ q => q)
        refine y_in h7.1 (fun H8 h8 => ?_)
        refine ⟨fun n e => (by cases e), ?_⟩
        have e8 : y_fr h H8 [19584] [] := y_fr_tr e7 (y_fr_rel h8 w_nil w_nil) (fun _ q => q) (fun _ q => q)
        have J8 : y_J H8 := y_J_fr e8 rfl rfl hJ
        cases hvd : decide ((Int64.ofNat 0).toInt ≤ v.toInt64.toInt ∧ v.toInt64.toInt ≤ (l.getD node.toNatClampNeg 0).toInt64.toInt) with
        | false =>
          have go2 : aOK s_P X (d + 2) a_m177 43 [some (.ref 155), some (.int node), some (.int at'), some (.int v), none] [.int (y_01 false)] H8 C S K0 := by
            refine w_go z_hl [] [178, 179, 176] 30 e8.1 ?_
            refine ⟨fun q => absurd q (by decide), fun q => ?_⟩
            intro H9 h9
            exact out (y_fr_mono e8 (fun _ q => q) (fun _ q => by cases q)) J8 h9
          rw [← hvd] at go2
          exact go2
        | true =>
          have hvv := of_decide_eq_true hvd
          rw [y_i2l, y_i2l, hvc, show (Int64.ofNat 0).toInt = 0 from rfl] at hvv
          have hm := hbb _ (z_gd (0 : Int32) (show vv < l.length by omega))
          have go2 : aOK s_P X (d + 2) a_m177 43 [some (.ref 155), some (.int node), some (.int at'), some (.int v), none] [.int (y_01 true)] H8 C S K0 := by
            refine w_go z_hl [] [178, 179, 176] 40 e8.1 ?_
            refine ⟨fun q => ?_, fun q => absurd q (by decide)⟩
            refine ⟨hidxb, fun l2 hl2 hlen2 hbb2 => ?_⟩
            have el2 : l2 = ta := by
              have := hl2.symm.trans ((y_ae e8 rfl).trans n4)
              cases this
              rfl
            subst el2
            refine ⟨hidxb, ⟨by omega, by omega⟩, fun H9 h9 => ?_⟩
            have f9 : y_fr H8 H9 [] [158] := y_fr_rel h9 w_nil (w_cons (Or.inl (y_m rfl)) (w_cons (Or.inl (y_m rfl)) w_nil))
            have e9 : y_fr h H9 [19584] [158] := y_fr_tr (y_fr_mono e8 (fun _ q => q) (fun _ q => by cases q)) f9 (fun _ q => by cases q) (fun _ q => q)
            refine hk _ H9 e9 ?_
            obtain ⟨q1, q2, q3, q4, q5, q6, q7⟩ := hJ
            refine ⟨⟨nd, le, l, _, (y_fe e9 rfl).trans n1, (y_ae e9 rfl).trans n2, (y_ae e9 rfl).trans n3, h9.2.2.1 158 _ rfl, c1, fun i hi => ?_, c3, c4, c5⟩, j_dp_e (y_fe e9 rfl) (y_fe e9 rfl) (y_ae e9 rfl) q2, j_old_e (y_ae e9 rfl) (y_ae e9 rfl) (y_ae e9 rfl) (y_ae e9 rfl) (y_ae e9 rfl) (y_ae e9 rfl) q3, j_w_e (y_fe e9 rfl) (y_ae e9 rfl) q4, j_seen_e (y_fe e9 rfl) (y_fe e9 rfl) (y_ae e9 rfl) (y_ae e9 rfl) q5, j_kept_e (y_fe e9 rfl) (y_ae e9 rfl) (y_ae e9 rfl) (y_ae e9 rfl) (y_ae e9 rfl) q6, j_land_e (y_fe e9 rfl) (y_ae e9 rfl) q7⟩
            show (List.getD (l2.set ((Int8.ofInt 8).toInt32 * node + at').toNatClampNeg v) i 0).toInt ≤ _
            rw [hic, y_gset (by omega)]
            split
            · rename_i ei
              subst ei
              rw [show (8 * vv + aa) / 8 = vv by omega]
              exact hvv.2
            · exact c2 i hi
          rw [← hvd] at go2
          exact go2
      rw [← hat] at go
      exact go
end WG
