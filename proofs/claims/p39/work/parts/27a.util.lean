/-! ===== v3: shorter ways ===== -/
theorem y_ai {o : Option (Nat × aA)} {t t' : Nat} {l l' : List Int32} (h1 : o = some (t, .inl l)) (h2 : o = some (t', .inl l')) : l = l' := by
  subst h1
  cases h2
  rfl
theorem y_al {o : Option (Nat × aA)} {t t' : Nat} {l l' : List Int64} (h1 : o = some (t, .inr (.inl l))) (h2 : o = some (t', .inr (.inl l'))) : l = l' := by
  subst h1
  cases h2
  rfl
theorem y_fi {o : Option Value} {a b : Int32} (h1 : o = some (.int a)) (h2 : o = some (.int b)) : a = b := by
  subst h1
  cases h2
  rfl
theorem y_fl {o : Option Value} {a b : Int64} (h1 : o = some (.long a)) (h2 : o = some (.long b)) : a = b := by
  subst h1
  cases h2
  rfl
theorem y_sub {l l' : List Nat} (h : l.all (fun x => l'.elem x) = true) : ∀ x ∈ l, x ∈ l' := fun x hx => List.elem_iff.mp (List.all_eq_true.mp h x hx)
section YU
variable {h G H : aH} {fs as fs' as' : List Nat} {hf : wF} {ha : wA}
theorem y_st (e : y_fr h G fs as) (r : w_rel z_D G hf ha H) (h1 : ∀ q ∈ hf, q.1 ∈ fs ∨ w_f G q.1 = some q.2) (h2 : ∀ q ∈ ha, q.1 ∈ as ∨ w_a G q.1 = some q.2) : y_fr h H fs as := y_fr_tr e (y_fr_rel r h1 h2) (fun _ q => q) (fun _ q => q)
theorem y_sq (e : y_fr h G fs as) (r : y_fr G H fs' as') (h1 : fs'.all (fun x => fs.elem x) = true) (h2 : as'.all (fun x => as.elem x) = true) : y_fr h H fs as := y_fr_tr e r (y_sub h1) (y_sub h2)
theorem y_mo (e : y_fr h H fs as) (h1 : fs.all (fun x => fs'.elem x) = true) (h2 : as.all (fun x => as'.elem x) = true) : y_fr h H fs' as' := y_fr_mono e (y_sub h1) (y_sub h2)
theorem y_w0 (r : w_eq h H) : y_fr h H [] [] := y_fr_rel r w_nil w_nil
theorem y_rf (hr : w_hr z_D h) : y_fr h h [] [] := ⟨hr, fun _ _ => rfl, fun _ _ => rfl⟩
end YU
section WG
variable {X : aX} {C S d : Nat} {K0 : Option Value → aH → Nat → Nat → Prop} {h : aH}
theorem q_in (hr : w_hr z_D h) {v lo hi : Int64} (yes : ∀ H, y_fr h H [] [] → lo.toInt ≤ v.toInt → v.toInt ≤ hi.toInt → K0 (some (.int (y_01 true))) H C S) (no : ∀ H, y_fr h H [] [] → (lo.toInt ≤ v.toInt → v.toInt ≤ hi.toInt → False) → K0 (some (.int (y_01 false))) H C S) : aOK s_P X d a_m176 0 [some (.long v), none, some (.long lo), none, some (.long hi), none] [] h C S K0 := by
  refine y_in hr (fun H hH => ?_)
  by_cases q : lo.toInt ≤ v.toInt ∧ v.toInt ≤ hi.toInt
  · rw [decide_eq_true q]
    exact yes H (y_w0 hH) q.1 q.2
  · rw [decide_eq_false q]
    exact no H (y_w0 hH) (fun a b => q ⟨a, b⟩)
theorem q_isNode (hr : w_hr z_D h) {v nd : Int32} (hn : w_f h 19591 = some (.int nd)) (yes : ∀ H (vv : Nat), y_fr h H [] [] → v.toInt = vv → (vv : Int) < nd.toInt → v.toNatClampNeg = vv → K0 (some (.int (y_01 true))) H C S) (no : ∀ H, y_fr h H [] [] → K0 (some (.int (y_01 false))) H C S) : aOK s_P X (d + 1) a_m178 0 [some (.ref 155), some (.int v)] [] h C S K0 := by
  refine y_isNode hr hn (fun H hH => ?_)
  by_cases q : 0 ≤ v.toInt ∧ v.toInt < nd.toInt
  · rw [decide_eq_true q]
    have := v.toInt_lt
    refine yes H v.toInt.toNat hH (by omega) (by omega) rfl
  · rw [decide_eq_false q]
    exact no H hH
theorem q_isSet (hr : w_hr z_D h) {v nd : Int32} (hn : w_f h 19591 = some (.int nd)) (yes : ∀ H (vv : Nat), y_fr h H [] [] → v.toInt = vv → vv < y_ways nd → v.toNatClampNeg = vv → K0 (some (.int (y_01 true))) H C S) (no : ∀ H, y_fr h H [] [] → K0 (some (.int (y_01 false))) H C S) : aOK s_P X (d + 1) a_m174 0 [some (.ref 155), some (.int v)] [] h C S K0 := by
  obtain ⟨b1, b2⟩ := y_ndb hr hn
  refine y_isSet hr hn b1 b2 (fun H hH => ?_)
  by_cases q : 0 ≤ v.toInt ∧ v.toInt < y_ways nd
  · rw [decide_eq_true q]
    refine yes H v.toInt.toNat hH (by omega) (by omega) rfl
  · rw [decide_eq_false q]
    exact no H hH
end WG
theorem y_smb {h : aH} (hr : w_hr z_D h) {nd : Int32} (hn : w_f h 19598 = some (.int nd)) : 0 ≤ nd.toInt ∧ nd.toInt ≤ 10 := by
  obtain ⟨vs, w, g1, g2, g3, g4⟩ := w_get1 hr (o := 153) (ci := 12) rfl (k := 14) rfl
  have e := w_f_at g1 (k := 14) (by decide)
  rw [g3] at e
  have e2 := e.symm.trans hn
  cases e2
  rcases g4 with ⟨-, x, e3, b1, b2⟩ | ⟨q, -⟩
  · cases e3
    exact ⟨b1, b2⟩
  · cases q
theorem y_spb {h : aH} (hr : w_hr z_D h) {nd : Int32} (hn : w_f h 19619 = some (.int nd)) : 0 ≤ nd.toInt ∧ nd.toInt ≤ 6 := by
  obtain ⟨vs, w, g1, g2, g3, g4⟩ := w_get1 hr (o := 153) (ci := 12) rfl (k := 35) rfl
  have e := w_f_at g1 (k := 35) (by decide)
  rw [g3] at e
  have e2 := e.symm.trans hn
  cases e2
  rcases g4 with ⟨-, x, e3, b1, b2⟩ | ⟨q, -⟩
  · cases e3
    exact ⟨b1, b2⟩
  · cases q
theorem y_lnb {h : aH} (hr : w_hr z_D h) {nd : Int32} (hn : w_f h 19640 = some (.int nd)) : 0 ≤ nd.toInt ∧ nd.toInt ≤ 8 := by
  obtain ⟨vs, w, g1, g2, g3, g4⟩ := w_get1 hr (o := 153) (ci := 12) rfl (k := 56) rfl
  have e := w_f_at g1 (k := 56) (by decide)
  rw [g3] at e
  have e2 := e.symm.trans hn
  cases e2
  rcases g4 with ⟨-, x, e3, b1, b2⟩ | ⟨q, -⟩
  · cases e3
    exact ⟨b1, b2⟩
  · cases q
theorem y_syb {h : aH} (hr : w_hr z_D h) {nd : Int32} (hn : w_f h 19603 = some (.int nd)) : 0 ≤ nd.toInt ∧ nd.toInt ≤ 12 := by
  obtain ⟨vs, w, g1, g2, g3, g4⟩ := w_get1 hr (o := 153) (ci := 12) rfl (k := 19) rfl
  have e := w_f_at g1 (k := 19) (by decide)
  rw [g3] at e
  have e2 := e.symm.trans hn
  cases e2
  rcases g4 with ⟨-, x, e3, b1, b2⟩ | ⟨q, -⟩
  · cases e3
    exact ⟨b1, b2⟩
  · cases q
/-- pigeons -/
theorem y_pig : ∀ (n m : Nat) (f : Nat → Int), (∀ k, k < m → 0 ≤ f k ∧ f k < n) → (∀ i j, i < m → j < m → f i = f j → i = j) → m ≤ n := by
  intro n
  induction n with
  | zero =>
    intro m f h1 h2
    rcases Nat.eq_zero_or_pos m with q | q
    · omega
    · have := h1 0 q
      omega
  | succ n ih =>
    intro m f h1 h2
    by_cases hx : ∃ k0, k0 < m ∧ f k0 = n
    · obtain ⟨k0, a1, a2⟩ := hx
      obtain ⟨p, rfl⟩ : ∃ p, m = p + 1 := ⟨m - 1, by omega⟩
      have key : ∀ i, i < p → ∃ u, u < p + 1 ∧ u ≠ k0 ∧ (if i = k0 then f p else f i) = f u ∧ (i = k0 → u = p) ∧ (i ≠ k0 → u = i) := fun i hi => by
        by_cases q : i = k0
        · exact ⟨p, by omega, by omega, by rw [if_pos q], fun _ => rfl, fun r => absurd q r⟩
        · exact ⟨i, by omega, q, by rw [if_neg q], fun r => absurd r q, fun _ => rfl⟩
      have := ih p (fun i => if i = k0 then f p else f i) (fun i hi => ?_) (fun i j hi hj e => ?_)
      · omega
      · obtain ⟨u, u1, u2, u3, -, -⟩ := key i hi
        show 0 ≤ (if i = k0 then f p else f i) ∧ (if i = k0 then f p else f i) < n
        rw [u3]
        have b := h1 u u1
        refine ⟨b.1, ?_⟩
        have : f u ≠ n := fun e => u2 (h2 u k0 u1 a1 (e.trans a2.symm))
        omega
      · obtain ⟨u, u1, u2, u3, u4, u5⟩ := key i hi
        obtain ⟨w, w1, w2, w3, w4, w5⟩ := key j hj
        have e' : f u = f w := u3.symm.trans (e.trans w3)
        have := h2 u w u1 w1 e'
        by_cases qi : i = k0
        · by_cases qj : j = k0
          · omega
          · have := u4 qi
            have := w5 qj
            omega
        · by_cases qj : j = k0
          · have := u5 qi
            have := w4 qj
            omega
          · have := u5 qi
            have := w5 qj
            omega
    · have := ih m f (fun k hk => ?_) h2
      · omega
      · have b := h1 k hk
        refine ⟨b.1, ?_⟩
        have : f k ≠ n := fun e => hx ⟨k, hk, e⟩
        omega
/-- one more can be seen -/
theorem y_ord_lt {n m : Nat} {so sa : Nat → Int} (h : y_ord n m so sa) {v : Nat} (hv : v < n) (hs : sa v < 0) : m < n := by
  obtain ⟨-, t2, t3, -⟩ := h
  have nv : ∀ k, k < m → so k ≠ v := fun k hk e => by
    have := (t2 k hk).2.2
    rw [e] at this
    have e2 : ((v : Nat) : Int).toNat = v := by omega
    rw [e2] at this
    omega
  refine y_pig n (m + 1) (fun k => if k = m then (v : Int) else so k) (fun k hk => ?_) (fun i j hi hj e => ?_)
  · split
    · omega
    · have := t2 k (by omega)
      exact ⟨this.1, this.2.1⟩
  · split at e
    · split at e
      · omega
      · exact absurd e.symm (nv j (by omega))
    · split at e
      · exact absurd e (nv i (by omega))
      · exact t3 i j (by omega) (by omega) e
