/-! ===== v3: the reference's fractions: lowest ===== -/
theorem y_div {a b : Int64} (ha : -9223372036854775808 < a.toInt) (hb : 1 ≤ b.toInt) : (a / b).toInt = a.toInt.tdiv b.toInt := by
  have h2 := a.toInt_lt
  have hn : (a.toInt.tdiv b.toInt).natAbs ≤ a.toInt.natAbs := by
    rw [Int.natAbs_tdiv]
    exact Nat.div_le_self _ _
  rw [Int64.toInt_div]
  exact Int.bmod_eq_of_le (by omega) (by omega)
theorem y_zin {x : Int64} {lo hi : Int} (h1 : lo ≤ x.toInt) (h2 : x.toInt ≤ hi) : z_in (2, lo, hi) (.long x) := Or.inr ⟨rfl, x, rfl, h1, h2⟩
theorem y_zini {x : Int32} {lo hi : Int} (h1 : lo ≤ x.toInt) (h2 : x.toInt ≤ hi) : z_in (1, lo, hi) (.int x) := Or.inl ⟨rfl, x, rfl, h1, h2⟩
theorem y_l64 (x : Int64) : -9223372036854775808 ≤ x.toInt ∧ x.toInt ≤ 9223372036854775807 := z_fll x
section WG
variable {X : aX} {h : aH} {C S d : Nat} {K0 : Option Value → aH → Nat → Nat → Prop}
theorem y_lowest (hr : w_hr z_D h) {n m : Int64} (hn : -9223372036854775808 < n.toInt) (hm : 1 ≤ m.toInt)
    (hk : ∀ (g : Nat) (u l : Int64) (H : aH), g = Nat.gcd n.toInt.natAbs m.toInt.natAbs → 1 ≤ g → u.toInt = n.toInt.tdiv g → l.toInt = m.toInt / g → 1 ≤ l.toInt → w_rel z_D h [(19588, .long l), (19587, .long u)] [] H → K0 none H C S) :
    aOK s_P X (d + 1) a_m194 0 [some (.ref 155), some (.long n), none, some (.long m), none, none, none] [] h C S K0 := by
  refine w_go z_hl [] [195] 30 hr ?_
  intro H hH
  refine y_common (a := n) (b := m) hH.1 hn (by omega) (fun g H1 h1 hg => ?_)
  have hgp : 1 ≤ Nat.gcd n.toInt.natAbs m.toInt.natAbs := Nat.gcd_pos_of_pos_right _ (by omega)
  have hgd : Nat.gcd n.toInt.natAbs m.toInt.natAbs ≤ m.toInt.natAbs := Nat.gcd_le_right _ (by omega)
  have hg1 : 1 ≤ g.toInt := by omega
  have hg0 : g ≠ 0 := fun e => by
    rw [e] at hg1
    have : (0 : Int64).toInt = 0 := rfl
    omega
  have hu : (n / g).toInt = n.toInt.tdiv g.toInt := y_div hn hg1
  have hl : (m / g).toInt = m.toInt / g.toInt := by
    rw [y_div (by omega) hg1, Int.tdiv_eq_ediv_of_nonneg (by omega)]
  have hl1 : 1 ≤ (m / g).toInt := by
    rw [hl]
    exact Int.le_ediv_of_mul_le (by omega) (by omega)
  refine ⟨fun n e => (by cases e), ?_⟩
  refine w_go z_hl [] [] 30 h1.1 ?_
  refine ⟨hg0, rfl, y_zin (y_l64 _).1 (y_l64 _).2, hg0, rfl, y_zin (by omega) (y_l64 _).2, ?_⟩
  intro H2 h2
  exact hk _ _ _ H2 rfl hgp (by rw [hu, hg]) (by rw [hl, hg]) hl1 (w_rel_tr (w_rel_tr hH h1) h2)
end WG
