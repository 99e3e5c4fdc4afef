/-! ===== v3: the reference's fractions: common ===== -/
theorem z_hl : ∀ o ci ks, z_D o = some (.inr (.inl (ci, ks))) → ks.length ≤ 128 := (z_hlen (J := fun _ => True) ⟨fun _ _ _ _ _ _ _ _ _ q => q, fun _ _ _ _ _ _ q => q⟩).1
theorem y_gcd : ∀ (n : Nat) (x y : Int64), 0 ≤ x.toInt → 0 ≤ y.toInt → y.toInt.natAbs < n → (s_gcd n x y).toInt = ((Nat.gcd x.toInt.toNat y.toInt.toNat : Nat) : Int)
  | 0, _, _, _, _, h => by omega
  | n + 1, x, y, hx, hy, h => by
    unfold s_gcd
    split
    · rename_i h0
      subst h0
      have e0 : (0 : Int64).toInt = 0 := rfl
      rw [e0]
      show x.toInt = _
      rw [Int.toNat_zero, Nat.gcd_zero_right]
      omega
    · rename_i h0
      have hy0 : y.toInt ≠ 0 := fun e => h0 (Int64.toInt_inj.mp (by rw [e]; rfl))
      have hr := s_i64rem x y
      have hr2 : (x - x / y * y).toInt = x.toInt % y.toInt := by rw [hr, Int.tmod_eq_emod_of_nonneg hx]
      have b1 := Int.emod_nonneg x.toInt hy0
      have b2 := Int.emod_lt_of_pos x.toInt (show 0 < y.toInt by omega)
      rw [y_gcd n y _ hy (by omega) (by omega), hr2, Int.toNat_emod hx hy, Nat.gcd_comm y.toInt.toNat, ← Nat.gcd_rec, Nat.gcd_comm]
theorem y_ge {a : Int64} (h : a_cnd .ge (lg_cmp a (Int64.ofNat 0)) 0 = true) : 0 ≤ a.toInt := Int64.le_iff_toInt_le.mp ((lg_cmp_ge _ _).mp (of_decide_eq_true h))
theorem y_lt {a : Int64} (h : a_cnd .ge (lg_cmp a (Int64.ofNat 0)) 0 = false) : a.toInt < 0 := by
  refine Int.lt_of_not_ge (fun q => ?_)
  have : a_cnd .ge (lg_cmp a (Int64.ofNat 0)) 0 = true := decide_eq_true ((lg_cmp_ge _ _).mpr (Int64.le_iff_toInt_le.mpr q))
  rw [this] at h
  cases h
theorem y_neg {a : Int64} (h : -9223372036854775808 < a.toInt) : (-a).toInt = -a.toInt := by
  have h2 := a.toInt_lt
  rw [Int64.toInt_neg]
  exact Int.bmod_eq_of_le (by omega) (by omega)
/-- heaps that are the same to all who look -/
def w_eq (h H : aH) : Prop := w_rel z_D h [] [] H
theorem w_rel_tr {D : Nat → Option zC} {h H1 H2 : aH} {hf : wF} {ha : wA} (h1 : w_rel D h [] [] H1) (h2 : w_rel D H1 hf ha H2) : w_rel D h hf ha H2 := by
  obtain ⟨r1, r2, r3, r4, r5⟩ := h2
  exact ⟨r1, r2, r3, fun key hl => (r4 key hl).trans (h1.2.2.2.1 key rfl), fun o hl => (r5 o hl).trans (h1.2.2.2.2 o rfl)⟩
section WG
variable {X : aX} {h : aH} {C S d : Nat} {K0 : Option Value → aH → Nat → Nat → Prop}
/-- common: of a number that is not the least one, and of one that is not below 0 -/
theorem y_common (hr : w_hr z_D h) {a b : Int64} (ha : -9223372036854775808 < a.toInt) (hb : 0 ≤ b.toInt) (hk : ∀ (g : Int64) (H : aH), w_eq h H → g.toInt = ((Nat.gcd a.toInt.natAbs b.toInt.natAbs : Nat) : Int) → K0 (some (.long g)) H C S) : aOK s_P X d a_m195 0 [some (.long a), none, some (.long b), none, none, none, none, none, none, none] [] h C S K0 := by
  refine w_go z_hl [28] [] 40 hr ?_
  refine ⟨fun h1 => ?_, fun h1 => ?_⟩
  · have ha0 := y_ge h1
    refine ⟨fun h2 => ?_, fun h2 => ?_⟩
    · intro H hH
      refine s_cm_loop a b s_big a b none (s_lt_big b) (hk _ H hH ?_)
      rw [y_gcd s_big a b ha0 hb (s_lt_big b), show a.toInt.toNat = a.toInt.natAbs by omega, show b.toInt.toNat = b.toInt.natAbs by omega]
    · have := y_lt h2
      omega
  · have ha0 := y_lt h1
    have hn := y_neg ha
    refine ⟨fun h2 => ?_, fun h2 => ?_⟩
    · intro H hH
      refine s_cm_loop a b s_big (-a) b none (s_lt_big b) (hk _ H hH ?_)
      rw [y_gcd s_big (-a) b (by omega) hb (s_lt_big b), hn, show (-a.toInt).toNat = a.toInt.natAbs by omega, show b.toInt.toNat = b.toInt.natAbs by omega]
    · have := y_lt h2
      omega
end WG
