/-! ===== v3: the reference's fractions: passes, times ===== -/
def y_rel (c : ClassFile.Cond) (x y : Int) : Prop := match c with
  | .eq => x = y
  | .ne => x ≠ y
  | .lt => x < y
  | .ge => y ≤ x
  | .gt => y < x
  | .le => x ≤ y
theorem y_cl (c : ClassFile.Cond) (a b : Int64) : a_cnd c (lg_cmp a b) 0 = true ↔ y_rel c a.toInt b.toInt := by
  cases c
  · exact ⟨fun h => congrArg _ ((lg_cmp_eq _ _).mp (of_decide_eq_true h)), fun h => decide_eq_true ((lg_cmp_eq _ _).mpr (Int64.toInt_inj.mp h))⟩
  · show (!decide (lg_cmp a b = 0)) = true ↔ a.toInt ≠ b.toInt
    rw [Bool.not_eq_true', decide_eq_false_iff_not, lg_cmp_eq]
    exact ⟨fun h e => h (Int64.toInt_inj.mp e), fun h e => h (congrArg _ e)⟩
  · exact ⟨fun h => Int64.lt_iff_toInt_lt.mp ((lg_cmp_lt _ _).mp (of_decide_eq_true h)), fun h => decide_eq_true ((lg_cmp_lt _ _).mpr (Int64.lt_iff_toInt_lt.mpr h))⟩
  · exact ⟨fun h => Int64.le_iff_toInt_le.mp ((lg_cmp_ge _ _).mp (of_decide_eq_true h)), fun h => decide_eq_true ((lg_cmp_ge _ _).mpr (Int64.le_iff_toInt_le.mpr h))⟩
  · exact ⟨fun h => Int64.lt_iff_toInt_lt.mp ((lg_cmp_gt _ _).mp (of_decide_eq_true h)), fun h => decide_eq_true ((lg_cmp_gt _ _).mpr (Int64.lt_iff_toInt_lt.mpr h))⟩
  · exact ⟨fun h => Int64.le_iff_toInt_le.mp ((lg_cmp_le _ _).mp (of_decide_eq_true h)), fun h => decide_eq_true ((lg_cmp_le _ _).mpr (Int64.le_iff_toInt_le.mpr h))⟩
theorem y_ci (c : ClassFile.Cond) (a b : Int32) : a_cnd c a b = true ↔ y_rel c a.toInt b.toInt := by
  cases c
  · exact ⟨fun h => congrArg _ (of_decide_eq_true h), fun h => decide_eq_true (Int32.toInt_inj.mp h)⟩
  · show (!decide (a = b)) = true ↔ a.toInt ≠ b.toInt
    rw [Bool.not_eq_true', decide_eq_false_iff_not]
    exact ⟨fun h e => h (Int32.toInt_inj.mp e), fun h e => h (congrArg _ e)⟩
  · exact ⟨fun h => Int32.lt_iff_toInt_lt.mp (of_decide_eq_true h), fun h => decide_eq_true (Int32.lt_iff_toInt_lt.mpr h)⟩
  · exact ⟨fun h => Int32.le_iff_toInt_le.mp (of_decide_eq_true h), fun h => decide_eq_true (Int32.le_iff_toInt_le.mpr h)⟩
  · exact ⟨fun h => Int32.lt_iff_toInt_lt.mp (of_decide_eq_true h), fun h => decide_eq_true (Int32.lt_iff_toInt_lt.mpr h)⟩
  · exact ⟨fun h => Int32.le_iff_toInt_le.mp (of_decide_eq_true h), fun h => decide_eq_true (Int32.le_iff_toInt_le.mpr h)⟩
theorem y_fls {b : Bool} {p : Prop} (h : b = false) (e : b = true ↔ p) : ¬ p := fun q => by rw [e.mpr q] at h; cases h
theorem y_clf {c : ClassFile.Cond} {a b : Int64} (h : a_cnd c (lg_cmp a b) 0 = false) : ¬ y_rel c a.toInt b.toInt := y_fls h (y_cl c a b)
theorem y_cif {c : ClassFile.Cond} {a b : Int32} (h : a_cnd c a b = false) : ¬ y_rel c a.toInt b.toInt := y_fls h (y_ci c a b)
theorem y_i64 {n : Int} (h1 : -9223372036854775808 ≤ n) (h2 : n ≤ 9223372036854775807) : (Int64.ofInt n).toInt = n := by
  rw [Int64.toInt_ofInt]
  show Int.bmod n 18446744073709551616 = n
  exact Int.bmod_eq_of_le (by omega) (by omega)
theorem y_m {x : Nat} {l : List Nat} (h : l.elem x = true) : x ∈ l := List.elem_iff.mp h
theorem y_mul {a b : Int64} (h1 : -9223372036854775808 ≤ a.toInt * b.toInt) (h2 : a.toInt * b.toInt ≤ 9223372036854775807) : (a * b).toInt = a.toInt * b.toInt := by
  rw [Int64.toInt_mul]
  exact Int.bmod_eq_of_le (by omega) (by omega)
section WG
variable {X : aX} {h : aH} {C S d : Nat} {K0 : Option Value → aH → Nat → Nat → Prop}
theorem y_passes (hr : w_hr z_D h) {a b : Int64} (ha : 0 ≤ a.toInt) (hb : 0 ≤ b.toInt) (hk : ∀ (r : Int32) (H : aH), w_eq h H → (r = 1 ∨ (r = 0 ∧ a.toInt * b.toInt ≤ 1000000000000000000)) → K0 (some (.int r)) H C S) : aOK s_P X d a_m216 0 [some (.long a), none, some (.long b), none] [] h C S K0 := by
  refine w_go z_hl [] [] 40 hr ?_
  refine ⟨fun q => ?_, fun q => ?_⟩
  · refine ⟨by decide, fun H hH => hk 0 H hH (Or.inr ⟨rfl, ?_⟩)⟩
    have e : b.toInt = 0 := (y_cl .eq b _).mp q
    rw [e, Int.mul_zero]
    decide
  · have hb0 : b ≠ Int64.ofNat 0 := y_eq0 q
    have hb1 : 1 ≤ b.toInt := by
      have : b.toInt ≠ 0 := fun e => hb0 (Int64.toInt_inj.mp (by rw [e]; rfl))
      omega
    have e1 : (Int64.ofInt 1000000000000000000 / b).toInt = 1000000000000000000 / b.toInt := by
      have e2 : (Int64.ofInt 1000000000000000000).toInt = 1000000000000000000 := y_i64 (by decide) (by decide)
      rw [y_div (by rw [e2]; decide) hb1, e2, Int.tdiv_eq_ediv_of_nonneg (by decide)]
    refine ⟨hb0, fun q2 => ?_, fun q2 => ?_⟩
    · refine ⟨by decide, fun H hH => hk 0 H hH (Or.inr ⟨rfl, ?_⟩)⟩
      have h3 : a.toInt ≤ (Int64.ofInt 1000000000000000000 / b).toInt := (y_cl .le a _).mp q2
      rw [e1] at h3
      exact Int.mul_le_of_le_ediv (by omega) h3
    · exact ⟨by decide, fun H hH => hk 1 H hH (Or.inl rfl)⟩
theorem y_times (hr : w_hr z_D h) {n m u l : Int64} (hn : 0 ≤ n.toInt) (hm : 1 ≤ m.toInt) (hu : w_f h 19587 = some (.long u)) (hl : w_f h 19588 = some (.long l)) (hu0 : 0 ≤ u.toInt) (hl1 : 1 ≤ l.toInt)
    (hk : ∀ (u' l' : Int64) (H : aH), 0 ≤ u'.toInt → 1 ≤ l'.toInt → u'.toInt ≤ 1000000000000000000 → l'.toInt ≤ 1000000000000000000 → w_f H 19587 = some (.long u') → w_f H 19588 = some (.long l') → y_fr h H [19587, 19588, 19589] [] → K0 none H C S) :
    aOK s_P X (d + 2) a_m215 0 [some (.ref 155), some (.long n), none, some (.long m), none, none, none, none, none, none, none, none, none, none, none, none, none] [] h C S K0 := by
  refine w_go z_hl [] [195] 30 hr ?_
  intro x hx b1 b2
  have e : x = u := by
    have := hx.symm.trans hu
    cases this
    rfl
  subst e
  intro H hH
  refine y_common (a := x) (b := m) hH.1 (by omega) (by omega) (fun c H1 h1 hc => ?_)
  refine ⟨fun n e => (by cases e), ?_⟩
  have hH1 : w_rel z_D h [(19587, .long x)] [] H1 := by
    obtain ⟨r1, r2, r3, r4, r5⟩ := h1
    exact ⟨r1, fun k v hv => (r4 k rfl).trans (hH.2.1 k v hv), fun o a q => (by cases q), fun k hv => (r4 k rfl).trans (hH.2.2.2.1 k hv), fun o q => (r5 o rfl).trans (hH.2.2.2.2 o q)⟩
  have hE : y_fr h H1 [] [] := y_fr_rel hH1 (w_cons (Or.inr hu) w_nil) w_nil
  have hu1 : w_f H1 19587 = some (.long x) := (hE.2.1 _ (fun q => by cases q)).trans hu
  have hl1' : w_f H1 19588 = some (.long l) := (hE.2.1 _ (fun q => by cases q)).trans hl
  refine w_go z_hl [] [195] 30 hE.1 ?_
  intro y hy b3 b4
  have e : y = l := by
    have := hy.symm.trans hl1'
    cases this
    rfl
  subst e
  intro H2 hH2
  refine y_common (a := n) (b := y) hH2.1 (by omega) (by omega) (fun g H3 h3 hg => ?_)
  refine ⟨fun n e => (by cases e), ?_⟩
  have hE2 : y_fr H1 H2 [] [] := y_fr_rel hH2 (w_cons (Or.inr hl1') w_nil) w_nil
  have hE3 : y_fr h H3 [] [] := y_fr_tr (y_fr_tr hE hE2 (fun _ q => q) (fun _ q => q)) (y_fr_rel h3 w_nil w_nil) (fun _ q => q) (fun _ q => q)
  have hu3 : w_f H3 19587 = some (.long x) := (hE3.2.1 _ (fun q => by cases q)).trans hu
  have hl3 : w_f H3 19588 = some (.long y) := (hE3.2.1 _ (fun q => by cases q)).trans hl
  have hcp : 1 ≤ Nat.gcd x.toInt.natAbs m.toInt.natAbs := Nat.gcd_pos_of_pos_right _ (by omega)
  have hcm : Nat.gcd x.toInt.natAbs m.toInt.natAbs ≤ m.toInt.natAbs := Nat.gcd_le_right _ (by omega)
  have hgp : 1 ≤ Nat.gcd n.toInt.natAbs y.toInt.natAbs := Nat.gcd_pos_of_pos_right _ (by omega)
  have hgm : Nat.gcd n.toInt.natAbs y.toInt.natAbs ≤ y.toInt.natAbs := Nat.gcd_le_right _ (by omega)
  have hc1 : 1 ≤ c.toInt := by omega
  have hg1 : 1 ≤ g.toInt := by omega
  have hc0 : c ≠ 0 := fun e => by
    rw [e] at hc1
    have : (0 : Int64).toInt = 0 := rfl
    omega
  have hg0 : g ≠ 0 := fun e => by
    rw [e] at hg1
    have : (0 : Int64).toInt = 0 := rfl
    omega
  have dv : ∀ (a b : Int64), 0 ≤ a.toInt → 1 ≤ b.toInt → (a / b).toInt = a.toInt / b.toInt := fun a b ha hb => by
    rw [y_div (by omega) hb, Int.tdiv_eq_ediv_of_nonneg ha]
  have ea := dv x c hu0 hc1
  have eb := dv n g hn hg1
  have ef := dv y g (by omega) hg1
  have eg := dv m c (by omega) hc1
  have pa : 0 ≤ (x / c).toInt := by rw [ea]; exact Int.ediv_nonneg hu0 (by omega)
  have pb : 0 ≤ (n / g).toInt := by rw [eb]; exact Int.ediv_nonneg hn (by omega)
  have pf : 1 ≤ (y / g).toInt := by rw [ef]; exact Int.le_ediv_of_mul_le (by omega) (by omega)
  have pg : 1 ≤ (m / c).toInt := by rw [eg]; exact Int.le_ediv_of_mul_le (by omega) (by omega)
  refine w_go z_hl [] [216] 40 hE3.1 ?_
  intro x' hx' _ _
  have e : x' = x := by
    have := hx'.symm.trans hu3
    cases this
    rfl
  subst e
  refine ⟨hc0, hg0, ?_⟩
  intro y' hy' _ _
  have e : y' = y := by
    have := hy'.symm.trans hl3
    cases this
    rfl
  subst e
  refine ⟨hg0, hc0, ?_⟩
  intro H4 hH4
  have hE4 : y_fr H3 H4 [] [] := y_fr_rel hH4 (w_cons (Or.inr hl3) (w_cons (Or.inr hu3) w_nil)) w_nil
  -- what a great one leaves
  have great : ∀ {H5 : aH} {r1 r2 r3 : Option Value}, y_fr h H5 [] [] → ∀ H6, w_rel z_D H5 [(19588, .long (Int64.ofNat 1)), (19587, .long (Int64.ofNat 0)), (19589, .int (Int32.ofInt 1))] [] H6 → K0 none H6 C S := by
    intro H5 _ _ _ hE5 H6 h6
    refine hk (Int64.ofNat 0) (Int64.ofNat 1) H6 (by decide) (by decide) (by decide) (by decide) (h6.2.1 19587 _ rfl) (h6.2.1 19588 _ rfl) ?_
    refine y_fr_tr (y_fr_mono hE5 (fun _ q => by cases q) (fun _ q => q)) (y_fr_rel h6 (fs := [19587, 19588, 19589]) ?_ w_nil) (fun _ q => q) (fun _ q => q)
    exact w_cons (Or.inl (y_m rfl)) (w_cons (Or.inl (y_m rfl)) (w_cons (Or.inl (y_m rfl)) w_nil))
  refine y_passes (a := x' / c) (b := n / g) hH4.1 pa pb (fun r H5 h5 hr5 => ?_)
  refine ⟨fun n e => (by cases e), ?_⟩
  have hE5 : y_fr h H5 [] [] := y_fr_tr (y_fr_tr hE3 hE4 (fun _ q => q) (fun _ q => q)) (y_fr_rel h5 w_nil w_nil) (fun _ q => q) (fun _ q => q)
  refine w_go z_hl [] [216] 40 hE5.1 ?_
  refine ⟨fun q => ?_, fun q => ?_⟩
  · exact ⟨rfl, y_zini (by decide) (by decide), rfl, y_zin (by decide) (by decide), rfl, y_zin (by decide) (by decide), great (r1 := none) (r2 := none) (r3 := none) hE5⟩
  · have hab : (x' / c).toInt * (n / g).toInt ≤ 1000000000000000000 := by
      rcases hr5 with rfl | ⟨-, q5⟩
      · exact absurd q (by decide)
      · exact q5
    intro H6 hH6
    refine y_passes (a := y' / g) (b := m / c) hH6.1 (by omega) (by omega) (fun r H7 h7 hr7 => ?_)
    refine ⟨fun n e => (by cases e), ?_⟩
    have hE7 : y_fr h H7 [] [] := y_fr_tr (y_fr_tr hE5 (y_fr_rel hH6 w_nil w_nil) (fun _ q => q) (fun _ q => q)) (y_fr_rel h7 w_nil w_nil) (fun _ q => q) (fun _ q => q)
    refine w_go z_hl [] [194] 40 hE7.1 ?_
    refine ⟨fun q => ?_, fun q => ?_⟩
    · have hfg : (y' / g).toInt * (m / c).toInt ≤ 1000000000000000000 := by
        rcases hr7 with rfl | ⟨-, q7⟩
        · exact absurd q (by decide)
        · exact q7
      have pab : 0 ≤ (x' / c).toInt * (n / g).toInt := Int.mul_nonneg pa pb
      have pfg : 1 * 1 ≤ (y' / g).toInt * (m / c).toInt := Int.mul_le_mul pf pg (by decide) (by omega)
      have mab : (x' / c * (n / g)).toInt = (x' / c).toInt * (n / g).toInt := y_mul (by omega) (by omega)
      have mfg : (y' / g * (m / c)).toInt = (y' / g).toInt * (m / c).toInt := y_mul (by omega) (by omega)
      intro H8 hH8
      refine y_lowest (n := x' / c * (n / g)) (m := y' / g * (m / c)) hH8.1 (by omega) (by omega) (fun k u' l' H9 hk9 hk1 hu9 hl9 hl91 hrel9 => ?_)
      refine ⟨fun n e => (by cases e), ?_⟩
      refine w_go z_hl [] [] 10 hrel9.1 ?_
      intro H10 h10
      have f10 : ∀ key, w_f H10 key = w_f H9 key := fun key => h10.2.2.2.1 key rfl
      refine hk u' l' H10 ?_ hl91 ?_ ?_ ((f10 _).trans (hrel9.2.1 19587 _ rfl)) ((f10 _).trans (hrel9.2.1 19588 _ rfl)) ?_
      · rw [hu9]
        exact Int.tdiv_nonneg (by omega) (by omega)
      · have hab2 : u'.toInt.natAbs ≤ (x' / c * (n / g)).toInt.natAbs := by
          rw [hu9, Int.natAbs_tdiv]
          exact Nat.div_le_self _ _
        omega
      · have hfg2 : l'.toInt ≤ (y' / g * (m / c)).toInt := by
          rw [hl9]
          exact Int.ediv_le_self _ (by omega)
        omega
      · have f8 : y_fr h H8 [19587, 19588, 19589] [] := y_fr_mono (y_fr_tr hE7 (y_fr_rel hH8 w_nil w_nil) (fun _ q => q) (fun _ q => q)) (fun _ q => by cases q) (fun _ q => q)
        refine y_fr_tr (y_fr_tr f8 (y_fr_rel hrel9 (fs := [19587, 19588, 19589]) ?_ w_nil) (fun _ q => q) (fun _ q => q)) (y_fr_rel h10 w_nil w_nil (fs := [19587, 19588, 19589])) (fun _ q => q) (fun _ q => q)
        exact w_cons (Or.inl (y_m rfl)) (w_cons (Or.inl (y_m rfl)) w_nil)
    · exact ⟨rfl, y_zini (by decide) (by decide), rfl, y_zin (by decide) (by decide), rfl, y_zin (by decide) (by decide), great (r1 := none) (r2 := none) (r3 := none) hE7⟩
end WG
