/-! ===== v2: the declared heap's fields ===== -/
set_option maxRecDepth 100000 in
theorem z_D_len : (List.range 196).all (fun o => match z_D o with
  | some (.inr (.inl (_, ks))) => decide (ks.length ≤ 128)
  | _ => true) = true := by decide +kernel
theorem z_hlen {J : aH → Prop} (hJ : z_jl J) : z_len0 J z_D := by
  refine ⟨?_, hJ⟩
  intro o ci ks h
  have ho : o < 196 := by
    apply Nat.lt_of_not_le
    intro hle
    unfold z_D at h
    rw [show Nat.ble 196 o = true from Nat.ble_eq.mpr hle] at h
    cases h
  have := List.all_eq_true.mp z_D_len o (List.mem_range.mpr ho)
  rw [h] at this
  exact of_decide_eq_true this
theorem z_nil {P : zQ → Prop} : ∀ Q ∈ ([] : List zQ), P Q := fun Q h => by cases h
theorem z_cons {P : zQ → Prop} {Q0 : zQ} {l : List zQ} (h0 : P Q0) (h : ∀ Q ∈ l, P Q) : ∀ Q ∈ Q0 :: l, P Q := fun Q hQ => by
  rcases List.mem_cons.mp hQ with rfl | hQ
  · exact h0
  · exact h Q hQ
