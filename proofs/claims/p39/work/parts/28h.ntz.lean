/-! ===== v3: the zeros behind a bit ===== -/
set_option maxRecDepth 100000 in
theorem y_one0 : (List.range 1024).all (fun b => Nat.blt 1 (y_pl b 10) || Nat.blt (y_pl b 10) 1 || [1, 2, 4, 8, 16, 32, 64, 128, 256, 512].elem b) = true := by decide +kernel
theorem y_one {b : Nat} (hb : b < 1024) (h1 : y_pl b 10 = 1) : b = 1 ∨ b = 2 ∨ b = 4 ∨ b = 8 ∨ b = 16 ∨ b = 32 ∨ b = 64 ∨ b = 128 ∨ b = 256 ∨ b = 512 := by
  have := List.all_eq_true.mp y_one0 b (List.mem_range.mpr hb)
  rw [h1] at this
  have h2 := List.elem_iff.mp (show List.elem b [1, 2, 4, 8, 16, 32, 64, 128, 256, 512] = true from this)
  simp only [List.mem_cons, List.not_mem_nil, or_false] at h2
  exact h2
section WG
variable {X : aX} {C S d : Nat} {K0 : Option Value → aH → Nat → Nat → Prop}
theorem y_ntz {h : aH} (hr : w_hr z_D h) {x : Int32} {b : Nat} (hx : x.toInt = b) (hb : b < 1024) (h1 : y_pl b 10 = 1) (hK : ∀ (r : Int32) (H : aH), y_fr h H [] [] → 0 ≤ r.toInt → r.toInt ≤ 9 → K0 (some (.int r)) H C S) : aOK s_P X d a_m269 0 [some (.int x), none] [] h C S K0 := by
  have e := (y_ofNat hx (by omega)).1
  subst e
  rcases y_one hb h1 with rfl | rfl | rfl | rfl | rfl | rfl | rfl | rfl | rfl | rfl <;>
  · refine w_go z_hl [] [] 80 hr ?_
    repeat (first | refine ⟨fun q => absurd q (by decide), fun _ => ?_⟩ | refine ⟨fun _ => ?_, fun q => absurd q (by decide)⟩)
    intro H hH
    exact hK _ H (y_st (y_rf hr) hH (by repeat (first | exact w_nil | refine w_cons (Or.inl (y_m rfl)) ?_ | refine w_cons (Or.inr (by assumption)) ?_)) (by repeat (first | exact w_nil | refine w_cons (Or.inl (y_m rfl)) ?_ | refine w_cons (Or.inr (by assumption)) ?_))) (by decide) (by decide)
end WG
