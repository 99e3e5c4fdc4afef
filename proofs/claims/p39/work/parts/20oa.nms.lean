/-! ===== v2: names for fields ===== -/
/-- a name for a field that is not known by one -/
def z_nm1 (D : Nat → Option zC) (key : Nat) (s : zV × zF × Nat) : Option (zV × zF × Nat) := match s.1.lookup key with
  | some _ => some s
  | none => match D (key / 128) with
    | some (.inr (.inl (_, ks))) => match ks[key % 128]? with
      | some (.inl a) => some ((key, .inr (s.2.2, 0)) :: s.1, ((s.2.2, a) :: s.2.1.1, s.2.1.2), s.2.2 + 1)
      | _ => none
    | _ => none
def z_nms (D : Nat → Option zC) : List (Nat × Nat) → zV × zF × Nat → Option (zV × zF × Nat)
  | [], s => some s
  | (k, key) :: r, s => if k = 1 then (match z_nm1 D key s with
    | some s' => z_nms D r s'
    | none => none) else z_nms D r s
section ZNM
variable {J : aH → Prop} {D : Nat → Option zC} {ρ : zR} {f : zF} {ov : zV} {H : aH}
theorem z_nm1_ok (hlen : z_len0 J D) (hs : z_sat ρ f) (hv : z_ovk ρ ov) (hr : z_hr J D ρ ov H) {key : Nat} {s : zV × zF × Nat} (h : z_nm1 D key (ov, f, ρ.length) = some s) : ∃ l, (ρ ++ l).length = s.2.2 ∧ z_sat (ρ ++ l) s.2.1 ∧ z_ovk (ρ ++ l) s.1 ∧ z_hr J D (ρ ++ l) s.1 H := by
  unfold z_nm1 at h
  split at h
  · cases h
    exact ⟨[], by simp, by rw [List.append_nil]; exact hs, by rw [List.append_nil]; exact hv, by rw [List.append_nil]; exact hr⟩
  · rename_i hno
    split at h
    · rename_i ci ks hD
      split at h
      · rename_i a ha
        cases h
        obtain ⟨vs, w, e1, e2, -, e4⟩ := z_get_known hr hD ha
        have hk : key / 128 * 128 + key % 128 = key := by omega
        rw [hk] at e4
        have hw : z_in a w := e4 hno
        have e5 := z_vn (ρ := ρ) hw
        have hr2 := z_hr_name (z_hr_app (l := [w]) hv hr) hD hlen ha e1 e2 e5
        rw [hk] at hr2
        refine ⟨[w], by simp, z_new_ok hs hw, fun y hy => ?_, hr2⟩
        rcases List.mem_cons.mp hy with rfl | hy
        · rw [e5]; exact z_in_nn hw
        · exact z_ovk_app hv y hy
      · cases h
    · cases h
theorem z_nms_ok (hlen : z_len0 J D) {src : List (Nat × Nat)} : ∀ {ρ : zR} {f : zF} {ov : zV}, z_sat ρ f → z_ovk ρ ov → z_hr J D ρ ov H → ∀ {s : zV × zF × Nat}, z_nms D src (ov, f, ρ.length) = some s → ∃ l, (ρ ++ l).length = s.2.2 ∧ z_sat (ρ ++ l) s.2.1 ∧ z_ovk (ρ ++ l) s.1 ∧ z_hr J D (ρ ++ l) s.1 H := by
  induction src with
  | nil =>
    intro ρ f ov hs hv hr s h
    cases h
    exact ⟨[], by simp, by rw [List.append_nil]; exact hs, by rw [List.append_nil]; exact hv, by rw [List.append_nil]; exact hr⟩
  | cons q r ih =>
    intro ρ f ov hs hv hr s h
    obtain ⟨k, key⟩ := q
    unfold z_nms at h
    split at h
    · split at h
      · rename_i s' hs'
        obtain ⟨l, e1, e2, e3, e4⟩ := z_nm1_ok hlen hs hv hr hs'
        obtain ⟨ov', f', n'⟩ := s'
        dsimp only at e1 e2 e3 e4
        subst e1
        obtain ⟨l2, g1, g2, g3, g4⟩ := ih e2 e3 e4 h
        refine ⟨l ++ l2, ?_, ?_, ?_, ?_⟩ <;> rw [← List.append_assoc]
        · exact g1
        · exact g2
        · exact g3
        · exact g4
      · cases h
    · exact ih hs hv hr h
end ZNM
