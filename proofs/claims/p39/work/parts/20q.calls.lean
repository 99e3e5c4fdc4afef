/-! ===== v2: calls, by what contexts promise ===== -/
def z_shD (n : Nat) (l : List (Nat × Nat × Int)) : List (Nat × Nat × Int) := l.map (fun q => (n + q.1, n + q.2.1, q.2.2))
/-- names that are the caller's operands -/
def z_geq (mp : List zO) (n : Nat) : Nat → List (Nat × Nat) → zF → zF
  | _, [], f => f
  | t, (k, g) :: r, f => z_geq mp n (t + 1) r (if k = 2 then (match mp[g]? with
    | some o => (match z_ib f o with
      | some _ => z_ad (z_ad f (.inr (n + t, 0)) o 0) o (.inr (n + t, 0)) 0
      | none => f)
    | none => f) else f)
/-- an exit's name, or the caller's operand that it is -/
def z_lab (f : zF) (mp : List zO) (n : Nat) (src : List (Nat × Nat)) (i : Nat) : zO := match src[i]? with
  | some (k, g) => if k = 2 then (match mp[g]? with
    | some o => (match z_ib f o with
      | some _ => o
      | none => .inr (n + i, 0))
    | none => .inr (n + i, 0)) else .inr (n + i, 0)
  | none => .inr (n + i, 0)
def z_subd (f0 : zF) (mp : List zO) (n : Nat) (src : List (Nat × Nat)) : List (Nat × Nat × Int) → zF → zF
  | [], f => f
  | (i, j, w) :: r, f => z_subd f0 mp n src r (z_ad f (z_lab f0 mp n src i) (z_lab f0 mp n src j) w)
def z_fX (mp : List zO) (f : zF) (n : Nat) (T : zT) : zF := z_subd f mp n T.1 T.2.2.1 (z_geq mp n 0 T.1 (z_tG n T.2.1 ++ f.1, f.2.1, f.2.2))
section ZCALL
variable {J : aH → Prop} {D : Nat → Option zC} {ρ : zR} {f : zF} {ov : zV} {H : aH}
theorem z_at_r {ρ l : zR} (t : Nat) : (ρ ++ l)[ρ.length + t]? = l[t]? := by
  rw [List.getElem?_append_right (Nat.le_add_right _ _)]
  congr 1
  omega
/-- facts of an exit, beside the caller's -/
theorem z_fX0_ok (hs : z_sat ρ f) {ρX : zR} {T : zT} (hX : z_sat ρX (z_tf T)) : z_sat (ρ ++ ρX) (z_tG ρ.length T.2.1 ++ f.1, z_shD ρ.length T.2.2.1 ++ f.2.1, f.2.2) := by
  have h := z_sat_app (l := ρX) hs
  refine ⟨fun q hq => ?_, fun q hq => ?_, h.2.2⟩
  · rcases List.mem_append.mp hq with hq | hq
    · obtain ⟨k, e1, e2⟩ := z_tG_in hq
      have hm : (k, q.2) ∈ z_tG 0 T.2.1 := by
        have gen : ∀ (bs : List zI) (n k : Nat) (a : zI), bs[k]? = some a → (n + k, a) ∈ z_tG n bs := by
          intro bs
          induction bs with
          | nil => intro n k a h; cases h
          | cons b r ih =>
            intro n k a h
            unfold z_tG
            cases k with
            | zero => cases h; exact List.mem_cons_self
            | succ k => exact List.mem_cons_of_mem _ (by rw [show n + (k + 1) = n + 1 + k by omega]; exact ih (n + 1) k a h)
        have := gen T.2.1 0 k q.2 e2
        rw [Nat.zero_add] at this
        exact this
      obtain ⟨w, g1, g2⟩ := hX.1 _ hm
      exact ⟨w, by rw [e1, z_at_r]; exact g1, g2⟩
    · exact h.1 q hq
  · rcases List.mem_append.mp hq with hq | hq
    · obtain ⟨q0, hq0, rfl⟩ := List.mem_map.mp hq
      obtain ⟨x, y, g1, g2, g3⟩ := hX.2.1 q0 hq0
      exact ⟨x, y, by dsimp only; rw [z_at_r]; exact g1, by dsimp only; rw [z_at_r]; exact g2, g3⟩
    · exact h.2.1 q hq
theorem z_geq_ok {ρ : zR} {mp : List zO} {n : Nat} : ∀ {src : List (Nat × Nat)} {t : Nat} {f : zF}, z_sat ρ f → (∀ i g o, src[i]? = some (2, g) → mp[g]? = some o → ρ[n + (t + i)]? = some (z_v ρ o)) → z_sat ρ (z_geq mp n t src f) := by
  intro src
  induction src with
  | nil => intro t f hs _; exact hs
  | cons q r ih =>
    intro t f hs hg
    obtain ⟨k, g⟩ := q
    unfold z_geq
    refine ih ?_ (fun i g' o hi ho => ?_)
    · split
      · rename_i hk
        subst hk
        split
        · rename_i o ho
          split
          · rename_i x hx
            obtain ⟨y, vy, ey, -⟩ := z_ib_ex hs hx
            have h1 := hg 0 g o rfl ho
            rw [vy, Nat.add_zero] at h1
            have e1 : z_ex ρ (.inr (n + t, 0)) y := ⟨y, h1, by omega⟩
            exact z_ad_ok (z_ad_ok hs e1 ey (by omega)) ey e1 (by omega)
          · exact hs
        · exact hs
      · exact hs
    · have := hg (i + 1) g' o hi ho
      rw [show t + 1 + i = t + (i + 1) by omega]
      exact this
theorem z_lab_ok {ρ : zR} {f : zF} (hs : z_sat ρ f) {mp : List zO} {n : Nat} {src : List (Nat × Nat)} (hg : ∀ i g o, src[i]? = some (2, g) → mp[g]? = some o → ρ[n + i]? = some (z_v ρ o)) {i : Nat} {x : Int32} (hx : ρ[n + i]? = some (.int x)) : z_ex ρ (z_lab f mp n src i) x := by
  have e0 : z_ex ρ (.inr (n + i, 0)) x := ⟨x, hx, by omega⟩
  unfold z_lab
  split
  · rename_i k g hk
    split
    · rename_i h2
      subst h2
      split
      · rename_i o ho
        split
        · rename_i b hb
          obtain ⟨y, vy, ey, -⟩ := z_ib_ex hs hb
          have h1 := hg i g o hk ho
          rw [hx, vy] at h1
          cases h1
          exact ey
        · exact e0
      · exact e0
    · exact e0
  · exact e0
theorem z_subd_ok {ρ : zR} {f0 : zF} (hs0 : z_sat ρ f0) {mp : List zO} {n : Nat} {src : List (Nat × Nat)} (hg : ∀ i g o, src[i]? = some (2, g) → mp[g]? = some o → ρ[n + i]? = some (z_v ρ o)) : ∀ {l : List (Nat × Nat × Int)} {f : zF}, z_sat ρ f → (∀ q ∈ l, ∃ x y : Int32, ρ[n + q.1]? = some (.int x) ∧ ρ[n + q.2.1]? = some (.int y) ∧ x.toInt - y.toInt ≤ q.2.2) → z_sat ρ (z_subd f0 mp n src l f) := by
  intro l
  induction l with
  | nil => intro f hs _; exact hs
  | cons q r ih =>
    intro f hs hl
    obtain ⟨i, j, w⟩ := q
    unfold z_subd
    obtain ⟨x, y, g1, g2, g3⟩ := hl _ List.mem_cons_self
    exact ih (z_ad_ok hs (z_lab_ok hs0 hg g1) (z_lab_ok hs0 hg g2) g3) (fun q hq => hl q (List.mem_cons_of_mem _ hq))
theorem z_fX_ok {ρX : zR} {T : zT} {mp : List zO} (hs : z_sat ρ f) (hX : z_sat ρX (z_tf T)) (hg : ∀ i g o, T.1[i]? = some (2, g) → mp[g]? = some o → (ρ ++ ρX)[ρ.length + i]? = some (z_v (ρ ++ ρX) o)) : z_sat (ρ ++ ρX) (z_fX mp f ρ.length T) := by
  have h0 := z_sat_app (l := ρX) hs
  have h1 : z_sat (ρ ++ ρX) (z_tG ρ.length T.2.1 ++ f.1, f.2.1, f.2.2) := ⟨(z_fX0_ok hs hX).1, h0.2.1, h0.2.2⟩
  refine z_subd_ok h0 hg (z_geq_ok h1 (fun i g o hi ho => by rw [Nat.zero_add]; exact hg i g o hi ho)) (fun q hq => ?_)
  obtain ⟨x, y, g1, g2, g3⟩ := hX.2.1 q hq
  exact ⟨x, y, by rw [z_at_r]; exact g1, by rw [z_at_r]; exact g2, g3⟩
end ZCALL
