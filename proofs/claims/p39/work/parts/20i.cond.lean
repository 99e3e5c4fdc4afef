/-! ===== v2: jumps on tests ===== -/
def z_nrm (c : ClassFile.Cond) (a b : zO) : Bool × zO × zO × Bool := match c with
  | .eq => (false, a, b, false)
  | .ne => (false, a, b, true)
  | .lt => (true, a, b, false)
  | .ge => (true, a, b, true)
  | .gt => (true, b, a, false)
  | .le => (true, b, a, true)
/-- a long that is an int -/
def z_toI (f : zF) (o : zO) : Option zO := match o with
  | .inl (.long n) => if n.toInt32.toInt64 = n then some (.inl (.int n.toInt32)) else none
  | .inl _ => none
  | .inr (k, n) => if n = 0 then f.2.2.2.lookup k else none
def z_it (f : zF) (c : ClassFile.Cond) (a b : zO) : Option (List (Bool × zF)) := match z_nrm c a b with
  | (lt, a', b', neg) => match z_ways f lt a' b' with
    | some l => some (l.map (fun q => (q.1 != neg, q.2)))
    | none => none
def z_lt (f : zF) (c : ClassFile.Cond) (a b : zO) : Option (List (Bool × zF)) := match z_nrm c a b with
  | (lt, a', b', neg) => match z_lways f lt a' b' with
    | some l => some (l.map (fun q => (q.1 != neg, q.2)))
    | none => none
def z_t0 (f : zF) (c : ClassFile.Cond) (a : zO) : Option (List (Bool × zF)) := match a with
  | .inr (k, n) => if n = 0 then (match f.2.2.1.lookup k with
    | some (p, q) => match z_toI f p, z_toI f q with
      | some p', some q' => z_it f c p' q'
      | _, _ => z_lt f c p q
    | none => z_it f c a (.inl (.int 0))) else z_it f c a (.inl (.int 0))
  | .inl _ => z_it f c a (.inl (.int 0))
def z_tst (f : zF) (i : Instr) (st : List zO) : Option (List (Bool × zF) × List zO) := match i with
  | .ifCond c _ => match st with
    | a :: r => (z_t0 f c a).map (fun l => (l, r))
    | _ => none
  | .if_icmp c _ => match st with
    | b :: a :: r => (z_it f c a b).map (fun l => (l, r))
    | _ => none
  | _ => none
section ZJ
variable {ρ : zR} {f : zF}
theorem z_toI_ok (hs : z_sat ρ f) {o a : zO} (h : z_toI f o = some a) : ∃ x : Int32, z_v ρ a = .int x ∧ z_v ρ o = .long x.toInt64 := by
  unfold z_toI at h
  split at h
  · rename_i n
    split at h
    · rename_i hn
      cases h
      exact ⟨n.toInt32, rfl, by rw [hn]; rfl⟩
    · cases h
  · cases h
  · rename_i k n
    split at h
    · obtain ⟨x, e1, e2⟩ := hs.2.2.2 _ (z_lk_in h)
      refine ⟨x, e1, ?_⟩
      unfold z_v
      dsimp only at e2 ⊢
      rw [e2]
    · cases h
theorem z_it_ok (hs : z_sat ρ f) {c : ClassFile.Cond} {a b : zO} {l : List (Bool × zF)} (h : z_it f c a b = some l) : ∃ x y : Int32, z_v ρ a = .int x ∧ z_v ρ b = .int y ∧ ∃ q ∈ l, q.1 = a_cnd c x y ∧ z_sat ρ q.2 := by
  unfold z_it at h
  have fin : ∀ {lt neg : Bool} {a' b' : zO}, z_nrm c a b = (lt, a', b', neg) → (∀ x' y' : Int32, z_v ρ a' = .int x' → z_v ρ b' = .int y' → ∃ x y : Int32, z_v ρ a = .int x ∧ z_v ρ b = .int y ∧ a_cnd c x y = (s_cmp lt x' y' != neg)) → ∃ x y : Int32, z_v ρ a = .int x ∧ z_v ρ b = .int y ∧ ∃ q ∈ l, q.1 = a_cnd c x y ∧ z_sat ρ q.2 := by
    intro lt neg a' b' hn key
    rw [hn] at h
    dsimp only at h
    split at h
    · rename_i l0 hw
      cases h
      obtain ⟨x', y', vx, vy, q, hq, e1, e2⟩ := z_ways_ok hs hw
      obtain ⟨x, y, wx, wy, e⟩ := key x' y' vx vy
      exact ⟨x, y, wx, wy, _, List.mem_map.mpr ⟨q, hq, rfl⟩, by rw [e, ← e1], e2⟩
    · cases h
  cases c
  · exact fin rfl (fun x' y' vx vy => ⟨x', y', vx, vy, by simp [a_cnd, s_cmp]⟩)
  · exact fin rfl (fun x' y' vx vy => ⟨x', y', vx, vy, by simp [a_cnd, s_cmp]⟩)
  · exact fin rfl (fun x' y' vx vy => ⟨x', y', vx, vy, by simp [a_cnd, s_cmp]⟩)
  · exact fin rfl (fun x' y' vx vy => ⟨x', y', vx, vy, by simp only [a_cnd, s_cmp, if_true, Bool.bne_true]; rw [← decide_not]; exact decide_eq_decide.mpr (Int32.not_lt).symm⟩)
  · exact fin rfl (fun x' y' vx vy => ⟨y', x', vy, vx, by simp [a_cnd, s_cmp]⟩)
  · exact fin rfl (fun x' y' vx vy => ⟨y', x', vy, vx, by simp only [a_cnd, s_cmp, if_true, Bool.bne_true]; rw [← decide_not]; exact decide_eq_decide.mpr (Int32.not_lt).symm⟩)
theorem z_lt_ok (hs : z_sat ρ f) {c : ClassFile.Cond} {a b : zO} {l : List (Bool × zF)} (h : z_lt f c a b = some l) : ∃ x y : Int64, z_v ρ a = .long x ∧ z_v ρ b = .long y ∧ ∃ q ∈ l, q.1 = a_cnd c (lg_cmp x y) 0 ∧ z_sat ρ q.2 := by
  unfold z_lt at h
  have fin : ∀ {lt neg : Bool} {a' b' : zO}, z_nrm c a b = (lt, a', b', neg) → (∀ x' y' : Int64, z_v ρ a' = .long x' → z_v ρ b' = .long y' → ∃ x y : Int64, z_v ρ a = .long x ∧ z_v ρ b = .long y ∧ a_cnd c (lg_cmp x y) 0 = (z_lcm lt x' y' != neg)) → ∃ x y : Int64, z_v ρ a = .long x ∧ z_v ρ b = .long y ∧ ∃ q ∈ l, q.1 = a_cnd c (lg_cmp x y) 0 ∧ z_sat ρ q.2 := by
    intro lt neg a' b' hn key
    rw [hn] at h
    dsimp only at h
    split at h
    · rename_i l0 hw
      cases h
      obtain ⟨x', y', vx, vy, q, hq, e1, e2⟩ := z_lways_ok hs hw
      obtain ⟨x, y, wx, wy, e⟩ := key x' y' vx vy
      exact ⟨x, y, wx, wy, _, List.mem_map.mpr ⟨q, hq, rfl⟩, by rw [e, ← e1], e2⟩
    · cases h
  cases c
  · exact fin rfl (fun x' y' vx vy => ⟨x', y', vx, vy, by simp [a_cnd, z_lcm, lg_cmp_eq]⟩)
  · exact fin rfl (fun x' y' vx vy => ⟨x', y', vx, vy, by simp [a_cnd, z_lcm, lg_cmp_eq]⟩)
  · exact fin rfl (fun x' y' vx vy => ⟨x', y', vx, vy, by simp [a_cnd, z_lcm, lg_cmp_lt]⟩)
  · exact fin rfl (fun x' y' vx vy => ⟨x', y', vx, vy, by simp only [a_cnd, z_lcm, if_true, Bool.bne_true, lg_cmp_ge]; rw [← decide_not]; exact decide_eq_decide.mpr (Int64.not_lt).symm⟩)
  · exact fin rfl (fun x' y' vx vy => ⟨y', x', vy, vx, by simp [a_cnd, z_lcm, lg_cmp_gt]⟩)
  · exact fin rfl (fun x' y' vx vy => ⟨y', x', vy, vx, by simp only [a_cnd, z_lcm, if_true, Bool.bne_true, lg_cmp_le]; rw [← decide_not]; exact decide_eq_decide.mpr (Int64.not_lt).symm⟩)
theorem z_t0_ok (hs : z_sat ρ f) {c : ClassFile.Cond} {a : zO} {l : List (Bool × zF)} (h : z_t0 f c a = some l) : ∃ x : Int32, z_v ρ a = .int x ∧ ∃ q ∈ l, q.1 = a_cnd c x 0 ∧ z_sat ρ q.2 := by
  have plain : z_it f c a (.inl (.int 0)) = some l → ∃ x : Int32, z_v ρ a = .int x ∧ ∃ q ∈ l, q.1 = a_cnd c x 0 ∧ z_sat ρ q.2 := by
    intro h
    obtain ⟨x, y, vx, vy, q⟩ := z_it_ok hs h
    cases vy
    exact ⟨x, vx, q⟩
  unfold z_t0 at h
  split at h
  · rename_i k n
    split at h
    · rename_i hn
      split at h
      · rename_i p q hl
        obtain ⟨u, v, e1, e2, e3⟩ := hs.2.2.1 _ (z_lk_in hl)
        dsimp only at e1 e2 e3
        have va : z_v ρ (.inr (k, n)) = .int (lg_cmp u v) := by
          unfold z_v
          dsimp only
          rw [e3]
          dsimp only
          rw [hn, Int.add_zero, Int32.ofInt_toInt]
        split at h
        · rename_i p' q' hp hq
          obtain ⟨x, y, vx, vy, z, hz, g1, g2⟩ := z_it_ok hs h
          obtain ⟨x', vx', ux⟩ := z_toI_ok hs hp
          obtain ⟨y', vy', uy⟩ := z_toI_ok hs hq
          rw [vx] at vx'
          rw [vy] at vy'
          cases vx'
          cases vy'
          rw [e1] at ux
          rw [e2] at uy
          cases ux
          cases uy
          exact ⟨_, va, z, hz, by rw [g1, s_lgc], g2⟩
        · obtain ⟨x, y, vx, vy, z, hz, g1, g2⟩ := z_lt_ok hs h
          rw [e1] at vx
          rw [e2] at vy
          cases vx
          cases vy
          exact ⟨_, va, z, hz, g1, g2⟩
      · exact plain h
    · exact plain h
  · exact plain h
theorem z_tst_ok (hs : z_sat ρ f) {X : aX} {i : Instr} {len : Nat} {k : aK} {pc : Nat} {ls : aL} {st r : List zO} {h : aH} {l : List (Bool × zF)} (q : z_tst f i st = some (l, r)) : (∃ w ∈ l, z_sat ρ w.2 ∧ a_op X i len k pc ls (z_st ρ st) h = some (if w.1 then k.2.1 else pc + 3, ls, z_st ρ r, h, 0, 0)) ∧ ∀ o ∈ r, o ∈ st := by
  unfold z_tst at q
  split at q
  · split at q
    · rename_i a r'
      cases hz : z_t0 f _ a with
      | none => rw [hz] at q; cases q
      | some l' =>
        rw [hz] at q
        cases q
        obtain ⟨x, vx, w, hw, e1, e2⟩ := z_t0_ok hs hz
        refine ⟨⟨w, hw, e2, ?_⟩, fun o ho => List.mem_cons_of_mem _ ho⟩
        rw [e1]
        simp only [z_st, List.map_cons, vx]
        rfl
    · cases q
  · split at q
    · rename_i b a r'
      cases hz : z_it f _ a b with
      | none => rw [hz] at q; cases q
      | some l' =>
        rw [hz] at q
        cases q
        obtain ⟨x, y, vx, vy, w, hw, e1, e2⟩ := z_it_ok hs hz
        refine ⟨⟨w, hw, e2, ?_⟩, fun o ho => List.mem_cons_of_mem _ (List.mem_cons_of_mem _ ho)⟩
        rw [e1]
        simp only [z_st, List.map_cons, vx, vy]
        rfl
    · cases q
  · cases q
end ZJ
