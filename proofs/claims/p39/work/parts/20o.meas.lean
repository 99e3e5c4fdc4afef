/-! ===== v2: depth, measures at cuts, names of the entry ===== -/
section ADP
variable {P : List aM} {X : aX}
theorem aexec_deep : ∀ (n : Nat) {d : Nat} {M : aM} {pc : Nat} {ls : aL} {st : List Value} {h : aH} {r : aQ}, aexec P X n d M pc ls st h = some r → aexec P X n (d + 1) M pc ls st h = some r
  | 0, _, _, _, _, _, _, _, e => by rw [aexec] at e; cases e
  | n + 1, d, M, pc, ls, st, h, r, e => by
    rw [aexec_S] at e ⊢
    unfold a_body at e ⊢
    cases hlk : M.2.2.2.2.2.lookup pc with
    | none => rw [hlk] at e; cases e
    | some q =>
      obtain ⟨i, len, k⟩ := q
      rw [hlk] at e
      dsimp only at e ⊢
      cases ho : a_op X i len k pc ls st h with
      | some q =>
        obtain ⟨pc', l1, st', h', c, s⟩ := q
        rw [ho] at e
        dsimp only at e ⊢
        exact a_more_mono (fun q hq => aexec_deep n hq) e
      | none =>
        rw [ho] at e
        dsimp only at e ⊢
        cases hr : a_ret i k M.2.2.2.1 st with
        | some v => rw [hr] at e; exact e
        | none =>
          rw [hr] at e
          dsimp only at e ⊢
          cases hi : a_inv P i k st h with
          | none => rw [hi] at e; cases e
          | some q =>
            obtain ⟨M', as, rest⟩ := q
            rw [hi] at e
            dsimp only at e ⊢
            cases d with
            | zero => cases e
            | succ d' =>
              dsimp only at e ⊢
              cases hc : aexec P X n d' M' 0 (a_ent as M'.2.2.1) [] h with
              | none => rw [hc] at e; cases e
              | some q =>
                rw [aexec_deep n hc]
                rw [hc] at e
                obtain ⟨v, h1, c, s⟩ := q
                dsimp only at e ⊢
                split at e
                · exact e
                · exact a_more_mono (fun q hq => aexec_deep n hq) e
theorem aOK_deep {d d' pc C S : Nat} {M : aM} {ls : aL} {st : List Value} {h : aH} {K : Option Value → aH → Nat → Nat → Prop} (hd : d ≤ d') (q : aOK P X d M pc ls st h C S K) : aOK P X d' M pc ls st h C S K := by
  obtain ⟨n, v, h2, c2, s2, e, q⟩ := q
  refine ⟨n, v, h2, c2, s2, ?_, q⟩
  induction hd with
  | refl => exact e
  | step _ ih => exact aexec_deep n ih
end ADP
/-- a measure: numbers (0), a bound less a name (1), a name less a bound (2) -/
abbrev zMs : Type := List (Nat × Nat × Int)
def z_mv (ρ : zR) (q : Nat × Nat × Int) : Nat := if q.1 = 0 then q.2.2.toNat else match ρ[q.2.1]? with
  | some (.int x) => if q.1 = 1 then (q.2.2 - x.toInt).toNat else (x.toInt - q.2.2).toNat
  | _ => 0
def z_mvs (ρ : zR) (m : zMs) : List Nat := m.map (z_mv ρ)
def z_mok (n : Nat) (m : zMs) : Bool := m.all (fun q => decide (q.1 = 0) || decide (q.2.1 < n))
def z_mlt (f : zF) (mp : List zO) : zMs → zMs → Bool
  | (k, t, u) :: ra, (k', t', u') :: rb => if k = 0 ∧ k' = 0 then (decide (u'.toNat < u.toNat) || (decide (u'.toNat = u.toNat) && z_mlt f mp ra rb)) else
      if k = 1 ∧ k' = 1 ∧ u = u' then (match mp[t']? with
        | some o => (z_le f (.inr (t, 0)) o (-1) && z_bt f (.inr (t, 0)) (-2147483648) (u - 1)) || (decide (o = .inr (t, 0)) && z_mlt f mp ra rb)
        | none => false) else
      if k = 2 ∧ k' = 2 ∧ u = u' then (match mp[t']? with
        | some o => (z_le f o (.inr (t, 0)) (-1) && z_bt f (.inr (t, 0)) (u + 1) 2147483647) || (decide (o = .inr (t, 0)) && z_mlt f mp ra rb)
        | none => false) else false
  | _, _ => false
section ZMS
variable {ρ l : zR} {f : zF}
theorem z_mv_app {n : Nat} {m : zMs} (hn : ρ.length = n) (h : z_mok n m = true) : z_mvs (ρ ++ l) m = z_mvs ρ m := by
  unfold z_mvs
  refine List.map_congr_left (fun q hq => ?_)
  have h1 := List.all_eq_true.mp h q hq
  simp only [Bool.or_eq_true, decide_eq_true_eq] at h1
  unfold z_mv
  split
  · rfl
  · rename_i h0
    have h2 : q.2.1 < ρ.length := by omega
    rw [List.getElem?_append_left h2]
theorem z_vint {k : Nat} {x : Int32} (h : z_v ρ (.inr (k, 0)) = .int x) : ρ[k]? = some (.int x) := by
  unfold z_v at h
  dsimp only at h
  split at h
  · rename_i y hy
    rw [Int.add_zero, Int32.ofInt_toInt] at h
    rw [hy, h]
  · rename_i w _ hw
    rw [hw, h]
  · cases h
theorem z_mlt_ok (hs : z_sat ρ f) {mp : List zO} : ∀ {ma mb : zMs}, z_mlt f mp ma mb = true → z_lexlt (z_mvs (mp.map (z_v ρ)) mb) (z_mvs ρ ma)
  | (k, t, u) :: ra, (k', t', u') :: rb, h => by
    unfold z_mlt at h
    show z_mv (mp.map (z_v ρ)) (k', t', u') < z_mv ρ (k, t, u) ∨ (z_mv (mp.map (z_v ρ)) (k', t', u') = z_mv ρ (k, t, u) ∧ z_lexlt (z_mvs (mp.map (z_v ρ)) rb) (z_mvs ρ ra))
    split at h
    · rename_i hk
      obtain ⟨rfl, rfl⟩ := hk
      simp only [Bool.or_eq_true, Bool.and_eq_true, decide_eq_true_eq] at h
      rcases h with h | h
      · exact Or.inl h
      · exact Or.inr ⟨h.1, z_mlt_ok hs h.2⟩
    · split at h
      · rename_i hk
        obtain ⟨rfl, rfl, rfl⟩ := hk
        split at h
        · rename_i o ho
          have em : (mp.map (z_v ρ))[t']? = some (z_v ρ o) := by rw [List.getElem?_map, ho]; rfl
          simp only [Bool.or_eq_true, Bool.and_eq_true, decide_eq_true_eq] at h
          rcases h with h | h
          · obtain ⟨x, y, vx, vy, e⟩ := z_le_int hs h.1
            obtain ⟨x', vx', b1, b2⟩ := z_bt_ok hs h.2
            rw [vx] at vx'
            cases vx'
            left
            unfold z_mv
            rw [if_neg (show ¬ (1 : Nat) = 0 by decide), if_neg (show ¬ (1 : Nat) = 0 by decide)]
            dsimp only
            rw [em, vy, z_vint vx]
            dsimp only
            rw [if_pos rfl, if_pos rfl]
            omega
          · obtain ⟨rfl, h2⟩ := h
            right
            refine ⟨?_, z_mlt_ok hs h2⟩
            unfold z_mv
            rw [if_neg (show ¬ (1 : Nat) = 0 by decide), if_neg (show ¬ (1 : Nat) = 0 by decide)]
            dsimp only
            rw [em]
            cases hq : ρ[t]? with
            | none =>
              have : z_v ρ (.inr (t, 0)) = .null := by unfold z_v; dsimp only; rw [hq]
              rw [this]
            | some w => rw [z_v0 hq]
        · cases h
      · split at h
        · rename_i hk
          obtain ⟨rfl, rfl, rfl⟩ := hk
          split at h
          · rename_i o ho
            have em : (mp.map (z_v ρ))[t']? = some (z_v ρ o) := by rw [List.getElem?_map, ho]; rfl
            simp only [Bool.or_eq_true, Bool.and_eq_true, decide_eq_true_eq] at h
            rcases h with h | h
            · obtain ⟨y, x, vy, vx, e⟩ := z_le_int hs h.1
              obtain ⟨x', vx', b1, b2⟩ := z_bt_ok hs h.2
              rw [vx] at vx'
              cases vx'
              left
              unfold z_mv
              rw [if_neg (show ¬ (2 : Nat) = 0 by decide), if_neg (show ¬ (2 : Nat) = 0 by decide)]
              dsimp only
              rw [em, vy, z_vint vx]
              dsimp only
              rw [if_neg (show ¬ (2 : Nat) = 1 by decide), if_neg (show ¬ (2 : Nat) = 1 by decide)]
              omega
            · obtain ⟨rfl, h2⟩ := h
              right
              refine ⟨?_, z_mlt_ok hs h2⟩
              unfold z_mv
              rw [if_neg (show ¬ (2 : Nat) = 0 by decide), if_neg (show ¬ (2 : Nat) = 0 by decide)]
              dsimp only
              rw [em]
              cases hq : ρ[t]? with
              | none =>
                have : z_v ρ (.inr (t, 0)) = .null := by unfold z_v; dsimp only; rw [hq]
                rw [this]
              | some w => rw [z_v0 hq]
          · cases h
        · cases h
  | [], _, h => by cases h
  | (_, _, _) :: _, [], h => by cases h
end ZMS
