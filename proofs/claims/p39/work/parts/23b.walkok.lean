/-! ===== v3: walks are sound ===== -/
section WOK
variable {D : Nat → Option zC} {P : List aM} {X : aX} {h H : aH} {C S : Nat} {K0 : Option Value → aH → Nat → Nat → Prop} {hf : wF} {ha : wA}
theorem w_key {o k : Nat} (hk : k < 128) : (o * 128 + k) / 128 = o ∧ (o * 128 + k) % 128 = k := by omega
theorem w_get1 (hr : w_hr D H) {o ci : Nat} {ks : List zK} (hD : D o = some (.inr (.inl (ci, ks)))) {k : Nat} {d : zK} (hd : ks[k]? = some d) : ∃ vs w, H[o]? = some (.inr (ci, vs)) ∧ vs.length = ks.length ∧ vs[k]? = some w ∧ z_dk d w := by
  obtain ⟨e, h1, h2⟩ := hr.1 o _ hD
  obtain ⟨vs, e1, e2, e3⟩ := h2
  obtain ⟨w, w1, w2, w3⟩ := e3 k d hd
  subst e1
  exact ⟨vs, w, h1, e2, w1, w3 rfl⟩
theorem w_f_at {o ci k : Nat} {vs : List Value} (hH : H[o]? = some (.inr (ci, vs))) (hk : k < 128) : w_f H (o * 128 + k) = vs[k]? := by
  unfold w_f
  rw [(w_key hk).1, (w_key hk).2, hH]
theorem w_f_put {o ci k key : Nat} {vs : List Value} {v : Value} (hH : H[o]? = some (.inr (ci, vs))) (hk : k < 128) (hne : key ≠ o * 128 + k) : w_f (H.set o (.inr (ci, vs.set k v))) key = w_f H key := by
  unfold w_f
  by_cases ho : o = key / 128
  · subst ho
    rw [hH, List.getElem?_set_self (List.getElem?_eq_some_iff.mp hH).1]
    dsimp only
    rw [List.getElem?_set_ne (by omega)]
  · rw [List.getElem?_set_ne ho]
theorem w_a_put {o ci : Nat} {vs : List Value} {o' : Nat} {vs' : List Value} (hH : H[o]? = some (.inr (ci, vs))) : w_a (H.set o (.inr (ci, vs'))) o' = w_a H o' := by
  unfold w_a
  by_cases ho : o = o'
  · subst ho
    rw [hH, List.getElem?_set_self (List.getElem?_eq_some_iff.mp hH).1]
  · rw [List.getElem?_set_ne ho]
theorem w_hr_put (hr : w_hr D H) {o ci k : Nat} {ks : List zK} (hD : D o = some (.inr (.inl (ci, ks)))) {a : zI} (ha' : ks[k]? = some (.inl a)) {vs : List Value} (hH : H[o]? = some (.inr (ci, vs))) {v : Value} (hv : z_in a v) : w_hr D (H.set o (.inr (ci, vs.set k v))) := by
  refine ⟨?_, trivial⟩
  intro o' c' hc'
  obtain ⟨e, h1, h2⟩ := hr.1 o' c' hc'
  by_cases ho : o = o'
  · subst ho
    rw [hD] at hc'
    cases hc'
    rw [hH] at h1
    cases h1
    obtain ⟨vs', e1, e2, e3⟩ := h2
    cases e1
    refine ⟨_, by rw [List.getElem?_set_self (List.getElem?_eq_some_iff.mp hH).1], vs.set k v, rfl, by rw [List.length_set]; exact e2, fun k' d' hd' => ?_⟩
    obtain ⟨w', w1, w2, w3⟩ := e3 k' d' hd'
    by_cases hkk : k = k'
    · subst hkk
      rw [ha'] at hd'
      cases hd'
      exact ⟨v, by rw [List.getElem?_set_self (by rw [e2]; exact (List.getElem?_eq_some_iff.mp ha').1)], fun x hx => (by cases hx), fun _ => hv⟩
    · exact ⟨w', by rw [List.getElem?_set_ne hkk]; exact w1, w2, w3⟩
  · exact ⟨e, by rw [List.getElem?_set_ne ho]; exact h1, h2⟩
theorem w_rel_put (hlen : ∀ o ci ks, D o = some (.inr (.inl (ci, ks))) → ks.length ≤ 128) (hrel : w_rel D h hf ha H) {o ci k : Nat} {ks : List zK} (hD : D o = some (.inr (.inl (ci, ks)))) {a : zI} (ha' : ks[k]? = some (.inl a)) {vs : List Value} (hH : H[o]? = some (.inr (ci, vs))) {v : Value} (hv : z_in a v) : w_rel D h ((o * 128 + k, v) :: hf) ha (H.set o (.inr (ci, vs.set k v))) := by
  obtain ⟨r1, r2, r3, r4, r5⟩ := hrel
  have hkl := (List.getElem?_eq_some_iff.mp ha').1
  have hk : k < 128 := Nat.lt_of_lt_of_le hkl (hlen _ _ _ hD)
  obtain ⟨vs2, w, g1, g2, g3, -⟩ := w_get1 r1 hD ha'
  rw [hH] at g1
  cases g1
  refine ⟨w_hr_put r1 hD ha' hH hv, fun key v' hl => ?_, fun o' a' hl => ?_, fun key hl => ?_, fun o' hl => ?_⟩
  · rw [List.lookup_cons] at hl
    split at hl
    · rename_i hb
      cases hl
      rw [beq_iff_eq] at hb
      subst hb
      rw [w_f_at (vs := vs.set k v) (ci := ci) (by rw [List.getElem?_set_self (List.getElem?_eq_some_iff.mp hH).1]) hk, List.getElem?_set_self (by omega)]
    · rename_i hb
      rw [w_f_put hH hk (fun e => by rw [e, beq_self_eq_true] at hb; cases hb)]
      exact r2 key v' hl
  · rw [w_a_put hH]
    exact r3 o' a' hl
  · rw [List.lookup_cons] at hl
    split at hl
    · cases hl
    · rename_i hb
      rw [w_f_put hH hk (fun e => by rw [e, beq_self_eq_true] at hb; cases hb)]
      exact r4 key hl
  · rw [w_a_put hH]
    exact r5 o' hl
theorem w_arrI (hr : w_hr D H) {o t n : Nat} {lo hi : Int} (ht : t ≠ 1) (hD : D o = some (.inl (t, n, lo, hi))) : ∃ l : List Int32, H[o]? = some (.inl (t, .inl l)) ∧ l.length = n ∧ ∀ x ∈ l, lo ≤ x.toInt ∧ x.toInt ≤ hi := by
  obtain ⟨e, h1, h2⟩ := hr.1 o _ hD
  unfold z_cell at h2
  dsimp only at h2
  rw [if_neg ht] at h2
  obtain ⟨-, l, e1, e2, e3⟩ := h2
  exact ⟨l, by rw [h1, e1], e2, e3⟩
theorem w_arrL (hr : w_hr D H) {o n : Nat} {lo hi : Int} (hD : D o = some (.inl (1, n, lo, hi))) : ∃ l : List Int64, H[o]? = some (.inl (1, .inr (.inl l))) ∧ l.length = n ∧ ∀ x ∈ l, lo ≤ x.toInt ∧ x.toInt ≤ hi := by
  obtain ⟨e, h1, h2⟩ := hr.1 o _ hD
  unfold z_cell at h2
  dsimp only at h2
  rw [if_pos rfl] at h2
  obtain ⟨l, e1, e2, e3⟩ := h2
  exact ⟨l, by rw [h1, e1], e2, e3⟩
theorem w_a_at {o : Nat} {a : Nat × aA} (hH : H[o]? = some (.inl a)) : w_a H o = some a := by
  unfold w_a
  rw [hH]
theorem w_rel_arr (hrel : w_rel D h hf ha H) {o : Nat} {a : Nat × Nat × Int × Int} (hD : D o = some (.inl a)) {q b : Nat × aA} (hH : H[o]? = some (.inl q)) (hb : z_cell [] [] o (.inl a) (.inl b)) : w_rel D h hf ((o, b) :: ha) (H.set o (.inl b)) := by
  obtain ⟨r1, r2, r3, r4, r5⟩ := hrel
  have hlt := (List.getElem?_eq_some_iff.mp hH).1
  have hfe : ∀ key, w_f (H.set o (.inl b)) key = w_f H key := fun key => by
    unfold w_f
    by_cases ho : o = key / 128
    · subst ho
      rw [hH, List.getElem?_set_self hlt]
    · rw [List.getElem?_set_ne ho]
  have hae : ∀ o', o' ≠ o → w_a (H.set o (.inl b)) o' = w_a H o' := fun o' hne => by
    unfold w_a
    rw [List.getElem?_set_ne (fun e => hne e.symm)]
  refine ⟨⟨fun o' c' hc' => ?_, trivial⟩, fun key v hl => by rw [hfe]; exact r2 key v hl, fun o' a' hl => ?_, fun key hl => by rw [hfe]; exact r4 key hl, fun o' hl => ?_⟩
  · obtain ⟨e, h1, h2⟩ := r1.1 o' c' hc'
    by_cases ho : o = o'
    · subst ho
      rw [hD] at hc'
      cases hc'
      exact ⟨.inl b, by rw [List.getElem?_set_self hlt], hb⟩
    · exact ⟨e, by rw [List.getElem?_set_ne ho]; exact h1, h2⟩
  · rw [List.lookup_cons] at hl
    split at hl
    · rename_i hq
      cases hl
      rw [beq_iff_eq] at hq
      subst hq
      exact w_a_at (by rw [List.getElem?_set_self hlt])
    · rename_i hq
      rw [hae o' (fun e => by rw [e, beq_self_eq_true] at hq; cases hq)]
      exact r3 o' a' hl
  · rw [List.lookup_cons] at hl
    split at hl
    · cases hl
    · rename_i hq
      rw [hae o' (fun e => by rw [e, beq_self_eq_true] at hq; cases hq)]
      exact r5 o' hl
/-- a name for what is read the first time -/
theorem w_rel_f (hrel : w_rel D h hf ha H) {key : Nat} {v : Value} (hn : hf.lookup key = none) (hv : w_f H key = some v) : w_rel D h ((key, v) :: hf) ha H := by
  obtain ⟨r1, r2, r3, r4, r5⟩ := hrel
  refine ⟨r1, fun k v' hl => ?_, r3, fun k hl => ?_, r5⟩
  · rw [List.lookup_cons] at hl
    split at hl
    · rename_i hb
      cases hl
      rw [beq_iff_eq] at hb
      subst hb
      exact hv
    · exact r2 k v' hl
  · rw [List.lookup_cons] at hl
    split at hl
    · cases hl
    · exact r4 k hl
theorem w_rel_a (hrel : w_rel D h hf ha H) {o : Nat} {a : Nat × aA} (hv : w_a H o = some a) : w_rel D h hf ((o, a) :: ha) H := by
  obtain ⟨r1, r2, r3, r4, r5⟩ := hrel
  refine ⟨r1, r2, fun k v' hl => ?_, r4, fun k hl => ?_⟩
  · rw [List.lookup_cons] at hl
    split at hl
    · rename_i hb
      cases hl
      rw [beq_iff_eq] at hb
      subst hb
      exact hv
    · exact r3 k v' hl
  · rw [List.lookup_cons] at hl
    split at hl
    · cases hl
    · exact r5 k hl
theorem w_get_ok (hlen : ∀ o ci ks, D o = some (.inr (.inl (ci, ks))) → ks.length ≤ 128) (hrel : w_rel D h hf ha H) {o ci k : Nat} {ks : List zK} (hD : D o = some (.inr (.inl (ci, ks)))) {d : zK} (hd : ks[k]? = some d) {go : Value → wF → Prop} (hg : w_get h o k d hf go) : ∃ vs v hf', H[o]? = some (.inr (ci, vs)) ∧ vs[k]? = some v ∧ w_rel D h hf' ha H ∧ go v hf' := by
  obtain ⟨vs, w, g1, g2, g3, g4⟩ := w_get1 hrel.1 hD hd
  have hk : k < 128 := Nat.lt_of_lt_of_le (List.getElem?_eq_some_iff.mp hd).1 (hlen _ _ _ hD)
  have hfv : w_f H (o * 128 + k) = some w := by rw [w_f_at g1 hk]; exact g3
  unfold w_get at hg
  split at hg
  · have : w = .ref _ := g4
    subst this
    exact ⟨vs, _, hf, g1, g3, hrel, hg⟩
  · rename_i t lo hi
    split at hg
    · rename_i v hl
      have := hrel.2.1 _ _ hl
      rw [hfv] at this
      cases this
      exact ⟨vs, _, hf, g1, g3, hrel, hg⟩
    · rename_i hl
      have h0 := hrel.2.2.2.1 _ hl
      rw [hfv] at h0
      have hin : z_in (t, lo, hi) w := g4
      split at hg
      · rename_i ht
        rcases hin with ⟨_, x, rfl, b1, b2⟩ | ⟨h2, -⟩
        · exact ⟨vs, _, _, g1, g3, w_rel_f hrel hl hfv, hg x h0.symm b1 b2⟩
        · rw [ht] at h2; cases h2
      · rename_i ht
        rcases hin with ⟨h2, -⟩ | ⟨_, x, rfl, b1, b2⟩
        · exact absurd h2 ht
        · exact ⟨vs, _, _, g1, g3, w_rel_f hrel hl hfv, hg x h0.symm b1 b2⟩
theorem w_ai_ok (hrel : w_rel D h hf ha H) {o t n : Nat} {lo hi : Int} (ht : t ≠ 1) (hD : D o = some (.inl (t, n, lo, hi))) {go : List Int32 → wA → Prop} (hg : w_ai h o t n lo hi ha go) : ∃ l ha', H[o]? = some (.inl (t, .inl l)) ∧ l.length = n ∧ (∀ x ∈ l, lo ≤ x.toInt ∧ x.toInt ≤ hi) ∧ w_rel D h hf ha' H ∧ go l ha' := by
  obtain ⟨l, g1, g2, g3⟩ := w_arrI hrel.1 ht hD
  have hav := w_a_at g1
  unfold w_ai at hg
  split at hg
  · rename_i t' l' hl
    have := hrel.2.2.1 _ _ hl
    rw [hav] at this
    cases this
    exact ⟨_, ha, g1, g2, g3, hrel, hg⟩
  · exact hg.elim
  · rename_i hl
    have h0 := hrel.2.2.2.2 _ hl
    rw [hav] at h0
    exact ⟨l, _, g1, g2, g3, w_rel_a hrel hav, hg l h0.symm g2 g3⟩
theorem w_al_ok (hrel : w_rel D h hf ha H) {o n : Nat} {lo hi : Int} (hD : D o = some (.inl (1, n, lo, hi))) {go : List Int64 → wA → Prop} (hg : w_al h o n lo hi ha go) : ∃ l ha', H[o]? = some (.inl (1, .inr (.inl l))) ∧ l.length = n ∧ (∀ x ∈ l, lo ≤ x.toInt ∧ x.toInt ≤ hi) ∧ w_rel D h hf ha' H ∧ go l ha' := by
  obtain ⟨l, g1, g2, g3⟩ := w_arrL hrel.1 hD
  have hav := w_a_at g1
  unfold w_al at hg
  split at hg
  · rename_i t' l' hl
    have := hrel.2.2.1 _ _ hl
    rw [hav] at this
    cases this
    exact ⟨_, ha, g1, g2, g3, hrel, hg⟩
  · exact hg.elim
  · rename_i hl
    have h0 := hrel.2.2.2.2 _ hl
    rw [hav] at h0
    exact ⟨l, _, g1, g2, g3, w_rel_a hrel hav, hg l h0.symm g2 g3⟩
theorem w_ix {j : Int32} {n : Nat} (h1 : 0 ≤ j.toInt) (h2 : j.toInt < n) : ¬ (j < 0 ∨ n ≤ j.toNatClampNeg) ∧ j.toNatClampNeg < n := by
  have hc : j.toNatClampNeg = j.toInt.toNat := rfl
  refine ⟨?_, by omega⟩
  rintro (q | q)
  · have := Int32.lt_iff_toInt_lt.mp q
    have e0 : (0 : Int32).toInt = 0 := rfl
    omega
  · omega
end WOK
