/-! ===== v2: the heap, as it is declared ===== -/
/-- a field: bounds, or one reference for ever -/
abbrev zK : Type := zI ⊕ Nat
/-- a cell: an array (kind, length, bounds), an object, a row of references for ever -/
abbrev zC : Type := (Nat × Nat × Int × Int) ⊕ ((Nat × List zK) ⊕ (Nat × List Nat))
/-- fields that are known by name now: place (cell * 128 + field), operand -/
abbrev zV : Type := List (Nat × zO)
def z_dk (d : zK) (w : Value) : Prop := match d with
  | .inl a => z_in a w
  | .inr r => w = .ref r
def z_cell (ρ : zR) (ov : zV) (o : Nat) (c : zC) (e : aE) : Prop := match c with
  | .inl (t, n, lo, hi) => if t = 1 then ∃ l : List Int64, e = .inl (t, .inr (.inl l)) ∧ l.length = n ∧ ∀ x ∈ l, lo ≤ x.toInt ∧ x.toInt ≤ hi else
      t < 4 ∧ ∃ l : List Int32, e = .inl (t, .inl l) ∧ l.length = n ∧ ∀ x ∈ l, lo ≤ x.toInt ∧ x.toInt ≤ hi
  | .inr (.inl (ci, ks)) => ∃ vs : List Value, e = .inr (ci, vs) ∧ vs.length = ks.length ∧ ∀ k d, ks[k]? = some d → ∃ w, vs[k]? = some w ∧ (∀ x, ov.lookup (o * 128 + k) = some x → w = z_v ρ x) ∧ (ov.lookup (o * 128 + k) = none → z_dk d w)
  | .inr (.inr (t, rs)) => 4 ≤ t ∧ t < a_tys.length ∧ e = .inl (t, .inr (.inr (rs.map some)))
def z_hr (J : aH → Prop) (D : Nat → Option zC) (ρ : zR) (ov : zV) (H : aH) : Prop := (∀ o c, D o = some c → ∃ e, H[o]? = some e ∧ z_cell ρ ov o c e) ∧ J H
/-- what the run of a stretch may not write itself: places on which what is told of the heap rests (wip/tools/zjc.py) -/
def z_jc : List Nat := [19591, 19598, 19600, 19603, 19640, 19968, 20096, 20224, 20480, 20608, 20736, 20864, 21120, 21248, 21376, 21504, 21632, 21760, 22016, 22144, 22272, 22400, 22528, 23296, 23936, 24320, 24448, 24576, 24704, 24832]
/-- what is told of the heap rests on those places alone -/
def z_jl (J : aH → Prop) : Prop := (∀ (H : aH) (o ci : Nat) (vs : List Value) (k : Nat) (v : Value), H[o]? = some (.inr (ci, vs)) → k < 128 → z_jc.elem (o * 128 + k) = false → J H → J (H.set o (.inr (ci, vs.set k v)))) ∧ ∀ (H : aH) (o : Nat) (a b : Nat × aA), H[o]? = some (.inl a) → z_jc.elem (o * 128) = false → J H → J (H.set o (.inl b))
def z_len0 (J : aH → Prop) (D : Nat → Option zC) : Prop := (∀ o ci ks, D o = some (.inr (.inl (ci, ks))) → ks.length ≤ 128) ∧ z_jl J
/-- what stays as it was: fields that are not named in a row -/
def z_frm (D : Nat → Option zC) (ms : List Nat) (H0 H : aH) : Prop := (∀ o ci ks vs0, D o = some (.inr (.inl (ci, ks))) → H0[o]? = some (.inr (ci, vs0)) → ∃ vs, H[o]? = some (.inr (ci, vs)) ∧ ∀ k, k < ks.length → o * 128 + k ∉ ms → vs[k]? = vs0[k]?) ∧ ∀ o a, D o = some (.inl a) → o * 128 ∉ ms → H[o]? = H0[o]?
/-- operands of a row of fields are values -/
def z_ovk (ρ : zR) (ov : zV) : Prop := ∀ q ∈ ov, z_v ρ q.2 ≠ .null
section ZH
variable {J : aH → Prop} {D : Nat → Option zC} {ρ l : zR} {ov : zV} {H H0 : aH}
theorem z_cell_app (hk : z_ovk ρ ov) {o : Nat} {c : zC} {e : aE} (h : z_cell ρ ov o c e) : z_cell (ρ ++ l) ov o c e := by
  unfold z_cell at h ⊢
  split
  · exact h
  · obtain ⟨vs, h1, h2, h3⟩ := h
    refine ⟨vs, h1, h2, fun k d hd => ?_⟩
    obtain ⟨w, w1, w2, w3⟩ := h3 k d hd
    refine ⟨w, w1, fun x hx => ?_, w3⟩
    rw [z_v_app (hk _ (z_lk_in hx))]
    exact w2 x hx
  · exact h
theorem z_hr_app (hk : z_ovk ρ ov) (h : z_hr J D ρ ov H) : z_hr J D (ρ ++ l) ov H := ⟨fun o c hc => by
  obtain ⟨e, h1, h2⟩ := h.1 o c hc
  exact ⟨e, h1, z_cell_app hk h2⟩, h.2⟩
theorem z_ovk_app (hk : z_ovk ρ ov) : z_ovk (ρ ++ l) ov := fun q hq => by rw [z_v_app (hk q hq)]; exact hk q hq
theorem z_frm_rf {ms : List Nat} : z_frm D ms H H := ⟨fun _ _ _ vs0 _ h => ⟨vs0, h, fun _ _ _ => rfl⟩, fun _ _ _ _ => rfl⟩
theorem z_frm_tr {ms : List Nat} {H1 : aH} (h1 : z_frm D ms H0 H1) (h2 : z_frm D ms H1 H) : z_frm D ms H0 H := ⟨fun o ci ks vs0 hD h0 => by
  obtain ⟨vs1, e1, f1⟩ := h1.1 o ci ks vs0 hD h0
  obtain ⟨vs2, e2, f2⟩ := h2.1 o ci ks vs1 hD e1
  exact ⟨vs2, e2, fun k hk hm => (f2 k hk hm).trans (f1 k hk hm)⟩, fun o a ha hm => (h2.2 o a ha hm).trans (h1.2 o a ha hm)⟩
theorem z_frm_mono {ms ms' : List Nat} (hm : ∀ x ∈ ms, x ∈ ms') (h : z_frm D ms H0 H) : z_frm D ms' H0 H := ⟨fun o ci ks vs0 hD h0 => by
  obtain ⟨vs1, e1, f1⟩ := h.1 o ci ks vs0 hD h0
  exact ⟨vs1, e1, fun k hk hn => f1 k hk (fun q => hn (hm _ q))⟩, fun o a ha hn => h.2 o a ha (fun q => hn (hm _ q))⟩
/-- a field is read -/
theorem z_get_known (hr : z_hr J D ρ ov H) {o ci : Nat} {ks : List zK} (hD : D o = some (.inr (.inl (ci, ks)))) {k : Nat} {d : zK} (hd : ks[k]? = some d) : ∃ vs w, H[o]? = some (.inr (ci, vs)) ∧ vs[k]? = some w ∧ (∀ x, ov.lookup (o * 128 + k) = some x → w = z_v ρ x) ∧ (ov.lookup (o * 128 + k) = none → z_dk d w) := by
  obtain ⟨e, h1, h2⟩ := hr.1 o _ hD
  obtain ⟨vs, e1, e2, e3⟩ := h2
  obtain ⟨w, w1, w2, w3⟩ := e3 k d hd
  subst e1
  exact ⟨vs, w, h1, w1, w2, w3⟩
theorem z_key {o o' k k' : Nat} (hk : k < 128) (hk' : k' < 128) (h : o * 128 + k = o' * 128 + k') : o = o' ∧ k = k' := by omega
/-- a name for a field that is read -/
theorem z_hr_name (hr : z_hr J D ρ ov H) {o ci : Nat} {ks : List zK} (hD : D o = some (.inr (.inl (ci, ks)))) (hlen : z_len0 J D) {k : Nat} {d : zK} (hd : ks[k]? = some d) {vs : List Value} {w : Value} (hH : H[o]? = some (.inr (ci, vs))) (hw : vs[k]? = some w) {x : zO} (hx : z_v ρ x = w) : z_hr J D ρ ((o * 128 + k, x) :: ov) H := by
  refine ⟨?_, hr.2⟩
  intro o' c' hc'
  obtain ⟨e, h1, h2⟩ := hr.1 o' c' hc'
  refine ⟨e, h1, ?_⟩
  unfold z_cell at h2 ⊢
  split
  · exact h2
  · rename_i ci' ks'
    obtain ⟨vs', e1, e2, e3⟩ := h2
    refine ⟨vs', e1, e2, fun k' d' hd' => ?_⟩
    obtain ⟨w', w1, w2, w3⟩ := e3 k' d' hd'
    have hk128 : k < 128 := Nat.lt_of_lt_of_le (List.getElem?_eq_some_iff.mp hd).1 (hlen.1 _ _ _ hD)
    have hk128' : k' < 128 := Nat.lt_of_lt_of_le (List.getElem?_eq_some_iff.mp hd').1 (hlen.1 _ _ _ hc')
    refine ⟨w', w1, fun x' hx' => ?_, fun hn => ?_⟩
    · rw [List.lookup_cons] at hx'
      split at hx'
      · rename_i hb
        cases hx'
        obtain ⟨rfl, rfl⟩ := z_key hk128' hk128 (beq_iff_eq.mp hb)
        rw [h1] at hH
        rw [e1] at hH
        cases hH
        rw [w1] at hw
        cases hw
        exact hx.symm
      · exact w2 x' hx'
    · rw [List.lookup_cons] at hn
      split at hn
      · cases hn
      · exact w3 hn
  · exact h2
/-- a field is written -/
theorem z_hr_put (hr : z_hr J D ρ ov H) {o ci : Nat} {ks : List zK} (hD : D o = some (.inr (.inl (ci, ks)))) (hlen : z_len0 J D) {k : Nat} (hk : k < ks.length) {vs : List Value} (hH : H[o]? = some (.inr (ci, vs))) (hj : z_jc.elem (o * 128 + k) = false) (x : zO) : z_hr J D ρ ((o * 128 + k, x) :: ov) (H.set o (.inr (ci, vs.set k (z_v ρ x)))) := by
  have hk128 : k < 128 := Nat.lt_of_lt_of_le hk (hlen.1 _ _ _ hD)
  refine ⟨?_, hlen.2.1 H o ci vs k _ hH hk128 hj hr.2⟩
  intro o' c' hc'
  obtain ⟨e, h1, h2⟩ := hr.1 o' c' hc'
  by_cases ho : o = o'
  · subst ho
    rw [hD] at hc'
    cases hc'
    rw [hH] at h1
    cases h1
    obtain ⟨vs', e1, e2, e3⟩ := h2
    cases e1
    refine ⟨_, by rw [List.getElem?_set_self (List.getElem?_eq_some_iff.mp hH).1], vs.set k (z_v ρ x), rfl, by rw [List.length_set]; exact e2, fun k' d' hd' => ?_⟩
    obtain ⟨w', w1, w2, w3⟩ := e3 k' d' hd'
    have hk128' : k' < 128 := Nat.lt_of_lt_of_le (List.getElem?_eq_some_iff.mp hd').1 (hlen.1 _ _ _ hD)
    by_cases hkk : k = k'
    · subst hkk
      refine ⟨z_v ρ x, by rw [List.getElem?_set_self (by rw [e2]; exact hk)], fun x' hx' => ?_, fun hn => ?_⟩
      · rw [List.lookup_cons, beq_self_eq_true] at hx'
        cases hx'
        rfl
      · rw [List.lookup_cons, beq_self_eq_true] at hn
        cases hn
    · refine ⟨w', by rw [List.getElem?_set_ne hkk]; exact w1, fun x' hx' => ?_, fun hn => ?_⟩
      · rw [List.lookup_cons] at hx'
        split at hx'
        · rename_i hb
          exact absurd (z_key hk128' hk128 (beq_iff_eq.mp hb)).2.symm hkk
        · exact w2 x' hx'
      · rw [List.lookup_cons] at hn
        split at hn
        · cases hn
        · exact w3 hn
  · refine ⟨e, by rw [List.getElem?_set_ne ho]; exact h1, ?_⟩
    unfold z_cell at h2 ⊢
    split
    · exact h2
    · rename_i ci' ks'
      obtain ⟨vs', e1, e2, e3⟩ := h2
      refine ⟨vs', e1, e2, fun k' d' hd' => ?_⟩
      obtain ⟨w', w1, w2, w3⟩ := e3 k' d' hd'
      have hk128' : k' < 128 := Nat.lt_of_lt_of_le (List.getElem?_eq_some_iff.mp hd').1 (hlen.1 _ _ _ hc')
      refine ⟨w', w1, fun x' hx' => ?_, fun hn => ?_⟩
      · rw [List.lookup_cons] at hx'
        split at hx'
        · rename_i hb
          exact absurd (z_key hk128' hk128 (beq_iff_eq.mp hb)).1.symm ho
        · exact w2 x' hx'
      · rw [List.lookup_cons] at hn
        split at hn
        · cases hn
        · exact w3 hn
    · exact h2
theorem z_frm_put {ms : List Nat} (hf : z_frm D ms H0 H) {o ci : Nat} {ks : List zK} (hD : D o = some (.inr (.inl (ci, ks)))) {k : Nat} (hk : k < ks.length) {vs : List Value} (hH : H[o]? = some (.inr (ci, vs))) (hm : o * 128 + k ∈ ms) (w : Value) : z_frm D ms H0 (H.set o (.inr (ci, vs.set k w))) := ⟨fun o' ci' ks' vs0 hD' h0 => by
  obtain ⟨vs1, e1, f1⟩ := hf.1 o' ci' ks' vs0 hD' h0
  by_cases ho : o = o'
  · subst ho
    rw [hD] at hD'
    cases hD'
    rw [hH] at e1
    cases e1
    refine ⟨vs.set k w, by rw [List.getElem?_set_self (List.getElem?_eq_some_iff.mp hH).1], fun k' hk' hn => ?_⟩
    have : k ≠ k' := fun e => hn (by rw [← e]; exact hm)
    rw [List.getElem?_set_ne this]
    exact f1 k' hk' hn
  · exact ⟨vs1, by rw [List.getElem?_set_ne ho]; exact e1, f1⟩, fun o' a hD' hn => by
  have ho : o ≠ o' := fun e => by rw [← e, hD] at hD'; cases hD'
  rw [List.getElem?_set_ne ho]
  exact hf.2 o' a hD' hn⟩
/-- a cell of an array is written: nothing else changes -/
theorem z_hr_arr (hlen : z_len0 J D) (hr : z_hr J D ρ ov H) {o : Nat} {a : Nat × Nat × Int × Int} (hD : D o = some (.inl a)) (hj : z_jc.elem (o * 128) = false) {e' : Nat × aA} (he : z_cell ρ ov o (.inl a) (.inl e')) : z_hr J D ρ ov (H.set o (.inl e')) := by
  have hold : ∃ q, H[o]? = some (.inl q) := by
    obtain ⟨e, h1, h2⟩ := hr.1 o _ hD
    unfold z_cell at h2
    dsimp only at h2
    split at h2
    · obtain ⟨l, e1, -⟩ := h2
      exact ⟨_, by rw [h1, e1]⟩
    · obtain ⟨-, l, e1, -⟩ := h2
      exact ⟨_, by rw [h1, e1]⟩
  obtain ⟨q, hq⟩ := hold
  refine ⟨?_, hlen.2.2 H o q e' hq hj hr.2⟩
  intro o' c' hc'
  obtain ⟨e, h1, h2⟩ := hr.1 o' c' hc'
  by_cases ho : o = o'
  · subst ho
    rw [hD] at hc'
    cases hc'
    exact ⟨.inl e', by rw [List.getElem?_set_self (List.getElem?_eq_some_iff.mp h1).1], he⟩
  · exact ⟨e, by rw [List.getElem?_set_ne ho]; exact h1, h2⟩
theorem z_frm_arr {ms : List Nat} (hf : z_frm D ms H0 H) {o : Nat} {a : Nat × Nat × Int × Int} (hD : D o = some (.inl a)) (hm : o * 128 ∈ ms) (e' : aE) : z_frm D ms H0 (H.set o e') := ⟨fun o' ci' ks' vs0 hD' h0 => by
  obtain ⟨vs1, e1, f1⟩ := hf.1 o' ci' ks' vs0 hD' h0
  have ho : o ≠ o' := fun e => by rw [e, hD'] at hD; cases hD
  exact ⟨vs1, by rw [List.getElem?_set_ne ho]; exact e1, f1⟩, fun o' a' hD' hn => by
  have ho : o ≠ o' := fun e => hn (by rw [← e]; exact hm)
  rw [List.getElem?_set_ne ho]
  exact hf.2 o' a' hD' hn⟩
end ZH
