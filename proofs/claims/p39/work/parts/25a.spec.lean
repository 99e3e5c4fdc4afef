/-! ===== v3: what is told by walks, as contexts promise it ===== -/
/-- what is told of the heap rests on those places alone, by what is seen there -/
def y_jx (J : aH → Prop) : Prop := ∀ H H', (∀ key ∈ z_jc, w_f H' key = w_f H key) → (∀ o, o * 128 ∈ z_jc → w_a H' o = w_a H o) → J H → J H'
theorem y_jx_l {J : aH → Prop} (hJ : y_jx J) : z_jl J := by
  refine ⟨fun H o ci vs k v hH hk hj hJH => hJ H _ (fun key hkey => ?_) (fun o' _ => w_a_put hH) hJH, fun H o a b hH hj hJH => hJ H _ (fun key _ => ?_) (fun o' ho' => ?_) hJH⟩
  · refine w_f_put hH hk (fun e => ?_)
    subst e
    rw [List.elem_iff.mpr hkey] at hj
    cases hj
  · unfold w_f
    by_cases ho : o = key / 128
    · subst ho
      rw [hH, List.getElem?_set_self (List.getElem?_eq_some_iff.mp hH).1]
    · rw [List.getElem?_set_ne ho]
  · have ho : o ≠ o' := fun e => by
      subst e
      rw [List.elem_iff.mpr ho'] at hj
      cases hj
    unfold w_a
    rw [List.getElem?_set_ne ho]
section YS
variable {J : aH → Prop} {ρ : zR} {H H' : aH}
theorem y_hr0 (h : z_hr J z_D ρ [] H) : w_hr z_D H ∧ J H := by
  refine ⟨⟨fun o c hc => ?_, trivial⟩, h.2⟩
  obtain ⟨e, h1, h2⟩ := h.1 o c hc
  refine ⟨e, h1, ?_⟩
  unfold z_cell at h2 ⊢
  split
  · exact h2
  · obtain ⟨vs, e1, e2, e3⟩ := h2
    refine ⟨vs, e1, e2, fun k d hd => ?_⟩
    obtain ⟨w, w1, -, w3⟩ := e3 k d hd
    exact ⟨w, w1, fun x hx => (by cases hx), w3⟩
  · exact h2
theorem y_hrv {ov : zV} (h : w_hr z_D H) (hJ : J H) (hov : ∀ key x, ov.lookup key = some x → w_f H key = some (z_v ρ x)) : z_hr J z_D ρ ov H := by
  refine ⟨fun o c hc => ?_, hJ⟩
  obtain ⟨e, h1, h2⟩ := h.1 o c hc
  refine ⟨e, h1, ?_⟩
  unfold z_cell at h2 ⊢
  split
  · exact h2
  · rename_i ci ks
    obtain ⟨vs, e1, e2, e3⟩ := h2
    refine ⟨vs, e1, e2, fun k d hd => ?_⟩
    obtain ⟨w, w1, -, w3⟩ := e3 k d hd
    have hk : k < 128 := Nat.lt_of_lt_of_le (List.getElem?_eq_some_iff.mp hd).1 (z_hl _ _ _ hc)
    refine ⟨w, w1, fun x hx => ?_, fun _ => w3 rfl⟩
    have h5 := hov _ x hx
    rw [w_f_at (by rw [h1, e1]) hk, w1] at h5
    cases h5
    rfl
  · exact h2
theorem y_frm {fs as ms : List Nat} (hr : w_hr z_D H) (hf : y_fr H H' fs as) (h1 : fs.all (fun x => ms.elem x) = true) (h2 : as.all (fun x => ms.elem (x * 128)) = true) : z_frm z_D ms H H' := by
  refine ⟨fun o ci ks vs0 hD h0 => ?_, fun o a hD hn => ?_⟩
  · obtain ⟨e, g1, g2⟩ := hf.1.1 o _ hD
    obtain ⟨vs, e1, e2, -⟩ := g2
    subst e1
    refine ⟨vs, g1, fun k hk hn => ?_⟩
    have hk128 : k < 128 := Nat.lt_of_lt_of_le hk (z_hl _ _ _ hD)
    rw [← w_f_at g1 hk128, ← w_f_at h0 hk128]
    exact hf.2.1 _ (fun q => hn (List.elem_iff.mp (List.all_eq_true.mp h1 _ q)))
  · have arr : ∀ {G : aH}, w_hr z_D G → ∃ q, G[o]? = some (.inl q) := by
      intro G hG
      obtain ⟨e, g1, g2⟩ := hG.1 o _ hD
      unfold z_cell at g2
      dsimp only at g2
      split at g2
      · obtain ⟨l, e1, -⟩ := g2
        exact ⟨_, by rw [g1, e1]⟩
      · obtain ⟨-, l, e1, -⟩ := g2
        exact ⟨_, by rw [g1, e1]⟩
    obtain ⟨q, hq⟩ := arr hr
    obtain ⟨q', hq'⟩ := arr hf.1
    have := hf.2.2 o (fun q => hn (List.elem_iff.mp (List.all_eq_true.mp h2 _ q)))
    rw [w_a_at hq, w_a_at hq'] at this
    cases this
    rw [hq, hq']
theorem y_jfr {fs as : List Nat} (hJ : y_jx J) (hf : y_fr H H' fs as) (h1 : fs.all (fun x => !z_jc.elem x) = true) (h2 : as.all (fun x => !z_jc.elem (x * 128)) = true) (h : J H) : J H' := by
  refine hJ H H' (fun key hk => hf.2.1 key (fun q => ?_)) (fun o ho => hf.2.2 o (fun q => ?_)) h
  · have := List.all_eq_true.mp h1 _ q
    rw [List.elem_iff.mpr hk] at this
    cases this
  · have := List.all_eq_true.mp h2 _ q
    rw [List.elem_iff.mpr ho] at this
    cases this
/-- the values of a template's names -/
theorem y_long {ρ : zR} {t : Nat} {lo hi : Int} (hs : ∃ w, ρ[t]? = some w ∧ z_in (2, lo, hi) w) : ∃ x : Int64, ρ[t]? = some (.long x) ∧ lo ≤ x.toInt ∧ x.toInt ≤ hi := by
  obtain ⟨w, h1, h2⟩ := hs
  rcases h2 with ⟨q, -⟩ | ⟨-, x, rfl, b⟩
  · cases q
  · exact ⟨x, h1, b⟩
theorem y_int {ρ : zR} {t : Nat} {lo hi : Int} (hs : ∃ w, ρ[t]? = some w ∧ z_in (1, lo, hi) w) : ∃ x : Int32, ρ[t]? = some (.int x) ∧ lo ≤ x.toInt ∧ x.toInt ≤ hi := by
  obtain ⟨w, h1, h2⟩ := hs
  rcases h2 with ⟨-, x, rfl, b⟩ | ⟨q, -⟩
  · exact ⟨x, h1, b⟩
  · cases q
end YS
/-- lowest: the second is above 0 -/
def z_q194 : zQ := ((194, 1, 2, 1), [(0, ([(0, 1), (0, 3)], [(2, -9223372036854775807, 9223372036854775807), (2, 1, 9223372036854775807)], [], [some (.inl (.ref 155)), some (.inr (0, 0)), none, some (.inr (1, 0)), none, none, none]), [(0, 0, 0)])],
  [([(1, 19587), (1, 19588)], [(2, -9223372036854775808, 9223372036854775807), (2, 1, 9223372036854775807)], [], [])], [19587, 19588])
theorem z_q194_s {J : aH → Prop} (hJ : y_jx J) {X : aX} : z_spec J z_D s_P X z_q194 := by
  intro M hM C S ρE H ls T0 m0 hin htm K0 hK
  have hM' : some a_m194 = some M := hM
  cases hM'
  rcases List.mem_cons.mp hin with hq | hq
  · cases hq
    obtain ⟨t1, t2, t3, t4, t5, t6, t7⟩ := htm
    obtain ⟨n, n1, n2, n3⟩ := y_long (t2.1 (0, _) (List.mem_cons_self))
    obtain ⟨m, m1, m2, m3⟩ := y_long (t2.1 (1, _) (List.mem_cons_of_mem _ List.mem_cons_self))
    obtain ⟨hw, hJH⟩ := y_hr0 t5
    refine aOK_lle t7 ?_
    have e : z_ls ρE [some (.inl (.ref 155)), some (.inr (0, 0)), none, some (.inr (1, 0)), none, none, none] = [some (.ref 155), some (.long n), none, some (.long m), none, none, none] := by
      simp only [z_ls, List.map_cons, List.map_nil, Option.map_some, Option.map_none, z_v, n1, m1]
    rw [e]
    refine y_lowest hw (by omega) m2 (fun g u l H' hg hg1 hu hl hl1 hrel => ?_)
    have hf : y_fr H H' [19587, 19588] [] := y_fr_rel hrel (w_cons (Or.inl (y_m rfl)) (w_cons (Or.inl (y_m rfl)) w_nil)) w_nil
    refine hK _ List.mem_cons_self [.long u, .long l] H' none ⟨rfl, ⟨?_, w_nil, w_nil, w_nil⟩, fun o ho => (by cases ho), ?_, ?_, y_frm hw hf rfl rfl, ⟨rfl, fun i v hi => (by cases hi)⟩⟩ (fun t g ht => ?_) (fun n e => by cases e)
    · exact w_cons ⟨_, rfl, y_zin (y_l64 u).1 (y_l64 u).2⟩ (w_cons ⟨_, rfl, y_zin hl1 (y_l64 l).2⟩ w_nil)
    · exact w_cons (fun q => by cases q) (w_cons (fun q => by cases q) w_nil)
    · refine y_hrv hf.1 (y_jfr hJ hf rfl rfl hJH) (fun key x hx => ?_)
      have hx' : List.lookup key [(19587, (.inr (0, 0) : zO)), (19588, .inr (1, 0))] = some x := hx
      rw [List.lookup_cons] at hx'
      split at hx'
      · rename_i hb
        cases hx'
        rw [beq_iff_eq] at hb
        subst hb
        exact hrel.2.1 19587 _ rfl
      · rw [List.lookup_cons] at hx'
        split at hx'
        · rename_i hb
          cases hx'
          rw [beq_iff_eq] at hb
          subst hb
          exact hrel.2.1 19588 _ rfl
        · cases hx'
    · match t, ht with
      | 0, ht => cases ht
      | 1, ht => cases ht
      | _ + 2, ht => cases ht
  · cases hq
