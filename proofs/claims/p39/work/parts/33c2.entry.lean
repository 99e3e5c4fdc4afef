/-! ===== v5: contexts with narrower entries, and what their exits tell ===== -/
section NC
variable {J : aH → Prop} {X : aX} {H H' : aH} {ρ : zR} {us : List Int32} {i : Nat} {ss : List (Nat × Nat)} {ds : List zI} {ws : List Value}
theorem n_Rn : t_R H us i [] [] [] := trivial
theorem n_Ra {k : Nat} {lo hi : Int} {u : Int32} (h1 : lo ≤ u.toInt) (h2 : u.toInt ≤ hi) (hu : us[i]? = some u) (h4 : t_R H us (i + 1) ss ds ws) : t_R H us i ((0, k) :: ss) ((1, lo, hi) :: ds) (.int u :: ws) := by
  refine ⟨Or.inl ⟨rfl, u, rfl, h1, h2⟩, fun _ => ⟨by rw [hu]; rfl, rfl⟩, fun q => ?_, h4⟩
  have := (List.getElem?_eq_some_iff.mp hu).1
  omega
theorem n_Rf {k : Nat} {lo hi : Int} {u : Int32} (hi' : Nat.ble us.length i = true) (hf : w_f H k = some (.int u)) (h1 : lo ≤ u.toInt) (h2 : u.toInt ≤ hi) (h4 : t_R H us (i + 1) ss ds ws) : t_R H us i ((1, k) :: ss) ((1, lo, hi) :: ds) (.int u :: ws) := by
  rw [Nat.ble_eq] at hi'
  exact ⟨Or.inl ⟨rfl, u, rfl, h1, h2⟩, fun q => absurd q (by omega), fun _ => ⟨rfl, hf⟩, h4⟩
theorem n_entry {T : zT} {ms : List Nat} {m : Nat} (hr : w_hr z_D H) (hJH : J H) (hws : t_R H us 0 T.1 T.2.1 ws) (hlen : Nat.ble us.length T.1.length = true) (hrel : ∀ q ∈ T.2.2.1, ∃ x y : Int32, ws[q.1]? = some (.int x) ∧ ws[q.2.1]? = some (.int y) ∧ x.toInt - y.toInt ≤ q.2.2)
    (h3 : T.2.2.2 = some (.inl (.ref 2)) :: ((List.range us.length).map (fun j => some (.inr (j, 0))) ++ List.replicate m none)) : z_tm J z_D ms ws H H (a_ent (.ref 2 :: us.map .int) (us.length + 1 + m)) T := by
  rw [Nat.ble_eq] at hlen
  obtain ⟨l1, l2⟩ := t_R_len _ _ _ _ hws
  have at' : ∀ (j : Nat) (s : Nat × Nat), T.1[j]? = some s → ∃ d w, T.2.1[j]? = some d ∧ ws[j]? = some w ∧ z_in d w ∧ (j < us.length → us[j]?.map Value.int = some w ∧ s.1 = 0) ∧ (us.length ≤ j → s.1 = 1 ∧ w_f H s.2 = some w) := by
    intro j s hs
    have hj : j < T.2.1.length := by rw [← l2]; exact (List.getElem?_eq_some_iff.mp hs).1
    obtain ⟨w, w1, w2, w3, w4⟩ := t_R_at _ _ _ _ hws j s _ hs (List.getElem?_eq_getElem hj)
    rw [Nat.zero_add] at w3 w4
    exact ⟨_, w, List.getElem?_eq_getElem hj, w1, w2, w3, w4⟩
  have fld : ∀ (j : Nat) (k : Nat), T.1[j]? = some (1, k) → ∃ d w, T.2.1[j]? = some d ∧ ws[j]? = some w ∧ z_in d w ∧ w_f H k = some w := by
    intro j k hk
    obtain ⟨d, w, w0, w1, w2, w3, w4⟩ := at' j _ hk
    have : us.length ≤ j := by
      rcases Nat.lt_or_ge j us.length with q | q
      · have := (w3 q).2
        cases this
      · exact q
    exact ⟨d, w, w0, w1, w2, (w4 this).2⟩
  have arg : ∀ (j : Nat), j < us.length → z_v ws (.inr (j, 0)) = .int (us[j]?.getD 0) := by
    intro j hj
    obtain ⟨d, w, w0, w1, w2, w3, w4⟩ := at' j _ (List.getElem?_eq_getElem (Nat.lt_of_lt_of_le hj hlen))
    rw [t_zv w1 w2]
    have := (w3 hj).1
    rw [List.getElem?_eq_getElem hj] at this ⊢
    cases this
    rfl
  refine ⟨l1, ⟨fun q hq => ?_, hrel, fun q hq => (by cases hq), fun q hq => (by cases hq)⟩, ?_, fun q hq => ?_, y_hrv hr hJH (fun key x hx => ?_), y_frm hr (y_rf hr) (fs := []) (as := []) rfl rfl, ?_⟩
  · obtain ⟨j, e1, e2⟩ := t_tG_in hq
    rw [Nat.zero_add] at e1
    have hj : j < T.1.length := by rw [l2]; exact (List.getElem?_eq_some_iff.mp e2).1
    obtain ⟨d, w, w0, w1, w2, -, -⟩ := at' j _ (List.getElem?_eq_getElem hj)
    rw [w0] at e2
    cases e2
    exact ⟨w, by rw [e1]; exact w1, w2⟩
  · intro o ho
    rw [h3] at ho
    rcases List.mem_cons.mp ho with e | ho
    · cases e
      exact fun q => by cases q
    · rcases List.mem_append.mp ho with ho | ho
      · obtain ⟨j, hj, e⟩ := List.mem_map.mp ho
        cases e
        rw [arg j (List.mem_range.mp hj)]
        exact fun q => by cases q
      · have := List.eq_of_mem_replicate ho
        cases this
  · obtain ⟨j, e1, e2⟩ := t_tov_in hq
    rw [Nat.zero_add] at e2
    obtain ⟨d, w, w0, w1, w2, w3⟩ := fld _ _ e1
    rw [e2, t_zv w1 w2]
    exact t_nn w2
  · obtain ⟨j, e1, e2⟩ := t_tov_in (z_lk_in hx)
    rw [Nat.zero_add] at e2
    dsimp only at e1 e2
    obtain ⟨d, w, w0, w1, w2, w3⟩ := fld _ _ e1
    rw [e2, t_zv w1 w2]
    exact w3
  · have e2 : z_ls ws T.2.2.2 = a_ent (.ref 2 :: us.map .int) (us.length + 1 + m) := by
      unfold a_ent
      rw [l_ae, h3]
      unfold z_ls
      rw [List.map_cons, List.map_append, List.map_map, List.map_replicate, List.cons_append]
      congr 1
      have e4 : List.map ((fun o => Option.map (z_v ws) o) ∘ fun j => (some (Sum.inr (j, 0)) : Option zO)) (List.range us.length) = us.map (fun u => some (Value.int u)) := by
        apply List.ext_getElem
        · simp
        · intro j h1 h2
          have hj : j < us.length := by simpa using h2
          simp only [List.getElem_map, List.getElem_range, Function.comp, Option.map_some]
          rw [arg j hj, List.getElem?_eq_getElem hj]
          rfl
      rw [e4]
      congr 1
      simp
    rw [e2]
    exact ⟨rfl, fun _ _ q => q⟩
/-- an exit's constant answer -/
theorem n_c {H0 : aH} {ms : List Nat} {x c : Int32} {T : zT} (h : z_tm J z_D ms ρ H0 H [some (.int x)] T) (hl : T.2.2.2 = [some (.inl (.int c))]) : x = c := by
  have hv := h.2.2.2.2.2.2.2 0
  rw [hl] at hv
  have h5 : (some (some (Value.int x)) : Option (Option Value)) = some (some (Value.int c)) := hv (.int c) rfl
  cases h5
  rfl
/-- an exit's answer is one of its names -/
theorem n_v {H0 : aH} {ms : List Nat} {x : Int32} {T : zT} {j : Nat} {d : zI} (h : z_tm J z_D ms ρ H0 H [some (.int x)] T) (hl : T.2.2.2 = [some (.inr (j, 0))]) (hd : T.2.1[j]? = some d) (h1 : d.1 = 1) : ρ[j]? = some (.int x) := by
  have hv := h.2.2.2.2.2.2.2 0
  rw [hl] at hv
  have hgin : ∀ (ds : List zI) (m j : Nat) (d : zI), ds[j]? = some d → (m + j, d) ∈ z_tG m ds := by
    intro ds
    induction ds with
    | nil => intro m j d h; cases h
    | cons d0 ds ih =>
      intro m j d h
      cases j with
      | zero => cases h; exact List.mem_cons_self
      | succ j =>
        have := ih (m + 1) j d h
        rw [show m + 1 + j = m + (j + 1) from by omega] at this
        exact List.mem_cons_of_mem _ this
  have hin := hgin T.2.1 0 j _ hd
  rw [Nat.zero_add] at hin
  obtain ⟨w', e1, e2⟩ := h.2.1.1 _ hin
  dsimp only at e1 e2
  have h5 : (some (some (Value.int x)) : Option (Option Value)) = some (some (z_v ρ (.inr (j, 0)))) := hv (z_v ρ (.inr (j, 0))) rfl
  rw [t_zv e1 e2] at h5
  cases h5
  exact e1
theorem n_r {H0 : aH} {ms : List Nat} {ls : aL} {T : zT} {a b : Nat} {w : Int} {x y : Int32} (h : z_tm J z_D ms ρ H0 H ls T) (hq : T.2.2.1.elem (a, b, w) = true) (hx : ρ[a]? = some (.int x)) (hy : ρ[b]? = some (.int y)) : x.toInt - y.toInt ≤ w := by
  obtain ⟨x', y', q1, q2, q3⟩ := h.2.1.2.1 _ (List.elem_iff.mp hq)
  dsimp only at q1 q2 q3
  rw [hx] at q1
  rw [hy] at q2
  cases q1
  cases q2
  exact q3
/-- a field that an exit names -/
theorem n_f {H0 : aH} {ms : List Nat} {ls : aL} {T : zT} {j o k ci : Nat} {ks : List zK} {lo hi : Int} (h : z_tm J z_D ms ρ H0 H ls T) (hD : z_D o = some (.inr (.inl (ci, ks)))) (hk : Nat.blt k ks.length = true) (hk2 : k < 128) (hl : (z_tov 0 T.1).lookup (o * 128 + k) = some (.inr (j, 0))) (hd : T.2.1[j]? = some (1, lo, hi)) : ∃ y : Int32, ρ[j]? = some (.int y) ∧ w_f H (o * 128 + k) = some (.int y) ∧ lo ≤ y.toInt ∧ y.toInt ≤ hi := by
  rw [Nat.blt_eq] at hk
  have hgin : ∀ (ds : List zI) (m j : Nat) (d : zI), ds[j]? = some d → (m + j, d) ∈ z_tG m ds := by
    intro ds
    induction ds with
    | nil => intro m j d h; cases h
    | cons d0 ds ih =>
      intro m j d h
      cases j with
      | zero => cases h; exact List.mem_cons_self
      | succ j =>
        have := ih (m + 1) j d h
        rw [show m + 1 + j = m + (j + 1) from by omega] at this
        exact List.mem_cons_of_mem _ this
  have hin := hgin T.2.1 0 j _ hd
  rw [Nat.zero_add] at hin
  obtain ⟨w', e1, e2⟩ := h.2.1.1 _ hin
  dsimp only at e1 e2
  obtain ⟨e, g1, g2⟩ := h.2.2.2.2.1.1 o _ hD
  obtain ⟨vs, q1, q2, q3⟩ := g2
  subst q1
  obtain ⟨w, w1, w2, -⟩ := q3 k _ (List.getElem?_eq_getElem hk)
  have hw := w2 _ hl
  rw [t_zv e1 e2] at hw
  subst hw
  rcases e2 with ⟨-, y, rfl, q4, q5⟩ | ⟨q, -⟩
  · refine ⟨y, e1, ?_, q4, q5⟩
    rw [w_f_at g1 hk2, w1]
  · exact absurd (show (1 : Nat) = 2 from q) (by decide)
/-- what a frame leaves -/
theorem n_frm {ms : List Nat} {o k ci : Nat} {ks : List zK} (hr : w_hr z_D H) (hf : z_frm z_D ms H H') (hD : z_D o = some (.inr (.inl (ci, ks)))) (hk : Nat.blt k ks.length = true) (hk2 : k < 128) (hm : ms.elem (o * 128 + k) = false) : w_f H' (o * 128 + k) = w_f H (o * 128 + k) := by
  rw [Nat.blt_eq] at hk
  obtain ⟨e, g1, g2⟩ := hr.1 o _ hD
  obtain ⟨vs, e1, e2, -⟩ := g2
  subst e1
  obtain ⟨vs', g3, g4⟩ := hf.1 o _ _ _ hD g1
  rw [w_f_at g3 hk2, w_f_at g1 hk2]
  refine g4 k hk (fun q => ?_)
  rw [List.elem_iff.mpr q] at hm
  cases hm
theorem n_ctx {Q : zQ} {M : aM} {m : Nat} {T0 : zT} {m0 : zMs} {cs : List zCut} {h : aH} {C S : Nat} {K0 : Option Value → aH → Nat → Nat → Prop} (hs : z_spec y_JA z_D s_P X Q) (hM : s_P[Q.1.1]? = some M) (hd : Nat.ble Q.1.2.1 200 = true) (hQ : Q.2.1 = (0, T0, m0) :: cs) (hI : t_I h)
    (h3 : T0.2.2.2 = some (.inl (.ref 2)) :: ((List.range us.length).map (fun j => some (.inr (j, 0))) ++ List.replicate m none)) (hn : M.2.2.1 = us.length + 1 + m) (h4 : Q.2.2.1.all t_x = true) (h5 : (Q.2.2.2.all (fun k => !decide (k / 128 = 134)) || Q.2.2.1.all t_rx) = true) (hlen : Nat.ble us.length T0.1.length = true)
    (hws : t_R h us 0 T0.1 T0.2.1 ws) (hrel : ∀ q ∈ T0.2.2.1, ∃ x y : Int32, ws[q.1]? = some (.int x) ∧ ws[q.2.1]? = some (.int y) ∧ x.toInt - y.toInt ≤ q.2.2)
    (hk : ∀ T ∈ Q.2.2.1, ∀ (ρX : zR) (x : Int32) (H : aH), t_I H → z_tm y_JA z_D Q.2.2.2 ρX h H [some (.int x)] T → (∀ (t g : Nat), T.1[t]? = some (2, g) → ρX[t]? = ws[g]?) → K0 (some (.int x)) H C S) : aOK s_P X 200 M 0 (a_ent (.ref 2 :: us.map .int) M.2.2.1) [] h C S K0 := by
  obtain ⟨hr, hJ, hday⟩ := hI
  have hρ := n_entry (J := y_JA) (ms := Q.2.2.2) hr hJ hws hlen hrel h3
  rw [Nat.ble_eq] at hd
  rw [hn]
  refine aOK_deep hd (hs M hM C S ws h _ T0 m0 (by rw [hQ]; exact List.mem_cons_self) hρ K0 (fun T hT ρX H' v htm hg _ => ?_))
  obtain ⟨r1, r2, x, rfl⟩ := t_exit htm (List.all_eq_true.mp h4 T hT)
  refine hk T hT ρX x H' ⟨r1, r2, ?_⟩ htm hg
  rw [Bool.or_eq_true] at h5
  rcases h5 with q | q
  · exact t_day_frm hr htm.2.2.2.2.2.1 q hday
  · exact t_day_rx htm (List.all_eq_true.mp q T hT)
/-- a context all of whose exits answer the same constant -/
theorem n_ctxc {Q : zQ} {M : aM} {m : Nat} {T0 : zT} {m0 : zMs} {cs : List zCut} {h : aH} {C S : Nat} {K0 : Option Value → aH → Nat → Nat → Prop} (c : Int32) (hs : z_spec y_JA z_D s_P X Q) (hM : s_P[Q.1.1]? = some M) (hd : Nat.ble Q.1.2.1 200 = true) (hQ : Q.2.1 = (0, T0, m0) :: cs) (hI : t_I h)
    (h3 : T0.2.2.2 = some (.inl (.ref 2)) :: ((List.range us.length).map (fun j => some (.inr (j, 0))) ++ List.replicate m none)) (hn : M.2.2.1 = us.length + 1 + m) (h4 : Q.2.2.1.all t_x = true) (h5 : (Q.2.2.2.all (fun k => !decide (k / 128 = 134)) || Q.2.2.1.all t_rx) = true) (hlen : Nat.ble us.length T0.1.length = true) (hc : Q.2.2.1.all (fun T => decide (T.2.2.2 = [some (.inl (.int c))])) = true)
    (hws : t_R h us 0 T0.1 T0.2.1 ws) (hrel : ∀ q ∈ T0.2.2.1, ∃ x y : Int32, ws[q.1]? = some (.int x) ∧ ws[q.2.1]? = some (.int y) ∧ x.toInt - y.toInt ≤ q.2.2)
    (hk : ∀ (H : aH), t_I H → z_frm z_D Q.2.2.2 h H → K0 (some (.int c)) H C S) : aOK s_P X 200 M 0 (a_ent (.ref 2 :: us.map .int) M.2.2.1) [] h C S K0 := by
  refine n_ctx hs hM hd hQ hI h3 hn h4 h5 hlen hws hrel (fun T hT ρX x H hI' htm _ => ?_)
  have e := of_decide_eq_true (List.all_eq_true.mp hc T hT)
  obtain rfl := n_c htm e
  exact hk H hI' htm.2.2.2.2.2.1
end NC
