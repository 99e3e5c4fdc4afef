/-! ===== v5: what class and reference hold alike ===== -/
/-- fields of the class; the reference's beside them; rows of both; what is told of the rows -/
def nC : List Nat := [16, 128, 129, 1537, 17152, 17408, 17920, 18432]
def nM : List (Nat × Nat) := [(16, 19625), (128, 19591), (1537, 19612), (17152, 19643)]
def nCA : List Nat := []
def nMA : List Nat := [188]
def n_up (v : Nat → Int32) (k : Nat) (x : Int32) : Nat → Int32 := fun k' => if k' = k then x else v k'
def n_cA (_ : aH) (_ : Nat → Int32) : Prop := True
def n_mK (h : aH) (v : Nat → Int32) : Prop := w_a h 188 = some (2, .inl [v 17408, v 17920, v 18432])
def n_mA (h : aH) (v : Nat → Int32) : Prop := n_mK h v
/-- fields on which the rows' words do not rest -/
def n_fr0 (k : Nat) : Bool := !([17408, 17920, 18432] : List Nat).elem k
theorem n_cA_S {h H : aH} {v : Nat → Int32} (_ : ∀ o ∈ nCA, w_a H o = w_a h o) (_ : n_cA h v) : n_cA H v := trivial
theorem n_mA_S {h H : aH} {v : Nat → Int32} (s : ∀ o ∈ nMA, w_a H o = w_a h o) (q : n_mA h v) : n_mA H v := (s 188 (by decide)).trans q
theorem n_cA_up {h : aH} {v : Nat → Int32} {k : Nat} {x : Int32} (_ : n_fr0 k = true) (_ : n_cA h v) : n_cA h (n_up v k x) := trivial
theorem n_mK_up {h : aH} {v : Nat → Int32} {k : Nat} {x : Int32} (hk : n_fr0 k = true) (q : n_mK h v) : n_mK h (n_up v k x) := by
  have z : ∀ k' ∈ ([17408, 17920, 18432] : List Nat), n_up v k x k' = v k' := by
    intro k' hk'
    unfold n_up
    rw [if_neg (fun e => ?_)]
    subst e
    unfold n_fr0 at hk
    rw [List.elem_iff.mpr hk'] at hk
    cases hk
  unfold n_mK
  rw [z 17408 (by decide), z 17920 (by decide), z 18432 (by decide)]
  exact q
theorem n_mA_up {h : aH} {v : Nat → Int32} {k : Nat} {x : Int32} (hk : n_fr0 k = true) (q : n_mA h v) : n_mA h (n_up v k x) := n_mK_up hk q
theorem n_mA_K {h : aH} {v : Nat → Int32} (q : n_mA h v) : n_mK h v := q
def n_cV (h : aH) (v : Nat → Int32) : Prop := (∀ k ∈ nC, w_f h k = some (.int (v k))) ∧ n_cA h v
def n_mV (h : aH) (v : Nat → Int32) : Prop := (∀ p ∈ nM, w_f h p.2 = some (.int (v p.1))) ∧ n_mA h v ∧ w_f h 19600 = some (.long (v 129).toInt64)
def n_I (h : aH) : Prop := t_I h ∧ ∃ v, n_cV h v ∧ n_mV h v
def n_cS (h H : aH) : Prop := (∀ k ∈ nC, w_f H k = w_f h k) ∧ ∀ o ∈ nCA, w_a H o = w_a h o
def n_mS (h H : aH) : Prop := (∀ p ∈ nM, w_f H p.2 = w_f h p.2) ∧ (∀ o ∈ nMA, w_a H o = w_a h o) ∧ w_f H 19600 = w_f h 19600
section NA
variable {h H : aH} {v : Nat → Int32} {X : aX}
theorem n_cS_V (s : n_cS h H) (q : n_cV h v) : n_cV H v := ⟨fun k hk => (s.1 k hk).trans (q.1 k hk), n_cA_S s.2 q.2⟩
theorem n_mS_V (s : n_mS h H) (q : n_mV h v) : n_mV H v := ⟨fun p hp => (s.1 p hp).trans (q.1 p hp), n_mA_S s.2.1 q.2.1, s.2.2.trans q.2.2⟩
theorem n_same_I (s : n_cS h H) (s' : n_mS h H) (hI : t_I H) (q : n_I h) : n_I H := by
  obtain ⟨-, v, q1, q2⟩ := q
  exact ⟨hI, v, n_cS_V s q1, n_mS_V s' q2⟩
theorem n_dk {ms : List Nat} {key : Nat} (hr : w_hr z_D h) (hf : z_frm z_D ms h H) (hd : (t_dk key).isSome = true) (hm : ms.elem key = false) : w_f H key = w_f h key := by
  cases hdk : t_dk key with
  | none => rw [hdk] at hd; cases hd
  | some d =>
    unfold t_dk at hdk
    split at hdk
    · rename_i ci ks hD
      split at hdk
      · rename_i d' hd'
        have hk : key % 128 < ks.length := (List.getElem?_eq_some_iff.mp hd').1
        have := n_frm (o := key / 128) (k := key % 128) hr hf hD (by rw [Nat.blt_eq]; exact hk) (Nat.mod_lt _ (by decide)) (by rw [show key / 128 * 128 + key % 128 = key by omega]; exact hm)
        rw [show key / 128 * 128 + key % 128 = key by omega] at this
        exact this
      · cases hdk
    · cases hdk
def n_isA (o : Nat) : Bool := match z_D o with
  | some (.inl _) => true
  | _ => false
theorem n_da {ms : List Nat} {o : Nat} (hf : z_frm z_D ms h H) (ho : n_isA o = true) (hm : ms.elem (o * 128) = false) : w_a H o = w_a h o := by
  unfold n_isA at ho
  split at ho
  · rename_i a hD
    have := hf.2 o _ hD (fun q => by rw [List.elem_iff.mpr q] at hm; cases hm)
    unfold w_a
    rw [this]
  · cases ho
theorem n_nel {l : List Nat} {a : Nat} (h : l.elem a = false) : a ∉ l := fun q => by
  rw [List.elem_iff.mpr q] at h
  cases h
/-- what a frame of the class leaves: all but ex (rows by their cell times 128) -/
def n_mk (ms ex : List Nat) : Bool := (nC.all (fun k => ex.elem k || (t_dk k).isSome && !ms.elem k) && nCA.all (fun o => ex.elem (o * 128) || n_isA o && !ms.elem (o * 128))) && (nM.all (fun p => (t_dk p.2).isSome && !ms.elem p.2) && (nMA.all (fun o => n_isA o && !ms.elem (o * 128)) && ((t_dk 19600).isSome && !ms.elem 19600)))
theorem n_mk_c {ms ex : List Nat} (hr : w_hr z_D h) (hf : z_frm z_D ms h H) (hm : n_mk ms ex = true) : ∀ k ∈ nC, k ∉ ex → w_f H k = w_f h k := by
  intro k hk hx
  unfold n_mk at hm
  rw [Bool.and_eq_true, Bool.and_eq_true] at hm
  have := List.all_eq_true.mp hm.1.1 k hk
  simp only [Bool.or_eq_true, Bool.and_eq_true, Bool.not_eq_true'] at this
  rcases this with q | ⟨q1, q2⟩
  · exact absurd (List.elem_iff.mp q) hx
  · exact n_dk hr hf q1 q2
theorem n_mk_a {ms ex : List Nat} (hf : z_frm z_D ms h H) (hm : n_mk ms ex = true) : ∀ o ∈ nCA, o * 128 ∉ ex → w_a H o = w_a h o := by
  intro o ho hx
  unfold n_mk at hm
  rw [Bool.and_eq_true, Bool.and_eq_true] at hm
  have := List.all_eq_true.mp hm.1.2 o ho
  simp only [Bool.or_eq_true, Bool.and_eq_true, Bool.not_eq_true'] at this
  rcases this with q | ⟨q1, q2⟩
  · exact absurd (List.elem_iff.mp q) hx
  · exact n_da hf q1 q2
theorem n_mk_m {ms ex : List Nat} (hr : w_hr z_D h) (hf : z_frm z_D ms h H) (hm : n_mk ms ex = true) : n_mS h H := by
  unfold n_mk at hm
  rw [Bool.and_eq_true] at hm
  have hm := hm.2
  rw [Bool.and_eq_true, Bool.and_eq_true] at hm
  refine ⟨fun p hp => ?_, fun o ho => ?_, ?_⟩
  · have := List.all_eq_true.mp hm.1 p hp
    simp only [Bool.and_eq_true, Bool.not_eq_true'] at this
    exact n_dk hr hf this.1 this.2
  · have := List.all_eq_true.mp hm.2.1 o ho
    simp only [Bool.and_eq_true, Bool.not_eq_true'] at this
    exact n_da hf this.1 this.2
  · have := hm.2.2
    simp only [Bool.and_eq_true, Bool.not_eq_true'] at this
    exact n_dk hr hf this.1 this.2
theorem n_sC {ms : List Nat} (hr : w_hr z_D h) (hf : z_frm z_D ms h H) (hm : n_mk ms [] = true) : n_cS h H := ⟨fun k hk => n_mk_c hr hf hm k hk (fun q => by cases q), fun o ho => n_mk_a hf hm o ho (fun q => by cases q)⟩
/-- what a frame of the reference leaves: all of the class; of the reference all but ex -/
def n_fk (fs as ex : List Nat) : Bool := (nC.all (fun k => !fs.elem k) && nCA.all (fun o => !as.elem o)) && (nM.all (fun p => ex.elem p.2 || !fs.elem p.2) && (nMA.all (fun o => ex.elem o || !as.elem o) && (ex.elem 19600 || !fs.elem 19600)))
theorem n_fk_c {fs as ex : List Nat} (e : y_fr h H fs as) (hm : n_fk fs as ex = true) : n_cS h H := by
  unfold n_fk at hm
  rw [Bool.and_eq_true, Bool.and_eq_true] at hm
  refine ⟨fun k hk => e.2.1 k (n_nel ?_), fun o ho => e.2.2 o (n_nel ?_)⟩
  · have := List.all_eq_true.mp hm.1.1 k hk
    rw [Bool.not_eq_true'] at this
    exact this
  · have := List.all_eq_true.mp hm.1.2 o ho
    rw [Bool.not_eq_true'] at this
    exact this
theorem n_fk_m {fs as : List Nat} (e : y_fr h H fs as) (hm : n_fk fs as [] = true) : n_mS h H := by
  unfold n_fk at hm
  rw [Bool.and_eq_true] at hm
  have hm := hm.2
  rw [Bool.and_eq_true, Bool.and_eq_true] at hm
  refine ⟨fun p hp => ?_, fun o ho => ?_, ?_⟩
  · have := List.all_eq_true.mp hm.1 p hp
    rw [Bool.or_eq_true] at this
    rcases this with q | q
    · cases q
    · rw [Bool.not_eq_true'] at q
      exact e.2.1 _ (n_nel q)
  · have := List.all_eq_true.mp hm.2.1 o ho
    rw [Bool.or_eq_true] at this
    rcases this with q | q
    · cases q
    · rw [Bool.not_eq_true'] at q
      exact e.2.2 _ (n_nel q)
  · have := hm.2.2
    rw [Bool.or_eq_true] at this
    rcases this with q | q
    · cases q
    · rw [Bool.not_eq_true'] at q
      exact e.2.1 _ (n_nel q)
/-- a method that leaves all of it -/
def n_told (X : aX) (d : Nat) (M : aM) (r n : Nat) (b : Bool) : Prop := ∀ (us : List Int32) (h : aH) (C S : Nat) (K0 : Option Value → aH → Nat → Nat → Prop), us.length = n → (b = true → ∀ u ∈ us, 0 ≤ u.toInt ∧ u.toInt ≤ 1) → t_I h →
  (∀ (x : Int32) (H : aH), t_I H → n_cS h H → n_mS h H → K0 (some (.int x)) H C S) → aOK s_P X d M 0 (a_ent (.ref r :: us.map .int) M.2.2.1) [] h C S K0
def n_toldL (X : aX) (d : Nat) (M : aM) (r n : Nat) (b : Bool) : Prop := ∀ (us : List Int32) (h : aH) (C S : Nat) (K0 : Option Value → aH → Nat → Nat → Prop), us.length = n → (b = true → ∀ u ∈ us, 0 ≤ u.toInt ∧ u.toInt ≤ 1) → t_I h →
  (∀ (x : Int64) (H : aH), t_I H → n_cS h H → n_mS h H → K0 (some (.long x)) H C S) → aOK s_P X d M 0 (a_ent (.ref r :: us.map .int) M.2.2.1) [] h C S K0
theorem n_ctx0 {Q : zQ} {M : aM} {n m : Nat} {b : Bool} {T0 : zT} {m0 : zMs} {cs : List zCut} (hs : z_spec y_JA z_D s_P X Q) (hM : s_P[Q.1.1]? = some M) (hd : Nat.ble Q.1.2.1 200 = true) (hQ : Q.2.1 = (0, T0, m0) :: cs) (h1 : t_s n b 0 T0.1 T0.2.1 = true) (h2 : T0.2.2.1.all (t_r T0.1) = true)
    (h3 : T0.2.2.2 = some (.inl (.ref 2)) :: ((List.range n).map (fun j => some (.inr (j, 0))) ++ List.replicate m none)) (hn : M.2.2.1 = n + 1 + m) (h4 : Q.2.2.1.all t_x = true) (h5 : (Q.2.2.2.all (fun k => !decide (k / 128 = 134)) || Q.2.2.1.all t_rx) = true) (h6 : n_mk Q.2.2.2 [] = true) : n_told X 200 M 2 n b := by
  intro us h C S K0 hl hb hI hk
  subst hl
  obtain ⟨hr, hJ, hday⟩ := hI
  obtain ⟨ρ, hρ⟩ := t_entry (ms := Q.2.2.2) y_JA_x hb hr hJ hday h1 h2 h3
  rw [Nat.ble_eq] at hd
  rw [hn]
  refine aOK_deep hd (hs M hM C S ρ h _ T0 m0 (by rw [hQ]; exact List.mem_cons_self) hρ K0 (fun T hT ρX H' v htm _ _ => ?_))
  obtain ⟨r1, r2, x, rfl⟩ := t_exit htm (List.all_eq_true.mp h4 T hT)
  have hf := htm.2.2.2.2.2.1
  refine hk x H' ⟨r1, r2, ?_⟩ (n_sC hr hf h6) (n_mk_m hr hf h6)
  rw [Bool.or_eq_true] at h5
  rcases h5 with q | q
  · exact t_day_frm hr hf q hday
  · exact t_day_rx htm (List.all_eq_true.mp q T hT)
/-- the text's length is 0 at an exit -/
def n_zx (T : zT) : Bool := match (z_tov 0 T.1).lookup 1537 with
  | some (.inr (j, 0)) => decide (T.2.1[j]? = some (1, 0, 0))
  | _ => false
theorem n_zx_ok {J : aH → Prop} {ρ : zR} {H0 : aH} {ms : List Nat} {ls : aL} {T : zT} (htm : z_tm J z_D ms ρ H0 H ls T) (hx : n_zx T = true) : w_f H 1537 = some (.int (Int32.ofInt 0)) := by
  unfold n_zx at hx
  split at hx
  · rename_i j hl
    obtain ⟨y, -, g1, y0, y1⟩ := n_f (o := 12) (k := 1) htm rfl rfl (by decide) hl (of_decide_eq_true hx)
    have ey : y = Int32.ofInt 0 := Int32.toInt_inj.mp (by rw [show (Int32.ofInt 0).toInt = 0 by decide]; omega)
    rw [ey] at g1
    exact g1
  · cases hx
theorem n_ctxz {Q : zQ} {M : aM} {n m : Nat} {b : Bool} {T0 : zT} {m0 : zMs} {cs : List zCut} (hs : z_spec y_JA z_D s_P X Q) (hM : s_P[Q.1.1]? = some M) (hd : Nat.ble Q.1.2.1 200 = true) (hQ : Q.2.1 = (0, T0, m0) :: cs) (h1 : t_s n b 0 T0.1 T0.2.1 = true) (h2 : T0.2.2.1.all (t_r T0.1) = true)
    (h3 : T0.2.2.2 = some (.inl (.ref 2)) :: ((List.range n).map (fun j => some (.inr (j, 0))) ++ List.replicate m none)) (hn : M.2.2.1 = n + 1 + m) (h4 : Q.2.2.1.all t_x = true) (h5 : (Q.2.2.2.all (fun k => !decide (k / 128 = 134)) || Q.2.2.1.all t_rx) = true) (h6 : n_mk Q.2.2.2 [1537] = true) (h7 : Q.2.2.1.all n_zx = true)
    (us : List Int32) (h : aH) (C S : Nat) (K0 : Option Value → aH → Nat → Nat → Prop) (hl : us.length = n) (hb : b = true → ∀ u ∈ us, 0 ≤ u.toInt ∧ u.toInt ≤ 1) (hI : t_I h)
    (hk : ∀ (x : Int32) (H : aH), t_I H → (∀ k ∈ nC, k ∉ [1537] → w_f H k = w_f h k) → (∀ o ∈ nCA, o * 128 ∉ [1537] → w_a H o = w_a h o) → n_mS h H → w_f H 1537 = some (.int (Int32.ofInt 0)) → K0 (some (.int x)) H C S) : aOK s_P X 200 M 0 (a_ent (.ref 2 :: us.map .int) M.2.2.1) [] h C S K0 := by
  subst hl
  obtain ⟨hr, hJ, hday⟩ := hI
  obtain ⟨ρ, hρ⟩ := t_entry (ms := Q.2.2.2) y_JA_x hb hr hJ hday h1 h2 h3
  rw [Nat.ble_eq] at hd
  rw [hn]
  refine aOK_deep hd (hs M hM C S ρ h _ T0 m0 (by rw [hQ]; exact List.mem_cons_self) hρ K0 (fun T hT ρX H' v htm _ _ => ?_))
  obtain ⟨r1, r2, x, rfl⟩ := t_exit htm (List.all_eq_true.mp h4 T hT)
  have hf := htm.2.2.2.2.2.1
  refine hk x H' ⟨r1, r2, ?_⟩ (n_mk_c hr hf h6) (n_mk_a hf h6) (n_mk_m hr hf h6) (n_zx_ok htm (List.all_eq_true.mp h7 T hT))
  rw [Bool.or_eq_true] at h5
  rcases h5 with q | q
  · exact t_day_frm hr hf q hday
  · exact t_day_rx htm (List.all_eq_true.mp q T hT)
end NA
