/-! ===== v2: the resolver of calls ===== -/
def z_cst1 (w : Value) : Bool := match w with
  | .int _ => true
  | .long _ => true
  | _ => false
def z_ans (n : Nat) (T : zT) : Option (Option zO) := match T.2.2.2 with
  | [] => some none
  | [some (.inl w)] => if z_cst1 w then some (some (.inl w)) else none
  | [some (.inr (t, m))] => if m = 0 ∧ t < T.2.1.length then some (some (.inr (n + t, 0))) else none
  | _ => none
def z_out (ms : List Nat) (mp : List zO) (ov : zV) (f : zF) (n : Nat) (T : zT) : Option zA := match z_ans n T with
  | some v => some (v, z_tov n T.1 ++ ov.filter (fun q => !ms.elem q.1), z_fX mp f n T, n + T.2.1.length)
  | none => none
def z_outs (ms : List Nat) (mp : List zO) (ov : zV) (f : zF) (n : Nat) : List zT → Option (List zA)
  | [] => some []
  | T :: r => match z_out ms mp ov f n T, z_outs ms mp ov f n r with
    | some a, some l => some (a :: l)
    | _, _ => none
def z_callq (D : Nat → Option zC) (ms : List Nat) (P : List aM) (Q : zQ) (d j : Nat) (as : List zO) (ov : zV) (f : zF) (nx : Nat) : Option (List zA) := if Q.1.1 = j ∧ Q.1.2.1 ≤ d ∧ Q.2.2.2.all (fun x => ms.elem x) = true then (match Q.2.1, P[j]? with
  | (0, T0, _) :: _, some M => match z_nms D T0.1 (ov, f, nx) with
    | some (ov', f', nx') => match z_match D f' ov' (z_ent f as M.2.2.1) [] T0 with
      | some mp => z_outs Q.2.2.2 mp ov' f' nx' Q.2.2.1
      | none => none
    | none => none
  | _, _ => none) else none
def z_clq (D : Nat → Option zC) (ms : List Nat) (P : List aM) (Qs : List zQ) : zCl := fun d j as ov f nx => match Qs with
  | [] => none
  | Q :: r => match z_callq D ms P Q d j as ov f nx with
    | some l => some l
    | none => z_clq D ms P r d j as ov f nx
section ZCQ
variable {J : aH → Prop} {D : Nat → Option zC} {P : List aM} {X : aX}
theorem z_outs_in {ms : List Nat} {mp : List zO} {ov : zV} {f : zF} {n : Nat} {Ts : List zT} : ∀ {outs : List zA}, z_outs ms mp ov f n Ts = some outs → ∀ T ∈ Ts, ∃ a ∈ outs, z_out ms mp ov f n T = some a := by
  induction Ts with
  | nil => intro outs _ T hT; cases hT
  | cons T0 r ih =>
    intro outs h T hT
    unfold z_outs at h
    split at h
    · rename_i a l h1 h2
      cases h
      rcases List.mem_cons.mp hT with rfl | hT
      · exact ⟨a, List.mem_cons_self, h1⟩
      · obtain ⟨b, hb, e⟩ := ih h2 T hT
        exact ⟨b, List.mem_cons_of_mem _ hb, e⟩
    · cases h
def z_sh (n : Nat) (x : zO) : zO := match x with
  | .inl w => .inl w
  | .inr (t, m) => .inr (n + t, m)
theorem z_tov_sh {src : List (Nat × Nat)} {n key : Nat} : ∀ {m : Nat}, (z_tov (n + m) src).lookup key = ((z_tov m src).lookup key).map (z_sh n) := by
  induction src with
  | nil => intro m; rfl
  | cons s r ih =>
    intro m
    obtain ⟨t, k0⟩ := s
    unfold z_tov
    split
    · rw [List.lookup_cons, List.lookup_cons]
      split
      · rfl
      · exact ih (m := m + 1)
    · exact ih (m := m + 1)
theorem z_v_sh {ρ ρX : zR} (x : zO) : z_v (ρ ++ ρX) (z_sh ρ.length x) = z_v ρX x := by
  cases x with
  | inl w => rfl
  | inr q =>
    obtain ⟨t, m⟩ := q
    unfold z_sh z_v
    dsimp only
    rw [z_at_r]
theorem z_lk_app {α : Type} {l1 l2 : List (Nat × α)} {k : Nat} : (l1 ++ l2).lookup k = match l1.lookup k with
    | some x => some x
    | none => l2.lookup k := by
  induction l1 with
  | nil => rfl
  | cons q r ih =>
    obtain ⟨n, x⟩ := q
    rw [List.cons_append, List.lookup_cons, List.lookup_cons]
    split
    · rfl
    · exact ih
theorem z_lk_flt {α : Type} {l : List (Nat × α)} {p : Nat → Bool} {k : Nat} {x : α} (h : (l.filter (fun q => p q.1)).lookup k = some x) : p k = true ∧ l.lookup k = some x := by
  induction l with
  | nil => cases h
  | cons q r ih =>
    obtain ⟨n, y⟩ := q
    rw [List.filter_cons] at h
    split at h
    · rename_i hp
      rw [List.lookup_cons] at h ⊢
      split at h
      · rename_i e
        cases h
        rw [beq_iff_eq] at e
        subst e
        exact ⟨hp, rfl⟩
      · exact ih h
    · rename_i hp
      obtain ⟨g1, g2⟩ := ih h
      refine ⟨g1, ?_⟩
      rw [List.lookup_cons]
      split
      · rename_i e
        rw [beq_iff_eq] at e
        subst e
        exact absurd g1 hp
      · exact g2
theorem z_callq_ok (hlen : z_len0 J D) {Q : zQ} (hQ : z_spec J D P X Q) {ms : List Nat} {H0 H : aH} {C S d j : Nat} {as : List zO} {ov : zV} {f : zF} {ρ : zR} {outs : List zA} {M : aM} (h : z_callq D ms P Q d j as ov f ρ.length = some outs) (hM : P[j]? = some M) (K : Option Value → aH → Nat → Nat → Prop) (hs : z_sat ρ f) (hna : z_nn ρ as) (hty : ∀ e ∈ as, z_ty f e ≠ 0) (hv : z_ovk ρ ov) (hr : z_hr J D ρ ov H) (hf : z_frm D ms H0 H)
    (hout : ∀ out ∈ outs, ∀ (l : zR) (H' : aH), (ρ ++ l).length = out.2.2.2 → z_sat (ρ ++ l) out.2.2.1 → (∀ o, out.1 = some o → z_v (ρ ++ l) o ≠ .null) → (∀ n, out.1.map (z_v (ρ ++ l)) ≠ some (.retAddr n)) → z_ovk (ρ ++ l) out.2.1 → z_hr J D (ρ ++ l) out.2.1 H' → z_frm D ms H0 H' → K (out.1.map (z_v (ρ ++ l))) H' C S) : aOK P X d M 0 (a_ent (z_st ρ as) M.2.2.1) [] H C S K := by
  unfold z_callq at h
  split at h
  · rename_i hc
    obtain ⟨rfl, hd, hsub⟩ := hc
    have hsub' : ∀ x ∈ Q.2.2.2, x ∈ ms := fun x hx => List.elem_iff.mp (List.all_eq_true.mp hsub x hx)
    split at h
    · rename_i T0 m0 rest M' hcut hM'
      rw [hM] at hM'
      cases hM'
      split at h
      · rename_i ov' f' nx' hnm
        obtain ⟨l1, e1, e2, e3, e4⟩ := z_nms_ok hlen hs hv hr hnm
        dsimp only at e1 e2 e3 e4
        split at h
        · rename_i mp hmp
          have hnl0 : z_nl ρ (z_ent f as M.2.2.1) := fun o ho => hna o (z_ent_in ho)
          have hnl : z_nl (ρ ++ l1) (z_ent f as M.2.2.1) := z_nl_app hnl0
          have htm := z_match_ok (ms := Q.2.2.2) (H0 := H) hlen e2 hnl e3 e4 z_frm_rf hmp
          rw [z_ls_app hnl0, ← z_ent_ok hs hty] at htm
          obtain ⟨m1, m2⟩ := z_match_s hmp
          obtain ⟨b1, b2⟩ := z_bs_ok e2 m2
          refine aOK_deep hd (hQ M hM C S _ H _ T0 m0 (by rw [hcut]; exact List.mem_cons_self) htm K (fun T hT ρX H' v hX hg hnr => ?_))
          obtain ⟨out, ho1, ho2⟩ := z_outs_in h T hT
          obtain ⟨x1, x2, x3, x4, x5, x6, x7⟩ := hX
          unfold z_out at ho2
          split at ho2
          · rename_i v0 hans
            cases ho2
            subst e1
            have hval : v = v0.map (z_v ((ρ ++ l1) ++ ρX)) ∧ ∀ o, v0 = some o → z_v ((ρ ++ l1) ++ ρX) o ≠ .null := by
              unfold z_ans at hans
              split at hans
              · rename_i hls
                cases hans
                rw [hls] at x7
                have := x7.1
                cases v with
                | none => exact ⟨rfl, fun o ho => by cases ho⟩
                | some w => cases this
              · rename_i w hls
                split at hans
                · rename_i hw
                  cases hans
                  rw [hls] at x7
                  have h2 := x7.2 0 w rfl
                  cases v with
                  | none => cases h2
                  | some w2 =>
                    have h3 : some (some w2) = some (some w) := h2
                    cases h3
                    refine ⟨rfl, fun o ho => ?_⟩
                    cases ho
                    show w ≠ .null
                    rintro rfl
                    cases hw
                · cases hans
              · rename_i t m hls
                split at hans
                · rename_i hc2
                  obtain ⟨rfl, htl⟩ := hc2
                  cases hans
                  rw [hls] at x7 x3
                  have h2 := x7.2 0 (z_v ρX (.inr (t, 0))) rfl
                  have e5 : z_v ((ρ ++ l1) ++ ρX) (.inr ((ρ ++ l1).length + t, 0)) = z_v ρX (.inr (t, 0)) := z_v_sh (.inr (t, 0))
                  cases v with
                  | none => cases h2
                  | some w2 =>
                    have h3 : some (some w2) = some (some (z_v ρX (.inr (t, 0)))) := h2
                    cases h3
                    refine ⟨by rw [Option.map_some, e5], fun o ho => ?_⟩
                    cases ho
                    rw [e5]
                    exact x3 _ List.mem_cons_self
                · cases hans
              · cases hans
            obtain ⟨hv1, hv2⟩ := hval
            have happ : ρ ++ (l1 ++ ρX) = (ρ ++ l1) ++ ρX := (List.append_assoc _ _ _).symm
            have hfin := hout _ ho1 (l1 ++ ρX) H'
            rw [happ] at hfin
            rw [hv1]
            refine hfin ?_ ?_ hv2 (by rw [← hv1]; exact hnr) ?_ ?_ ?_
            · rw [List.length_append, x1]
            · refine z_fX_ok e2 x2 (fun i g o hi ho => ?_)
              rw [z_at_r, hg i g hi, List.getElem?_map, ho, Option.map_some]
              have hlt := (List.getElem?_eq_some_iff.mp ho).1
              obtain ⟨o', c1, c2⟩ := b2 g _ (List.getElem?_eq_getElem (by omega))
              rw [ho] at c1
              cases c1
              rw [z_v_app (z_in_nn c2)]
            · intro q hq
              rcases List.mem_append.mp hq with hq | hq
              · obtain ⟨t, g1, g2⟩ := z_tov_in hq
                rw [g2]
                have e5 : z_v ((ρ ++ l1) ++ ρX) (.inr ((ρ ++ l1).length + t, 0)) = z_v ρX (.inr (t, 0)) := z_v_sh (.inr (t, 0))
                rw [e5]
                have hmem : ∀ (src : List (Nat × Nat)) (n t key : Nat), src[t]? = some (1, key) → (key, (.inr (n + t, 0) : zO)) ∈ z_tov n src := by
                  intro src
                  induction src with
                  | nil => intro n t key h; cases h
                  | cons s r ih =>
                    intro n t key h
                    obtain ⟨k, k0⟩ := s
                    unfold z_tov
                    cases t with
                    | zero =>
                      cases h
                      rw [if_pos rfl]
                      exact List.mem_cons_self
                    | succ t =>
                      have := ih (n + 1) t key h
                      rw [show n + 1 + t = n + (t + 1) by omega] at this
                      split
                      · exact List.mem_cons_of_mem _ this
                      · exact this
                have := x4 _ (hmem T.1 0 t _ g1)
                rw [Nat.zero_add] at this
                exact this
              · exact z_ovk_app e3 q (List.mem_filter.mp hq).1
            · refine ⟨?_, x5.2⟩
              intro o c hc
              obtain ⟨e, h1, h2⟩ := x5.1 o c hc
              refine ⟨e, h1, ?_⟩
              unfold z_cell at h2 ⊢
              split
              · exact h2
              · rename_i ci ks
                obtain ⟨vs, d1, d2, d3⟩ := h2
                refine ⟨vs, d1, d2, fun k dd hk => ?_⟩
                obtain ⟨w, w1, w2, w3⟩ := d3 k dd hk
                have hsh := z_tov_sh (src := T.1) (n := (ρ ++ l1).length) (key := o * 128 + k) (m := 0)
                rw [Nat.add_zero] at hsh
                refine ⟨w, w1, fun x hx => ?_, fun hno => ?_⟩
                · rw [z_lk_app, hsh] at hx
                  cases hz : (z_tov 0 T.1).lookup (o * 128 + k) with
                  | some x0 =>
                    rw [hz] at hx
                    cases hx
                    rw [z_v_sh]
                    exact w2 x0 hz
                  | none =>
                    rw [hz] at hx
                    dsimp only [Option.map_none] at hx
                    obtain ⟨p1, p2⟩ := z_lk_flt (p := fun y => !Q.2.2.2.elem y) hx
                    obtain ⟨e0, k1, k2⟩ := e4.1 o _ hc
                    obtain ⟨vs0, rfl, -, k3⟩ := k2
                    obtain ⟨w0, y1, y2, -⟩ := k3 k dd hk
                    have hnm2 : o * 128 + k ∉ Q.2.2.2 := fun hin => by
                      rw [List.elem_iff.mpr hin] at p1
                      cases p1
                    obtain ⟨vs1, z1, z2⟩ := x6.1 o ci ks vs0 hc k1
                    rw [h1, d1] at z1
                    cases z1
                    have := z2 k (List.getElem?_eq_some_iff.mp hk).1 hnm2
                    rw [w1, y1] at this
                    cases this
                    rw [z_v_app (e3 _ (z_lk_in p2))]
                    exact y2 x p2
                · rw [z_lk_app, hsh] at hno
                  cases hz : (z_tov 0 T.1).lookup (o * 128 + k) with
                  | some x0 => rw [hz] at hno; cases hno
                  | none => exact w3 hz
              · exact h2
            · exact z_frm_tr hf (z_frm_mono hsub' x6)
          · cases ho2
        · cases h
      · cases h
    · cases h
  · cases h
/-- the resolver is worth what the contexts promise -/
theorem z_clq_ok (hlen : z_len0 J D) {Qs : List zQ} (hQs : ∀ Q ∈ Qs, z_spec J D P X Q) (ms : List Nat) (H0 : aH) (C S : Nat) : z_clok J D ms P X H0 C S (z_clq D ms P Qs) := by
  intro d j as ov f outs M ρ h hM H K hs hna hty hv hr hf hout
  induction Qs with
  | nil => cases h
  | cons Q r ih =>
    unfold z_clq at h
    split at h
    · rename_i l hl
      cases h
      exact z_callq_ok hlen (hQs Q List.mem_cons_self) hl hM K hs hna hty hv hr hf hout
    · exact ih (fun Q hQ => hQs Q (List.mem_cons_of_mem _ hQ)) h
/-- contexts in an order, each checked by those ahead of it -/
def z_all (D : Nat → Option zC) (P : List aM) (n : Nat) : List zQ → List zQ → Bool
  | _, [] => true
  | pre, Q :: r => z_chk D P (z_clq D Q.2.2.2 P pre) n Q && z_all D P n (Q :: pre) r
theorem z_all_ok (hlen : z_len0 J D) {n : Nat} : ∀ {Qs pre : List zQ}, (∀ Q ∈ pre, z_spec J D P X Q) → z_all D P n pre Qs = true → ∀ Q ∈ Qs, z_spec J D P X Q
  | [], _, _, _, Q, hQ => by cases hQ
  | Q0 :: r, pre, hp, h, Q, hQ => by
    unfold z_all at h
    simp only [Bool.and_eq_true] at h
    have h0 : z_spec J D P X Q0 := z_ctx_ok hlen (fun H0 C S => z_clq_ok hlen hp _ H0 C S) h.1
    rcases List.mem_cons.mp hQ with rfl | hQ
    · exact h0
    · refine z_all_ok hlen (pre := Q0 :: pre) (fun Q' hQ' => ?_) h.2 Q hQ
      rcases List.mem_cons.mp hQ' with rfl | hQ'
      · exact h0
      · exact hp Q' hQ'
end ZCQ
