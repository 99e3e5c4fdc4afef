/-! ===== v2: configurations, steps, runs between cuts ===== -/
/-- a frame that waits -/
abbrev zFr : Type := aM × Nat × zL × List zO
/-- depth, method, place, locals, stack, frames, fields, facts, names used -/
abbrev zS : Type := Nat × aM × Nat × zL × List zO × List zFr × zV × zF × Nat
/-- how a call that is told comes back: answer, fields, facts, names -/
abbrev zA : Type := Option zO × zV × zF × Nat
abbrev zCl : Type := Nat → Nat → List zO → zV → zF → Nat → Option (List zA)
def z_rel (J : aH → Prop) (D : Nat → Option zC) (ms : List Nat) (ρ : zR) (H0 H : aH) (c : zS) : Prop := match c with
  | (_, _, _, ls, st, fs, ov, f, nx) => ρ.length = nx ∧ z_sat ρ f ∧ z_nl ρ ls ∧ z_nn ρ st ∧ (∀ q ∈ fs, z_nl ρ q.2.2.1 ∧ z_nn ρ q.2.2.2) ∧ z_ovk ρ ov ∧ z_hr J D ρ ov H ∧ z_frm D ms H0 H
def z_KF (P : List aM) (X : aX) (K0 : Option Value → aH → Nat → Nat → Prop) (ρ : zR) : Nat → List zFr → Option Value → aH → Nat → Nat → Prop
  | _, [] => K0
  | d, (M, pc, ls, rest) :: fs => fun v h C S => (∀ n, v ≠ some (.retAddr n)) ∧ aOK P X (d + 1) M pc (z_ls ρ ls) (v.toList ++ z_st ρ rest) h C S (z_KF P X K0 ρ (d + 1) fs)
theorem z_KF_app {P : List aM} {X : aX} {K0 : Option Value → aH → Nat → Nat → Prop} {ρ l : zR} : ∀ {fs : List zFr} {d : Nat}, (∀ q ∈ fs, z_nl ρ q.2.2.1 ∧ z_nn ρ q.2.2.2) → z_KF P X K0 (ρ ++ l) d fs = z_KF P X K0 ρ d fs
  | [], _, _ => rfl
  | (M, pc, ls, rest) :: fs, d, h => by
    have h1 := h _ List.mem_cons_self
    unfold z_KF
    rw [z_ls_app h1.1, z_st_app h1.2, z_KF_app (fun q hq => h q (List.mem_cons_of_mem _ hq))]
/-- what a configuration is worth, from a start with names ρ0 and heap H0 -/
def z_mean (J : aH → Prop) (D : Nat → Option zC) (ms : List Nat) (P : List aM) (X : aX) (ρ0 : zR) (H0 : aH) (C S : Nat) (K0 : Option Value → aH → Nat → Nat → Prop) (c : zS) : Prop := ∀ (l : zR) (H : aH), z_rel J D ms (ρ0 ++ l) H0 H c → aOK P X c.1 c.2.1 c.2.2.1 (z_ls (ρ0 ++ l) c.2.2.2.1) (z_st (ρ0 ++ l) c.2.2.2.2.1) H C S (z_KF P X K0 (ρ0 ++ l) c.1 c.2.2.2.2.2.1)
/-- what a call that is told must be worth -/
def z_clok (J : aH → Prop) (D : Nat → Option zC) (ms : List Nat) (P : List aM) (X : aX) (H0 : aH) (C S : Nat) (cl : zCl) : Prop := ∀ d j as ov f outs M, ∀ ρ : zR, cl d j as ov f ρ.length = some outs → P[j]? = some M → ∀ (H : aH) (K : Option Value → aH → Nat → Nat → Prop), z_sat ρ f → z_nn ρ as → (∀ e ∈ as, z_ty f e ≠ 0) → z_ovk ρ ov → z_hr J D ρ ov H → z_frm D ms H0 H →
  (∀ out ∈ outs, ∀ (l : zR) (H' : aH), (ρ ++ l).length = out.2.2.2 → z_sat (ρ ++ l) out.2.2.1 → (∀ o, out.1 = some o → z_v (ρ ++ l) o ≠ .null) → (∀ n, out.1.map (z_v (ρ ++ l)) ≠ some (.retAddr n)) → z_ovk (ρ ++ l) out.2.1 → z_hr J D (ρ ++ l) out.2.1 H' → z_frm D ms H0 H' → K (out.1.map (z_v (ρ ++ l))) H' C S) →
  aOK P X d M 0 (a_ent (z_st ρ as) M.2.2.1) [] H C S K
def z_jmp (f : zF) (i : Instr) (k : aK) (pc : Nat) (st : List zO) : Option (Nat × List zO) := match i with
  | .goto _ => some (k.2.1, st)
  | .tableswitch d lo hi offs => match st with
    | e :: r => match z_ib f e with
      | some x => if x.2 < lo ∨ hi < x.1 then (a_tgt pc d).map (fun t => (t, r)) else if x.1 = x.2 then (match offs[(x.1 - lo).toNat]? with
        | some o => (a_tgt pc o).map (fun t => (t, r))
        | none => none) else none
      | none => none
    | _ => none
  | _ => none
/-- where a range is cut -/
def z_cut (i : Instr) (x : Int × Int) : Option Int := if x.1 < x.2 then (match i with
  | .tableswitch _ lo hi _ => some (if x.1 < lo then lo else if hi < x.2 then hi + 1 else (x.1 + x.2 + 1) / 2)
  | .aaload => some ((x.1 + x.2 + 1) / 2)
  | _ => none) else none
def z_fork (f : zF) (i : Instr) (st : List zO) : Option (List zF) := match st with
  | e :: _ => match z_ib f e with
    | some x => match z_cut i x with
      | some m => match z_ways f true e (.inl (.int (Int32.ofInt m))) with
        | some l => some (l.map (fun q => q.2))
        | none => none
      | none => none
    | none => none
  | _ => none
def z_step (D : Nat → Option zC) (ms : List Nat) (P : List aM) (cl : zCl) (c : zS) : Option (List zS) := match c with
  | (d, M, pc, ls, st, fs, ov, f, nx) => match M.2.2.2.2.2.lookup pc with
    | none => none
    | some (i, len, k) => match z_stk f nx i k st with
      | some (st', f', n') => some [(d, M, pc + len, ls, st', fs, ov, f', n')]
      | none => match z_loc f i ls st with
        | some (ls', st') => some [(d, M, pc + len, ls', st', fs, ov, f, nx)]
        | none => match z_inc f nx i ls with
          | some (ls', f', n') => some [(d, M, pc + len, ls', st, fs, ov, f', n')]
          | none => match z_jmp f i k pc st with
            | some (pc', st') => some [(d, M, pc', ls, st', fs, ov, f, nx)]
            | none => match z_hp D ms f nx ov i k st with
              | some (st', ov', f', n') => some [(d, M, pc + len, ls, st', fs, ov', f', n')]
              | none => match z_tst f i st with
                | some (l, r) => some (l.map (fun q => (d, M, if q.1 then k.2.1 else pc + 3, ls, r, fs, ov, q.2, nx)))
                | none => match z_ret f i M.2.2.2.1 st with
                  | some v => match fs with
                    | [] => none
                    | (M2, pc2, ls2, rest) :: fs' => some [(d + 1, M2, pc2, ls2, v.toList ++ rest, fs', ov, f, nx)]
                  | none => match z_inv D P f i k st with
                    | some (M', as, rest) => match d with
                      | 0 => none
                      | d' + 1 => match cl d' k.2.1 as ov f nx with
                        | some outs => some (outs.map (fun a => (d' + 1, M, pc + len, ls, a.1.toList ++ rest, fs, a.2.1, a.2.2.1, a.2.2.2)))
                        | none => some [(d', M', 0, z_ent f as M'.2.2.1, [], (M, pc + len, ls, rest) :: fs, ov, f, nx)]
                    | none => match z_fork f i st with
                      | some l => some (l.map (fun g => (d, M, pc, ls, st, fs, ov, g, nx)))
                      | none => none
/-- a method's own end -/
def z_fin (c : zS) : Option zA := match c with
  | (_, M, pc, _, st, [], ov, f, nx) => match M.2.2.2.2.2.lookup pc with
    | some (i, _, _) => match z_ret f i M.2.2.2.1 st with
      | some v => some (v, ov, f, nx)
      | none => none
    | none => none
  | _ => none
def z_run (D : Nat → Option zC) (ms : List Nat) (P : List aM) (cl : zCl) (ct : zS → Bool) (rt : zA → Bool) : Nat → zS → Bool
  | 0, _ => false
  | n + 1, c => if ct c then true else match z_fin c with
    | some a => rt a
    | none => match z_step D ms P cl c with
      | none => false
      | some l => l.all (z_run D ms P cl ct rt n)
section ZX
variable {J : aH → Prop} {D : Nat → Option zC} {ms : List Nat} {P : List aM} {X : aX} {ρ0 : zR} {H0 : aH} {C S : Nat} {K0 : Option Value → aH → Nat → Nat → Prop} {cl : zCl}
theorem z_jmp_ok {ρ : zR} {f : zF} (hs : z_sat ρ f) {i : Instr} {k : aK} {pc pc' : Nat} {ls : aL} {st st' : List zO} {h : aH} {len : Nat} (q : z_jmp f i k pc st = some (pc', st')) : a_op X i len k pc ls (z_st ρ st) h = some (pc', ls, z_st ρ st', h, 0, 0) ∧ ∀ o ∈ st', o ∈ st := by
  unfold z_jmp at q
  split at q
  · cases q
    exact ⟨rfl, fun _ ho => ho⟩
  · rename_i d lo hi offs
    split at q
    · rename_i e r
      split at q
      · rename_i x hx
        obtain ⟨z, hz, -, b1, b2⟩ := z_ib_ex hs hx
        have hop : ∀ {t : Nat}, (if z.toInt < lo ∨ hi < z.toInt then (a_tgt pc d).map (fun t => (t, z_st ρ r)) else
            match offs[(z.toInt - lo).toNat]? with
            | some o => (a_tgt pc o).map (fun t => (t, z_st ρ r))
            | none => none) = some (t, z_st ρ r) → a_op X (.tableswitch d lo hi offs) len k pc ls (z_st ρ (e :: r)) h = some (t, ls, z_st ρ r, h, 0, 0) := by
          intro t ht
          have hbr : a_br (.tableswitch d lo hi offs) k pc (z_st ρ (e :: r)) = some (t, z_st ρ r) := by
            show (match z_st ρ (e :: r) with
              | .int x :: r => if x.toInt < lo ∨ hi < x.toInt then (a_tgt pc d).map (fun t => (t, r)) else
                match offs[(x.toInt - lo).toNat]? with
                | some o => (a_tgt pc o).map (fun t => (t, r))
                | none => none
              | _ => none) = _
            simp only [z_st, List.map_cons, hz]
            exact ht
          unfold a_op
          simp only [a_stk, a_loc]
          rw [hbr]
        split at q
        · rename_i hb
          cases ht : a_tgt pc d with
          | none => rw [ht] at q; cases q
          | some t =>
            rw [ht] at q
            cases q
            refine ⟨hop ?_, fun o ho => List.mem_cons_of_mem _ ho⟩
            rw [if_pos (by omega), ht]; rfl
        · rename_i hb
          split at q
          · rename_i hone
            have hzz : z.toInt = x.1 := by omega
            split at q
            · rename_i o ho
              cases ht : a_tgt pc o with
              | none => rw [ht] at q; cases q
              | some t =>
                rw [ht] at q
                cases q
                refine ⟨hop ?_, fun o ho => List.mem_cons_of_mem _ ho⟩
                rw [hzz, if_neg (by omega), ho]
                dsimp only
                rw [ht]; rfl
            · cases q
          · cases q
      · cases q
    · cases q
  · cases q
theorem z_step_ok (hlen : z_len0 J D) (hcl : z_clok J D ms P X H0 C S cl) {c : zS} {L : List zS} (q : z_step D ms P cl c = some L) (hL : ∀ c ∈ L, z_mean J D ms P X ρ0 H0 C S K0 c) : z_mean J D ms P X ρ0 H0 C S K0 c := by
  obtain ⟨d, M, pc, ls, st, fs, ov, f, nx⟩ := c
  intro l0 H hrel
  obtain ⟨rfl, hs, hl, hn, hfs, hv, hr, hf⟩ := hrel
  -- how one goes on: more names
  have go : ∀ {d' : Nat} {M' : aM} {pc' : Nat} {ls' : zL} {st' : List zO} {ov' : zV} {f' : zF} {n' : Nat} {H' : aH} (l : zR), (d', M', pc', ls', st', fs, ov', f', n') ∈ L → ((ρ0 ++ l0) ++ l).length = n' → z_sat ((ρ0 ++ l0) ++ l) f' → z_nl ((ρ0 ++ l0) ++ l) ls' → z_nn ((ρ0 ++ l0) ++ l) st' → z_ovk ((ρ0 ++ l0) ++ l) ov' → z_hr J D ((ρ0 ++ l0) ++ l) ov' H' → z_frm D ms H0 H' → aOK P X d' M' pc' (z_ls ((ρ0 ++ l0) ++ l) ls') (z_st ((ρ0 ++ l0) ++ l) st') H' C S (z_KF P X K0 (ρ0 ++ l0) d' fs) := by
    intro d' M' pc' ls' st' ov' f' n' H' l hm h1 h2 h3 h4 h5 h6 h7
    have hmean := hL _ hm (l0 ++ l) H'
    rw [← List.append_assoc] at hmean
    have := hmean ⟨h1, h2, h3, h4, fun q hq => ⟨z_nl_app (hfs q hq).1, z_nn_app (hfs q hq).2⟩, h5, h6, h7⟩
    rw [z_KF_app hfs] at this
    exact this
  unfold z_step at q
  dsimp only at q ⊢
  split at q
  · cases q
  · rename_i i len k hlk
    split at q
    · rename_i st' f' n' h1
      cases q
      obtain ⟨l, e1, e2, e3, e4⟩ := z_stk_ok hs hn h1
      refine aOK_op hlk (pc' := pc + len) (ls' := z_ls (ρ0 ++ l0) ls) (st' := z_st ((ρ0 ++ l0) ++ l) st') (h' := H) (c := 0) (s := 0) (by unfold a_op; rw [e4]) ?_
      have := go l List.mem_cons_self e1 e2 (z_nl_app hl) e3 (z_ovk_app hv) (z_hr_app hv hr) hf
      rw [z_ls_app hl] at this
      exact this
    · split at q
      · rename_i ls' st' h1
        cases q
        obtain ⟨e1, e2, e3, e4, e5⟩ := z_loc_ok (k := k) hs hl hn h1
        refine aOK_op hlk (pc' := pc + len) (ls' := z_ls (ρ0 ++ l0) ls') (st' := z_st (ρ0 ++ l0) st') (h' := H) (c := 0) (s := 0) (by unfold a_op; rw [e1]; dsimp only; rw [e2]) ?_
        have := go [] List.mem_cons_self (by rw [List.append_nil]) (by rw [List.append_nil]; exact hs) (by rw [List.append_nil]; exact e3) (by rw [List.append_nil]; exact e4) (by rw [List.append_nil]; exact hv) (by rw [List.append_nil]; exact hr) hf
        rw [List.append_nil] at this
        exact this
      · split at q
        · rename_i ls' f' n' h1
          cases q
          obtain ⟨l, e1, e2, e3, e4, e5, e6⟩ := z_inc_ok (k := k) hs hl hn h1
          refine aOK_op hlk (pc' := pc + len) (ls' := z_ls ((ρ0 ++ l0) ++ l) ls') (st' := z_st ((ρ0 ++ l0) ++ l) st) (h' := H) (c := 0) (s := 0) (by unfold a_op; rw [e5]; dsimp only; rw [e6]) ?_
          exact go l List.mem_cons_self e1 e2 e3 (z_nn_app hn) (z_ovk_app hv) (z_hr_app hv hr) hf
        · split at q
          · rename_i pc' st' h1
            cases q
            obtain ⟨e1, e2⟩ := z_jmp_ok (X := X) (ls := z_ls (ρ0 ++ l0) ls) (h := H) (len := len) hs h1
            refine aOK_op hlk e1 ?_
            have := go [] List.mem_cons_self (by rw [List.append_nil]) (by rw [List.append_nil]; exact hs) (by rw [List.append_nil]; exact hl) (by rw [List.append_nil]; exact fun o ho => hn o (e2 o ho)) (by rw [List.append_nil]; exact hv) (by rw [List.append_nil]; exact hr) hf
            rw [List.append_nil] at this
            exact this
          · split at q
            · rename_i st' ov' f' n' h1
              cases q
              obtain ⟨st2, H2, e1, l, g1, g2, g3, g4, g5, g6, g7⟩ := z_hp_ok (X := X) (len := len) (pc := pc) (ls := z_ls (ρ0 ++ l0) ls) hlen hs hv hn hr hf h1
              refine aOK_op hlk e1 ?_
              rw [g7]
              have := go l List.mem_cons_self g1 g2 (z_nl_app hl) g3 g4 g5 g6
              rw [z_ls_app hl] at this
              exact this
            · split at q
              · rename_i lw r h1
                cases q
                obtain ⟨⟨w, hw, e1, e2⟩, e3⟩ := z_tst_ok (X := X) (len := len) (k := k) (pc := pc) (ls := z_ls (ρ0 ++ l0) ls) (h := H) hs h1
                refine aOK_op hlk e2 ?_
                have := go [] (List.mem_map.mpr ⟨w, hw, rfl⟩) (by rw [List.append_nil]) (by rw [List.append_nil]; exact e1) (by rw [List.append_nil]; exact hl) (by rw [List.append_nil]; exact fun o ho => hn o (e3 o ho)) (by rw [List.append_nil]; exact hv) (by rw [List.append_nil]; exact hr) hf
                rw [List.append_nil] at this
                exact this
              · split at q
                · rename_i v h1
                  obtain ⟨e1, e2, e3, e4⟩ := z_ret_ok (X := X) (len := len) (k := k) (pc := pc) (ls := z_ls (ρ0 ++ l0) ls) (h := H) hs h1
                  split at q
                  · cases q
                  · rename_i M2 pc2 ls2 rest fs'
                    cases q
                    refine aOK_ret hlk e1 e2 e3 ?_
                    refine ⟨e3, ?_⟩
                    have h5 := hfs _ List.mem_cons_self
                    have hmean := hL _ List.mem_cons_self l0 H ⟨rfl, hs, h5.1, (fun o ho => by
                      rcases List.mem_append.mp ho with ho | ho
                      · cases v with
                        | none => cases ho
                        | some v0 =>
                          rw [Option.toList_some, List.mem_singleton] at ho
                          rw [ho]
                          exact (e4 v0 rfl).2
                      · exact h5.2 o ho), fun q hq => hfs q (List.mem_cons_of_mem _ hq), hv, hr, hf⟩
                    have e5 : (v.map (z_v (ρ0 ++ l0))).toList ++ z_st (ρ0 ++ l0) rest = z_st (ρ0 ++ l0) (v.toList ++ rest) := by
                      cases v <;> simp [z_st]
                    rw [e5]
                    exact hmean
                · split at q
                  · rename_i M' as rest h1
                    obtain ⟨e1, e2, e3, e4, e5, e6, e7, e8⟩ := z_inv_ok (X := X) (len := len) (pc := pc) (ls := z_ls (ρ0 ++ l0) ls) (ret := M.2.2.2.1) hs hr h1
                    have hna : z_nn (ρ0 ++ l0) as := fun o ho => hn o (e7 o ho)
                    have hnr : z_nn (ρ0 ++ l0) rest := fun o ho => hn o (e8 o ho)
                    split at q
                    · cases q
                    · rename_i d'
                      split at q
                      · rename_i outs ho
                        cases q
                        refine aOK_call hlk e1 e2 e3 (hcl _ _ _ _ _ _ _ _ ho e5 H _ hs hna e4 hv hr hf (fun out hout l H' g1 g2 g3 g4 g5 g6 g7 => Or.inr ⟨g4, ?_⟩))
                        have hnn : z_nn ((ρ0 ++ l0) ++ l) (out.1.toList ++ rest) := fun o ho => by
                          rcases List.mem_append.mp ho with ho | ho
                          · cases hv0 : out.1 with
                            | none => rw [hv0] at ho; cases ho
                            | some v0 =>
                              rw [hv0, Option.toList_some, List.mem_singleton] at ho
                              rw [ho]
                              exact g3 v0 hv0
                          · exact z_nn_app hnr o ho
                        have := go l (List.mem_map.mpr ⟨out, hout, rfl⟩) g1 g2 (z_nl_app hl) hnn g5 g6 g7
                        rw [z_ls_app hl] at this
                        have e9 : (out.1.map (z_v ((ρ0 ++ l0) ++ l))).toList ++ z_st (ρ0 ++ l0) rest = z_st ((ρ0 ++ l0) ++ l) (out.1.toList ++ rest) := by
                          rw [← z_st_app (l := l) hnr]
                          cases out.1 <;> simp [z_st]
                        rw [e9]
                        exact this
                      · cases q
                        refine aOK_call hlk e1 e2 e3 ?_
                        rw [z_ent_ok hs e4]
                        have hmean := hL _ List.mem_cons_self l0 H ⟨rfl, hs, fun o ho => hna o (z_ent_in ho), fun o ho => absurd ho List.not_mem_nil, fun q hq => by
                          rcases List.mem_cons.mp hq with rfl | hq
                          · exact ⟨hl, hnr⟩
                          · exact hfs q hq, hv, hr, hf⟩
                        exact aOK_imp (fun v h C S hk => Or.inr hk) hmean
                  · split at q
                    · rename_i lf h1
                      cases q
                      unfold z_fork at h1
                      split at h1
                      · rename_i e r
                        split at h1
                        · split at h1
                          · split at h1
                            · rename_i lw hw
                              cases h1
                              obtain ⟨x, y, vx, vy, w, hw1, hw2, hw3⟩ := z_ways_ok hs hw
                              have hmean := hL _ (List.mem_map.mpr ⟨w.2, List.mem_map.mpr ⟨w, hw1, rfl⟩, rfl⟩) l0 H ⟨rfl, hw3, hl, hn, hfs, hv, hr, hf⟩
                              exact hmean
                            · cases h1
                          · cases h1
                        · cases h1
                      · cases h1
                    · cases q
theorem z_run_ok (hlen : z_len0 J D) (hcl : z_clok J D ms P X H0 C S cl) {ct : zS → Bool} {rt : zA → Bool} (hct : ∀ c, ct c = true → z_mean J D ms P X ρ0 H0 C S K0 c)
    (hrt : ∀ a, rt a = true → ∀ (l : zR) (H : aH), (ρ0 ++ l).length = a.2.2.2 → z_sat (ρ0 ++ l) a.2.2.1 → z_ovk (ρ0 ++ l) a.2.1 → z_hr J D (ρ0 ++ l) a.2.1 H → z_frm D ms H0 H → (∀ o, a.1 = some o → z_v (ρ0 ++ l) o ≠ .null) → K0 (a.1.map (z_v (ρ0 ++ l))) H C S) : ∀ (n : Nat) (c : zS), z_run D ms P cl ct rt n c = true → z_mean J D ms P X ρ0 H0 C S K0 c
  | 0, _, h => by cases h
  | n + 1, c, h => by
    unfold z_run at h
    split at h
    · rename_i hc
      exact hct c hc
    · split at h
      · rename_i a ha
        unfold z_fin at ha
        split at ha
        · rename_i d M pc ls st ov f nx _
          split at ha
          · rename_i i len k hlk
            split at ha
            · rename_i v hv
              cases ha
              intro l H hrel
              obtain ⟨h1, h2, h3, h4, h5, h6, h7, h8⟩ := hrel
              obtain ⟨e1, e2, e3, e4⟩ := z_ret_ok (X := X) (len := len) (k := k) (pc := pc) (ls := z_ls (ρ0 ++ l) ls) (h := H) h2 hv
              exact aOK_ret hlk e1 e2 e3 (hrt _ h l H h1 h2 h6 h7 h8 (fun o ho => (e4 o ho).2))
            · cases ha
          · cases ha
        · cases ha
      · split at h
        · cases h
        · rename_i L hL
          exact z_step_ok hlen hcl hL (fun c hc => z_run_ok hlen hcl hct hrt n c (List.all_eq_true.mp h c hc))
end ZX
