/-! ===== runs with constants put in, with forks over small ranges, and with cuts ===== -/
def s_smp (fa : sFa) (e : sV) : sV := if s_cst e then e else if s_ty e = 1 ∧ (s_itv fa e).1 = (s_itv fa e).2 then [.inl (.int (Int32.ofInt (s_itv fa e).1))] else e
def s_smps (fa : sFa) (st : List sV) : List sV := match st with
  | a :: b :: r => s_smp fa a :: s_smp fa b :: r
  | [a] => [s_smp fa a]
  | [] => []
def s_two (c : sC) (e : sV) (m : Int) : List sC := match c with
  | (d, M, pc, ls, st, fs, h, fa, C, S) => [(d, M, pc, ls, st, fs, h, s_add fa true true e [.inl (.int (Int32.ofInt m))], C, S), (d, M, pc, ls, st, fs, h, s_add fa true false e [.inl (.int (Int32.ofInt m))], C, S)]
/-- the place where a range is cut -/
def s_cut (fa : sFa) (i : Instr) (e : sV) : Option Int := if s_ty e = 1 ∧ (s_itv fa e).1 < (s_itv fa e).2 then (match i with
  | .tableswitch _ lo hi _ => some (if (s_itv fa e).1 < lo then lo else if hi < (s_itv fa e).2 then hi + 1 else ((s_itv fa e).1 + (s_itv fa e).2 + 1) / 2)
  | .aaload => some (((s_itv fa e).1 + (s_itv fa e).2 + 1) / 2)
  | .iaload => some (((s_itv fa e).1 + (s_itv fa e).2 + 1) / 2)
  | _ => none) else none
def s_fork (c : sC) : Option (List sC) := match c with
  | (_, M, pc, _, st, _, _, fa, _, _) => match M.2.2.2.2.2.lookup pc, st with
    | some (i, _, _), e :: _ => match s_cut fa i e with
      | some m => some (s_two c e m)
      | none => none
    | _, _ => none
def s_smpc (c : sC) : sC := match c with
  | (d, M, pc, ls, st, fs, h, fa, C, S) => (d, M, pc, ls, s_smps fa st, fs, h, fa, C, S)
def s_stepX (P : List aM) (sm : sFa → Nat → List sV → Option sV) (ct : sC → Option (List sC)) (c : sC) : Option (List sC) := match ct c with
  | some l => some l
  | none => match s_step P sm (s_smpc c) with
    | some l => some l
    | none => s_fork (s_smpc c)
def s_runX (P : List aM) (sm : sFa → Nat → List sV → Option sV) (ct : sC → Option (List sC)) : Nat → sC → Bool
  | 0, _ => false
  | n + 1, c => match s_stepX P sm ct c with
    | none => false
    | some [] => true
    | some [c'] => s_runX P sm ct n c'
    | some [c1, c2] => s_runX P sm ct n c1 && s_runX P sm ct n c2
    | some _ => false
section SRX
variable {E : Nat → Int32} {F : sF} {P : List aM} {sm : sFa → Nat → List sV → Option sV} {ct : sC → Option (List sC)}
theorem s_smp_ok (hF : s_Fok F) {fa : sFa} (hs : s_sat E F fa) (e : sV) : s_ev E F (s_smp fa e) = s_ev E F e := by
  unfold s_smp
  split
  · rfl
  · split
    · rename_i h
      obtain ⟨n, hn⟩ := s_ty1 (E := E) hF h.1
      have hi := s_itv_ok hs hn
      have e1 : (s_itv fa e).1 = n.toInt := by omega
      rw [e1, hn]
      show Value.int (Int32.ofInt n.toInt) = _
      rw [Int32.ofInt_toInt]
    · rfl
theorem s_smps_ok (hF : s_Fok F) {fa : sFa} (hs : s_sat E F fa) (st : List sV) : s_est E F (s_smps fa st) = s_est E F st := by
  unfold s_smps
  split
  · simp only [s_est, List.map_cons, s_smp_ok hF hs]
  · simp only [s_est, List.map_cons, s_smp_ok hF hs]
  · rfl
theorem s_smpc_ok (hF : s_Fok F) {c : sC} (h : s_mean P E F (s_smpc c)) : s_mean P E F c := by
  obtain ⟨d, M, pc, ls, st, fs, h0, fa, C, S⟩ := c
  intro hs
  have := h hs
  rw [s_smps_ok hF hs] at this
  exact this
theorem s_fork_ok (hF : s_Fok F) {c : sC} {l : List sC} (q : s_fork c = some l) (hl : ∀ c ∈ l, s_mean P E F c) : s_mean P E F c := by
  obtain ⟨d, M, pc, ls, st, fs, h, fa, C, S⟩ := c
  intro hs
  unfold s_fork at q
  dsimp only at q
  split at q
  · rename_i i len k e r hlk
    split at q
    · rename_i m hm
      cases q
      have ht : s_ty e = 1 := by
        unfold s_cut at hm
        split at hm
        · rename_i hc; exact hc.1
        · cases hm
      obtain ⟨n, hn⟩ := s_ty1 (E := E) hF ht
      cases hz : s_cmp true n (Int32.ofInt m) with
      | true => exact hl _ List.mem_cons_self (s_add_ok hs hn rfl hz)
      | false => exact hl _ (List.mem_cons_of_mem _ List.mem_cons_self) (s_add_ok hs hn rfl hz)
    · cases q
  · cases q
/-- what a cut is worth -/
def s_ctok (P : List aM) (E : Nat → Int32) (F : sF) (ct : sC → Option (List sC)) : Prop := ∀ c l, ct c = some l → (∀ c ∈ l, s_mean P E F c) → s_mean P E F c
theorem s_stepX_ok (hF : s_Fok F) (hsm : s_smok P E F sm) (hst : s_smty sm F E) (hct : s_ctok P E F ct) {c : sC} {l : List sC} (q : s_stepX P sm ct c = some l) (hl : ∀ c ∈ l, s_mean P E F c) : s_mean P E F c := by
  unfold s_stepX at q
  split at q
  · rename_i l' h
    cases q
    exact hct _ _ h hl
  · split at q
    · rename_i l' h
      cases q
      exact s_smpc_ok hF (s_step_ok hF hsm hst h hl)
    · exact s_smpc_ok hF (s_fork_ok hF q hl)
theorem s_runX_ok (hF : s_Fok F) (hsm : s_smok P E F sm) (hst : s_smty sm F E) (hct : s_ctok P E F ct) : ∀ (n : Nat) (c : sC), s_runX P sm ct n c = true → s_mean P E F c
  | 0, _, h => by cases h
  | n + 1, c, h => by
    unfold s_runX at h
    split at h
    · cases h
    · rename_i e
      exact s_stepX_ok hF hsm hst hct e (fun c hc => absurd hc List.not_mem_nil)
    · rename_i c' e
      refine s_stepX_ok hF hsm hst hct e (fun c hc => ?_)
      rw [List.mem_singleton.mp hc]
      exact s_runX_ok hF hsm hst hct n c' h
    · rename_i c1 c2 e
      simp only [Bool.and_eq_true] at h
      refine s_stepX_ok hF hsm hst hct e (fun c hc => ?_)
      rcases List.mem_cons.mp hc with rfl | hc
      · exact s_runX_ok hF hsm hst hct n _ h.1
      · rw [List.mem_singleton.mp hc]
        exact s_runX_ok hF hsm hst hct n _ h.2
    · cases h
end SRX
