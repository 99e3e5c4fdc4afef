/-! ===== runs with constants put in, with forks over small ranges, and with cuts ===== -/
def s_smp (fa : sFa) (e : sV) : sV := if s_cst e then e else if s_ty e = 1 ∧ (s_itv fa e).1 = (s_itv fa e).2 then [.inl (.int (Int32.ofInt (s_itv fa e).1))] else e
def s_smps (fa : sFa) (st : List sV) : List sV := match st with
  | a :: b :: r => s_smp fa a :: s_smp fa b :: r
  | [a] => [s_smp fa a]
  | [] => []
def s_two (c : sC) (e : sV) (m : Int) : List sC := match c with
  | (d, M, pc, ls, st, fs, h, fa, C, S) => [(d, M, pc, ls, st, fs, h, s_add fa true true e [.inl (.int (Int32.ofInt m))], C, S), (d, M, pc, ls, st, fs, h, s_add fa true false e [.inl (.int (Int32.ofInt m))], C, S)]
/-- the place where a range is cut -/
def s_cut (fa : sFa) (i : Instr) (e : sV) : Option Int := if s_ty e = 1 ∧ (s_itv fa e).1 < (s_itv fa e).2 then (match i with
  | .tableswitch _ lo hi _ => some (if (s_itv fa e).1 < lo then lo else if hi < (s_itv fa e).2 then hi + 1 else ((s_itv fa e).1 + (s_itv fa e).2 + 1) / 2)
  | .aaload => some (((s_itv fa e).1 + (s_itv fa e).2 + 1) / 2)
  | .iaload => some (((s_itv fa e).1 + (s_itv fa e).2 + 1) / 2)
  | _ => none) else none
def s_fork (c : sC) : Option (List sC) := match c with
  | (_, M, pc, _, st, _, _, fa, _, _) => match M.2.2.2.2.2.lookup pc, st with
    | some (i, _, _), e :: _ => match s_cut fa i e with
      | some m => some (s_two c e m)
      | none => none
    | _, _ => none
def s_smpc (c : sC) : sC := match c with
  | (d, M, pc, ls, st, fs, h, fa, C, S) => (d, M, pc, ls, s_smps fa st, fs, h, fa, C, S)
def s_stepX (P : List aM) (sm : sFa → Nat → List sV → Option sV) (ct : sC → Option (List sC)) (c : sC) : Option (List sC) := match ct c with
  | some l => some l
  | none => match s_step P sm (s_smpc c) with
    | some l => some l
    | none => s_fork (s_smpc c)
/-- the same, with parts worked out before it goes on -/
def s_fN (n : Nat) (k : Nat → Bool) : Bool := match n with
  | 0 => k 0
  | m + 1 => k (m + 1)
theorem s_fN_ok (n : Nat) (k : Nat → Bool) : s_fN n k = k n := by cases n <;> rfl
def s_fE (c : sE) (k : sE → Bool) : Bool := match c with
  | .inl (t, n, d, ov) => k (.inl (t, n, d, ov))
  | .inr (ci, fs) => k (.inr (ci, fs))
theorem s_fE_ok (c : sE) (k : sE → Bool) : s_fE c k = k c := by
  unfold s_fE
  split <;> rfl
def s_fH (ov : List (Nat × sE)) (k : List (Nat × sE) → Bool) : Bool := match ov with
  | [] => k []
  | (o, c) :: r => s_fE c (fun c' => s_fH r (fun r' => k ((o, c') :: r')))
theorem s_fH_ok : ∀ (ov : List (Nat × sE)) (k : List (Nat × sE) → Bool), s_fH ov k = k ov
  | [], _ => rfl
  | (o, c) :: r, k => by
    unfold s_fH
    rw [s_fE_ok, s_fH_ok r]
def s_fC (c : sC) (k : sC → Bool) : Bool := match c with
  | (d, M, pc, ls, st, fs, (n, ov), fa, C, S) => s_fN pc (fun pc => s_fH ov (fun ov => k (d, M, pc, ls, st, fs, (n, ov), fa, C, S)))
theorem s_fC_ok (c : sC) (k : sC → Bool) : s_fC c k = k c := by
  obtain ⟨d, M, pc, ls, st, fs, ⟨n, ov⟩, fa, C, S⟩ := c
  unfold s_fC
  dsimp only
  rw [s_fN_ok, s_fH_ok]
def s_runX (P : List aM) (sm : sFa → Nat → List sV → Option sV) (ct : sC → Option (List sC)) : Nat → sC → Bool
  | 0, _ => false
  | n + 1, c => match s_stepX P sm ct c with
    | none => false
    | some [] => true
    | some [c'] => s_fC c' (s_runX P sm ct n)
    | some [c1, c2] => s_fC c1 (s_runX P sm ct n) && s_fC c2 (s_runX P sm ct n)
    | some _ => false
section SRX
variable {E : Nat → Int32} {F : sF} {P : List aM} {sm : sFa → Nat → List sV → Option sV} {ct : sC → Option (List sC)}
theorem s_smp_ok (hF : s_Fok F) {fa : sFa} (hs : s_sat E F fa) (e : sV) : s_ev E F (s_smp fa e) = s_ev E F e := by
  unfold s_smp
  split
  · rfl
  · split
    · rename_i h
      obtain ⟨n, hn⟩ := s_ty1 (E := E) hF h.1
      have hi := s_itv_ok hs hn
      have e1 : (s_itv fa e).1 = n.toInt := by omega
      rw [e1, hn]
      show Value.int (Int32.ofInt n.toInt) = _
      rw [Int32.ofInt_toInt]
    · rfl
theorem s_smps_ok (hF : s_Fok F) {fa : sFa} (hs : s_sat E F fa) (st : List sV) : s_est E F (s_smps fa st) = s_est E F st := by
  unfold s_smps
  split
  · simp only [s_est, List.map_cons, s_smp_ok hF hs]
  · simp only [s_est, List.map_cons, s_smp_ok hF hs]
  · rfl
theorem s_smpc_ok (hF : s_Fok F) {c : sC} (h : s_mean P E F (s_smpc c)) : s_mean P E F c := by
  obtain ⟨d, M, pc, ls, st, fs, h0, fa, C, S⟩ := c
  intro hs
  have := h hs
  rw [s_smps_ok hF hs] at this
  exact this
theorem s_fork_ok (hF : s_Fok F) {c : sC} {l : List sC} (q : s_fork c = some l) (hl : ∀ c ∈ l, s_mean P E F c) : s_mean P E F c := by
  obtain ⟨d, M, pc, ls, st, fs, h, fa, C, S⟩ := c
  intro hs
  unfold s_fork at q
  dsimp only at q
  split at q
  · rename_i i len k e r hlk
    split at q
    · rename_i m hm
      cases q
      have ht : s_ty e = 1 := by
        unfold s_cut at hm
        split at hm
        · rename_i hc; exact hc.1
        · cases hm
      obtain ⟨n, hn⟩ := s_ty1 (E := E) hF ht
      cases hz : s_cmp true n (Int32.ofInt m) with
      | true => exact hl _ List.mem_cons_self (s_add_ok hs hn rfl hz)
      | false => exact hl _ (List.mem_cons_of_mem _ List.mem_cons_self) (s_add_ok hs hn rfl hz)
    · cases q
  · cases q
/-- what a cut is worth -/
def s_ctok (P : List aM) (E : Nat → Int32) (F : sF) (ct : sC → Option (List sC)) : Prop := ∀ c l, ct c = some l → (∀ c ∈ l, s_mean P E F c) → s_mean P E F c
theorem s_stepX_ok (hF : s_Fok F) (hsm : s_smok P E F sm) (hst : s_smty sm F E) (hct : s_ctok P E F ct) {c : sC} {l : List sC} (q : s_stepX P sm ct c = some l) (hl : ∀ c ∈ l, s_mean P E F c) : s_mean P E F c := by
  unfold s_stepX at q
  split at q
  · rename_i l' h
    cases q
    exact hct _ _ h hl
  · split at q
    · rename_i l' h
      cases q
      exact s_smpc_ok hF (s_step_ok hF hsm hst h hl)
    · exact s_smpc_ok hF (s_fork_ok hF q hl)
theorem s_runX_ok (hF : s_Fok F) (hsm : s_smok P E F sm) (hst : s_smty sm F E) (hct : s_ctok P E F ct) : ∀ (n : Nat) (c : sC), s_runX P sm ct n c = true → s_mean P E F c
  | 0, _, h => by cases h
  | n + 1, c, h => by
    unfold s_runX at h
    split at h
    · cases h
    · rename_i e
      exact s_stepX_ok hF hsm hst hct e (fun c hc => absurd hc List.not_mem_nil)
    · rename_i c' e
      refine s_stepX_ok hF hsm hst hct e (fun c hc => ?_)
      rw [List.mem_singleton.mp hc]
      rw [s_fC_ok] at h
      exact s_runX_ok hF hsm hst hct n c' h
    · rename_i c1 c2 e
      simp only [Bool.and_eq_true, s_fC_ok] at h
      refine s_stepX_ok hF hsm hst hct e (fun c hc => ?_)
      rcases List.mem_cons.mp hc with rfl | hc
      · exact s_runX_ok hF hsm hst hct n _ h.1
      · rw [List.mem_singleton.mp hc]
        exact s_runX_ok hF hsm hst hct n _ h.2
    · cases h
end SRX
