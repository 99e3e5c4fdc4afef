/-! ===== v2: methods in a context ===== -/
abbrev zCut : Type := Nat × zT × zMs
/-- a method in a context: its number, depth, how many names its entry has, how long measures are; cuts (the entry first), exits, fields that it may change -/
abbrev zQ : Type := (Nat × Nat × Nat × Nat) × List zCut × List zT × List Nat
def z_gf (src : List (Nat × Nat)) (n g : Nat) : zO := match src with
  | [] => .inl .null
  | (k, g') :: r => if k = 2 ∧ g' = g then .inr (n, 0) else z_gf r (n + 1) g
/-- the entry's names, in a run from a cut -/
def z_ghl (nE pc : Nat) (T : zT) : List zO := (List.range nE).map (fun g => if pc = 0 then .inr (g, 0) else z_gf T.1 0 g)
def z_gm (ρE ρ : zR) (pc : Nat) (T : zT) : Prop := if pc = 0 then ρ = ρE else ∀ (t g : Nat), T.1[t]? = some (2, g) → ρ[t]? = ρE[g]?
def z_ctq (D : Nat → Option zC) (Q : zQ) (cut : zCut) (c : zS) : Bool := match c with
  | (_, _, pc', ls, [], [], ov, f, nx) => Q.2.1.any (fun q => decide (q.1 = pc') && (decide (q.1 ≠ 0) && (match z_nms D q.2.1.1 (ov, f, nx) with
    | some s => (match z_match D s.2.1 s.1 ls (z_ghl Q.1.2.2.1 cut.1 cut.2.1) q.2.1 with
      | some mp => z_mlt s.2.1 mp cut.2.2 q.2.2
      | none => false)
    | none => false)))
  | _ => false
def z_aL (v : Option zO) : zL := match v with
  | some o => [some o]
  | none => []
def z_rtq (D : Nat → Option zC) (Q : zQ) (cut : zCut) (a : zA) : Bool := Q.2.2.1.any (fun T => match z_nms D T.1 (a.2.1, a.2.2.1, a.2.2.2) with
  | some s => (z_match D s.2.1 s.1 (z_aL a.1) (z_ghl Q.1.2.2.1 cut.1 cut.2.1) T).isSome
  | none => false)
def z_chk1 (D : Nat → Option zC) (P : List aM) (cl : zCl) (n : Nat) (Q : zQ) (M : aM) (cut : zCut) : Bool := z_mok cut.2.1.2.1.length cut.2.2 && decide (cut.2.2.length = Q.1.2.2.2) && decide (cut.2.1.1.length = cut.2.1.2.1.length) && (decide (cut.1 ≠ 0) || decide (Q.1.2.2.1 ≤ cut.2.1.2.1.length)) && z_go D Q.2.2.2 P cl (z_ctq D Q cut) (z_rtq D Q cut) n (z_tc Q.1.2.1 M cut.1 cut.2.1)
def z_chk (D : Nat → Option zC) (P : List aM) (cl : zCl) (n : Nat) (Q : zQ) : Bool := match P[Q.1.1]? with
  | some M => Q.2.1.all (z_chk1 D P cl n Q M)
  | none => false
/-- what a context promises -/
def z_spec (J : aH → Prop) (D : Nat → Option zC) (P : List aM) (X : aX) (Q : zQ) : Prop := ∀ (M : aM), P[Q.1.1]? = some M → ∀ (C S : Nat) (ρE : zR) (H : aH) (ls : aL) (T0 : zT) (m0 : zMs), (0, T0, m0) ∈ Q.2.1 → z_tm J D Q.2.2.2 ρE H H ls T0 → ∀ (K0 : Option Value → aH → Nat → Nat → Prop),
  (∀ T ∈ Q.2.2.1, ∀ (ρX : zR) (H' : aH) (v : Option Value), z_tm J D Q.2.2.2 ρX H H' (v.toList.map some) T → (∀ (t g : Nat), T.1[t]? = some (2, g) → ρX[t]? = ρE[g]?) → (∀ n, v ≠ some (.retAddr n)) → K0 v H' C S) → aOK P X Q.1.2.1 M 0 ls [] H C S K0
section ZCX
variable {J : aH → Prop} {D : Nat → Option zC} {P : List aM} {X : aX} {cl : zCl}
theorem z_gf_ok {src : List (Nat × Nat)} {g : Nat} : ∀ {n : Nat}, z_gf src n g = .inl .null ∨ ∃ t, z_gf src n g = .inr (n + t, 0) ∧ src[t]? = some (2, g) := by
  induction src with
  | nil => intro n; exact Or.inl rfl
  | cons s r ih =>
    intro n
    obtain ⟨k, g'⟩ := s
    unfold z_gf
    split
    · rename_i h
      obtain ⟨rfl, rfl⟩ := h
      exact Or.inr ⟨0, rfl, rfl⟩
    · rcases ih (n := n + 1) with q | ⟨t, q1, q2⟩
      · exact Or.inl q
      · exact Or.inr ⟨t + 1, by rw [q1]; congr 2; omega, q2⟩
theorem z_ghl_ok {ρE ρ : zR} {nE pc : Nat} {T : zT} (hg : z_gm ρE ρ pc T) (h1 : T.1.length ≤ ρ.length) (h2 : pc = 0 → nE ≤ ρ.length) {g : Nat} {o : zO} (h : (z_ghl nE pc T)[g]? = some o) : o = .inl .null ∨ ∃ t w, o = .inr (t, 0) ∧ ρ[t]? = some w ∧ ρE[g]? = some w := by
  unfold z_ghl at h
  rw [List.getElem?_map] at h
  cases hr : (List.range nE)[g]? with
  | none => rw [hr] at h; cases h
  | some g' =>
    rw [hr] at h
    have hlt : g < nE := by
      have := (List.getElem?_eq_some_iff.mp hr).1
      rw [List.length_range] at this
      exact this
    rw [List.getElem?_range hlt] at hr
    cases hr
    simp only [Option.map_some, Option.some.injEq] at h
    subst h
    unfold z_gm at hg
    by_cases hp : pc = 0
    · rw [if_pos hp] at hg ⊢
      subst hg
      have hl : g < ρ.length := Nat.lt_of_lt_of_le hlt (h2 hp)
      exact Or.inr ⟨g, ρ[g], rfl, List.getElem?_eq_getElem hl, List.getElem?_eq_getElem hl⟩
    · rw [if_neg hp] at hg ⊢
      rcases z_gf_ok (src := T.1) (g := g) (n := 0) with q | ⟨t, q1, q2⟩
      · exact Or.inl q
      · have hl : t < ρ.length := Nat.lt_of_lt_of_le (List.getElem?_eq_some_iff.mp q2).1 h1
        refine Or.inr ⟨t, ρ[t], by rw [q1, Nat.zero_add], List.getElem?_eq_getElem hl, ?_⟩
        rw [← hg t g q2]
        exact List.getElem?_eq_getElem hl
theorem z_match_s {f : zF} {ov : zV} {ls : zL} {gh : List zO} {T : zT} {mp : List zO} (h : z_match D f ov ls gh T = some mp) : z_ops ov ls gh T.1 = some mp ∧ z_bs f mp T.2.1 = true := by
  unfold z_match at h
  split at h
  · rename_i mp' hop
    split at h
    · rename_i hc
      cases h
      simp only [Bool.and_eq_true] at hc
      exact ⟨hop, hc.1.1.1.1⟩
    · cases h
  · cases h
/-- the entry's names keep their values -/
theorem z_match_g {ρE ρ0 l : zR} {f : zF} {ov : zV} {ls : zL} {nE pc : Nat} {T T' : zT} {mp : List zO} (hs : z_sat (ρ0 ++ l) f) (hg : z_gm ρE ρ0 pc T) (h1 : T.1.length ≤ ρ0.length) (h2 : pc = 0 → nE ≤ ρ0.length) (h : z_match D f ov ls (z_ghl nE pc T) T' = some mp) : ∀ (t g : Nat), T'.1[t]? = some (2, g) → (mp.map (z_v (ρ0 ++ l)))[t]? = ρE[g]? := by
  intro t g ht
  obtain ⟨m1, m2⟩ := z_match_s h
  obtain ⟨o, e1, e2⟩ := z_ops_ok m1 t _ ht
  obtain ⟨b1, b2⟩ := z_bs_ok hs m2
  have hlt := (List.getElem?_eq_some_iff.mp e1).1
  obtain ⟨o', c1, c2⟩ := b2 t _ (List.getElem?_eq_getElem (by omega))
  rw [e1] at c1
  cases c1
  have hnn := z_in_nn c2
  have e3 : (z_ghl nE pc T)[g]? = some o := by
    unfold z_src at e2
    rw [if_neg (show ¬ (2 : Nat) = 0 by decide), if_neg (show ¬ (2 : Nat) = 1 by decide)] at e2
    exact e2
  rw [List.getElem?_map, e1, Option.map_some]
  rcases z_ghl_ok hg h1 h2 e3 with rfl | ⟨t0, w, rfl, q1, q2⟩
  · exact absurd rfl hnn
  · rw [q2, z_v0 (z_at_app q1)]
theorem z_ctx_ok (hlen : z_len0 J D) {n : Nat} {Q : zQ} (hcl : ∀ H0 C S, z_clok J D Q.2.2.2 P X H0 C S cl) (h : z_chk D P cl n Q = true) : z_spec J D P X Q := by
  intro M hM C S ρE H ls T0 m0 hin hm0 K0 hK
  unfold z_chk at h
  rw [hM] at h
  dsimp only at h
  have hall : ∀ cut ∈ Q.2.1, z_chk1 D P cl n Q M cut = true := fun cut hc => List.all_eq_true.mp h cut hc
  have main : ∀ (m : List Nat), m.length = Q.1.2.2.2 → ∀ cut ∈ Q.2.1, ∀ (ρ0 : zR) (H1 : aH) (ls1 : aL), z_tm J D Q.2.2.2 ρ0 H H1 ls1 cut.2.1 → z_gm ρE ρ0 cut.1 cut.2.1 → z_mvs ρ0 cut.2.2 = m → aOK P X Q.1.2.1 M cut.1 ls1 [] H1 C S K0 := by
    refine z_lexi Q.1.2.2.2 _ (fun m hm ih => ?_)
    intro cut hcut ρ0 H1 ls1 htm hgm hmv
    have hc := hall cut hcut
    unfold z_chk1 at hc
    simp only [Bool.and_eq_true, Bool.or_eq_true, decide_eq_true_eq] at hc
    obtain ⟨⟨⟨⟨c1, c2⟩, c3⟩, c4⟩, c5⟩ := hc
    have hl1 : cut.2.1.1.length ≤ ρ0.length := by rw [htm.1]; omega
    have hl2 : cut.1 = 0 → Q.1.2.2.1 ≤ ρ0.length := fun e => by
      rcases c4 with q | q
      · exact absurd e q
      · rw [htm.1]; exact q
    refine z_go_ok hlen (hcl H C S) (fun c hb hct => ?_) (fun a hrt l H' g1 g2 g3 g4 g5 g6 g7 => ?_) c5 htm
    · unfold z_ctq at hct
      split at hct
      · rename_i d' M' pc' ls' ov f nx
        obtain ⟨hb1, hb2⟩ := hb
        have hb1' : M' = M := hb1
        have hb2' : d' = Q.1.2.1 := hb2
        subst hb1' hb2'
        intro l H' hrel
        obtain ⟨r1, r2, r3, r4, r5, r6, r7, r8⟩ := hrel
        obtain ⟨q, hq, hq2⟩ := List.any_eq_true.mp hct
        simp only [Bool.and_eq_true, decide_eq_true_eq] at hq2
        obtain ⟨q1, q2, q3⟩ := hq2
        split at q3
        · rename_i s hs
          rw [← r1] at hs
          obtain ⟨l1, n1, n2, n3, n4⟩ := z_nms_ok hlen r2 r6 r7 hs
          split at q3
          · rename_i mp hmp
            have htm' := z_match_ok hlen n2 (z_nl_app r3) n3 n4 r8 hmp
            rw [z_ls_app r3] at htm'
            rw [List.append_assoc] at n2 htm'
            have hg' := z_match_g n2 hgm hl1 hl2 hmp
            have hlt := z_mlt_ok n2 q3
            rw [z_mv_app htm.1 c1, hmv] at hlt
            have hq' := hall q hq
            unfold z_chk1 at hq'
            simp only [Bool.and_eq_true, decide_eq_true_eq] at hq'
            have := ih (z_mvs (mp.map (z_v (ρ0 ++ (l ++ l1)))) q.2.2) (by unfold z_mvs; rw [List.length_map]; exact hq'.1.1.1.2) hlt q hq _ H' _ htm' (by unfold z_gm; rw [if_neg q2]; exact hg') rfl
            rw [q1] at this
            exact this
          · cases q3
        · cases q3
      · cases hct
    · unfold z_rtq at hrt
      obtain ⟨T, hT, hT2⟩ := List.any_eq_true.mp hrt
      have hnl : z_nl (ρ0 ++ l) (z_aL a.1) := fun o ho => by
        unfold z_aL at ho
        split at ho
        · rename_i o' ho'
          rw [List.mem_singleton] at ho
          cases ho
          exact g6 _ ho'
        · cases ho
      split at hT2
      · rename_i s hs
        rw [← g1] at hs
        obtain ⟨l1, n1, n2, n3, n4⟩ := z_nms_ok hlen g2 g3 g4 hs
        obtain ⟨mp, hmp⟩ := z_isS hT2
        have htm' := z_match_ok hlen n2 (z_nl_app hnl) n3 n4 g5 hmp
        rw [z_ls_app hnl] at htm'
        rw [List.append_assoc] at n2 htm'
        have hg' := z_match_g n2 hgm hl1 hl2 hmp
        refine hK T hT _ H' _ ?_ hg' g7
        have e : z_ls (ρ0 ++ l) (z_aL a.1) = ((a.1.map (z_v (ρ0 ++ l))).toList.map some) := by
          cases a.1 <;> rfl
        rw [← e]
        exact htm'
      · cases hT2
  have h0 := hall _ hin
  unfold z_chk1 at h0
  simp only [Bool.and_eq_true, decide_eq_true_eq] at h0
  exact main (z_mvs ρE m0) (by unfold z_mvs; rw [List.length_map]; exact h0.1.1.1.2) _ hin ρE H ls hm0 (by unfold z_gm; rw [if_pos rfl]) rfl
end ZCX
