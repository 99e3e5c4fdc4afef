/-! ===== runs on paper, by rules ===== -/
section ARUN
variable {P : List aM} {X : aX}
def a_body (P : List aM) (X : aX) (rec : Nat → aM → Nat → aL → List Value → aH → Option aQ) (d : Nat) (M : aM) (pc : Nat) (ls : aL) (st : List Value) (h : aH) : Option aQ := match M.2.2.2.2.2.lookup pc with
    | none => none
    | some (i, len, k) => match a_op X i len k pc ls st h with
      | some (pc', ls', st', h', c, s) => a_more c s (rec d M pc' ls' st' h')
      | none => match a_ret i k M.2.2.2.1 st with
        | some v => match v with
          | some (.retAddr _) => some (v, h ++ [.inr (a_exc, [])], 1, 6)
          | _ => some (v, h, 0, 0)
        | none => match a_inv P i k st h with
          | none => none
          | some (M', as, rest) => match d with
            | 0 => none
            | d' + 1 => match rec d' M' 0 (a_ent as M'.2.2.1) [] h with
              | none => none
              | some (v, h1, c, s) => match v with
                | some (.retAddr _) => if k.1 = 18 then some (some (.int 1), h1, c, s) else none
                | _ => a_more c s (rec d M (pc + len) ls (v.toList ++ rest) h1)
theorem aexec_S (f d : Nat) (M : aM) (pc : Nat) (ls : aL) (st : List Value) (h : aH) : aexec P X (f + 1) d M pc ls st h = a_body P X (aexec P X f) d M pc ls st h := by
  rw [aexec]; rfl
theorem a_more_mono {c s : Nat} {o o' : Option aQ} {r : aQ} (h : ∀ q, o = some q → o' = some q) (e : a_more c s o = some r) : a_more c s o' = some r := by
  cases o with
  | none => cases e
  | some q => rw [h q rfl]; exact e
theorem a_body_mono {rec rec' : Nat → aM → Nat → aL → List Value → aH → Option aQ} (hm : ∀ d M pc ls st h q, rec d M pc ls st h = some q → rec' d M pc ls st h = some q) {d : Nat} {M : aM} {pc : Nat} {ls : aL} {st : List Value} {h : aH} {r : aQ} (e : a_body P X rec d M pc ls st h = some r) : a_body P X rec' d M pc ls st h = some r := by
  unfold a_body at e ⊢
  cases hl : M.2.2.2.2.2.lookup pc with
  | none => rw [hl] at e; cases e
  | some q =>
    obtain ⟨i, len, k⟩ := q
    rw [hl] at e
    dsimp only at e ⊢
    cases ho : a_op X i len k pc ls st h with
    | some q =>
      obtain ⟨pc', ls', st', h', c, s⟩ := q
      rw [ho] at e
      dsimp only at e ⊢
      exact a_more_mono (fun q => hm _ _ _ _ _ _ q) e
    | none =>
      rw [ho] at e
      dsimp only at e ⊢
      cases hr : a_ret i k M.2.2.2.1 st with
      | some v => rw [hr] at e; exact e
      | none =>
        rw [hr] at e
        dsimp only at e ⊢
        cases hi : a_inv P i k st h with
        | none => rw [hi] at e; cases e
        | some q =>
          obtain ⟨M', as, rest⟩ := q
          rw [hi] at e
          dsimp only at e ⊢
          cases d with
          | zero => cases e
          | succ d' =>
            dsimp only at e ⊢
            cases hc : rec d' M' 0 (a_ent as M'.2.2.1) [] h with
            | none => rw [hc] at e; cases e
            | some q =>
              rw [hm _ _ _ _ _ _ _ hc]
              rw [hc] at e
              obtain ⟨v, h1, c, s⟩ := q
              dsimp only at e ⊢
              split at e
              · exact e
              · exact a_more_mono (fun q => hm _ _ _ _ _ _ q) e
theorem aexec_mono1 : ∀ (f : Nat) {d : Nat} {M : aM} {pc : Nat} {ls : aL} {st : List Value} {h : aH} {r : aQ}, aexec P X f d M pc ls st h = some r → aexec P X (f + 1) d M pc ls st h = some r
  | 0, _, _, _, _, _, _, _, e => by rw [aexec] at e; cases e
  | f + 1, _, _, _, _, _, _, _, e => by
    rw [aexec_S] at e ⊢
    exact a_body_mono (fun _ _ _ _ _ _ _ q => aexec_mono1 f q) e
theorem aexec_mono {f f' : Nat} (hf : f ≤ f') {d : Nat} {M : aM} {pc : Nat} {ls : aL} {st : List Value} {h : aH} {r : aQ} (e : aexec P X f d M pc ls st h = some r) : aexec P X f' d M pc ls st h = some r := by
  induction hf with
  | refl => exact e
  | step _ ih => exact aexec_mono1 _ ih
/-- a run comes to an end, with room used up to here -/
def aOK (P : List aM) (X : aX) (d : Nat) (M : aM) (pc : Nat) (ls : aL) (st : List Value) (h : aH) (C S : Nat) (K : Option Value → aH → Nat → Nat → Prop) : Prop :=
  ∃ f v h' c s, aexec P X f d M pc ls st h = some (v, h', c, s) ∧ K v h' (C + c) (S + s)
variable {d pc len C S : Nat} {M : aM} {ls : aL} {st : List Value} {h : aH} {i : Instr} {k : aK} {K : Option Value → aH → Nat → Nat → Prop}
theorem aOK_op {pc' c s : Nat} {ls' : aL} {st' : List Value} {h' : aH} (hl : M.2.2.2.2.2.lookup pc = some (i, len, k)) (ho : a_op X i len k pc ls st h = some (pc', ls', st', h', c, s)) (hk : aOK P X d M pc' ls' st' h' (C + c) (S + s) K) : aOK P X d M pc ls st h C S K := by
  obtain ⟨f, v, h2, c2, s2, e, q⟩ := hk
  refine ⟨f + 1, v, h2, c + c2, s + s2, ?_, by rw [← Nat.add_assoc, ← Nat.add_assoc]; exact q⟩
  rw [aexec_S]; unfold a_body; rw [hl]; dsimp only; rw [ho]; dsimp only; rw [e]; rfl
theorem aOK_ret {v : Option Value} (hl : M.2.2.2.2.2.lookup pc = some (i, len, k)) (ho : a_op X i len k pc ls st h = none) (hr : a_ret i k M.2.2.2.1 st = some v) (hv : ∀ n, v ≠ some (.retAddr n)) (hk : K v h C S) : aOK P X d M pc ls st h C S K := by
  refine ⟨1, v, h, 0, 0, ?_, hk⟩
  rw [aexec_S]; unfold a_body; rw [hl]; dsimp only; rw [ho]; dsimp only; rw [hr]; dsimp only
  split
  · rename_i n; exact absurd rfl (hv n)
  · rfl
theorem aOK_thr {n : Nat} (hl : M.2.2.2.2.2.lookup pc = some (i, len, k)) (ho : a_op X i len k pc ls st h = none) (hr : a_ret i k M.2.2.2.1 st = some (some (.retAddr n))) (hk : K (some (.retAddr n)) (h ++ [.inr (a_exc, [])]) (C + 1) (S + 6)) : aOK P X d M pc ls st h C S K := by
  refine ⟨1, _, _, 1, 6, ?_, hk⟩
  rw [aexec_S]; unfold a_body; rw [hl]; dsimp only; rw [ho]; dsimp only; rw [hr]
theorem aOK_call {M' : aM} {as rest : List Value} (hl : M.2.2.2.2.2.lookup pc = some (i, len, k)) (ho : a_op X i len k pc ls st h = none) (hr : a_ret i k M.2.2.2.1 st = none) (hi : a_inv P i k st h = some (M', as, rest))
    (hc : aOK P X d M' 0 (a_ent as M'.2.2.1) [] h C S (fun v h1 C1 S1 => ((∃ n, v = some (.retAddr n)) ∧ k.1 = 18 ∧ K (some (.int 1)) h1 C1 S1) ∨ ((∀ n, v ≠ some (.retAddr n)) ∧ aOK P X (d + 1) M (pc + len) ls (v.toList ++ rest) h1 C1 S1 K))) : aOK P X (d + 1) M pc ls st h C S K := by
  obtain ⟨f, v, h1, c, s, e, q⟩ := hc
  rcases q with ⟨⟨n, rfl⟩, hk, q⟩ | ⟨hv, f2, v2, h2, c2, s2, e2, q⟩
  · refine ⟨f + 1, _, h1, c, s, ?_, q⟩
    rw [aexec_S]; unfold a_body; rw [hl]; dsimp only; rw [ho]; dsimp only; rw [hr]; dsimp only; rw [hi]; dsimp only; rw [e]; dsimp only; rw [if_pos hk]
  · refine ⟨max f f2 + 1, v2, h2, c + c2, s + s2, ?_, by rw [← Nat.add_assoc, ← Nat.add_assoc]; exact q⟩
    rw [aexec_S]; unfold a_body; rw [hl]; dsimp only; rw [ho]; dsimp only; rw [hr]; dsimp only; rw [hi]; dsimp only; rw [aexec_mono (Nat.le_max_left _ _) e]; dsimp only
    split
    · rename_i n; exact absurd rfl (hv n)
    · rw [aexec_mono (Nat.le_max_right _ _) e2]; rfl
theorem aOK_imp {K' : Option Value → aH → Nat → Nat → Prop} (hk : ∀ v h C S, K v h C S → K' v h C S) (q : aOK P X d M pc ls st h C S K) : aOK P X d M pc ls st h C S K' := by
  obtain ⟨f, v, h2, c2, s2, e, q⟩ := q
  exact ⟨f, v, h2, c2, s2, e, hk _ _ _ _ q⟩
end ARUN
