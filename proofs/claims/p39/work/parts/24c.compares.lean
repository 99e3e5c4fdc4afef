/-! ===== v3: the reference's fractions: compares ===== -/
/-- a heap as another, but for these fields and these arrays -/
def y_fr (h H : aH) (fs as : List Nat) : Prop := w_hr z_D H ∧ (∀ key, key ∉ fs → w_f H key = w_f h key) ∧ ∀ o, o ∉ as → w_a H o = w_a h o
theorem w_nil {α : Type} {P : α → Prop} : ∀ q ∈ ([] : List α), P q := fun q h => by cases h
theorem w_cons {α : Type} {P : α → Prop} {q0 : α} {l : List α} (h0 : P q0) (h : ∀ q ∈ l, P q) : ∀ q ∈ q0 :: l, P q := fun q hq => by
  rcases List.mem_cons.mp hq with rfl | hq
  · exact h0
  · exact h q hq
theorem y_fr_rel {h H : aH} {hf : wF} {ha : wA} {fs as : List Nat} (hrel : w_rel z_D h hf ha H) (h1 : ∀ q ∈ hf, q.1 ∈ fs ∨ w_f h q.1 = some q.2) (h2 : ∀ q ∈ ha, q.1 ∈ as ∨ w_a h q.1 = some q.2) : y_fr h H fs as := by
  obtain ⟨r1, r2, r3, r4, r5⟩ := hrel
  refine ⟨r1, fun key hk => ?_, fun o ho => ?_⟩
  · cases hl : hf.lookup key with
    | none => exact r4 key hl
    | some v =>
      rw [r2 key v hl]
      rcases h1 _ (z_lk_in hl) with q | q
      · exact absurd q hk
      · exact q.symm
  · cases hl : ha.lookup o with
    | none => exact r5 o hl
    | some v =>
      rw [r3 o v hl]
      rcases h2 _ (z_lk_in hl) with q | q
      · exact absurd q ho
      · exact q.symm
theorem y_fr_rf {h : aH} (hr : w_hr z_D h) {fs as : List Nat} : y_fr h h fs as := ⟨hr, fun _ _ => rfl, fun _ _ => rfl⟩
theorem y_fr_tr {h H1 H2 : aH} {fs as fs' as' : List Nat} (h1 : y_fr h H1 fs as) (h2 : y_fr H1 H2 fs' as') (hf : ∀ x ∈ fs', x ∈ fs) (ha : ∀ x ∈ as', x ∈ as) : y_fr h H2 fs as := ⟨h2.1, fun key hk => (h2.2.1 key (fun q => hk (hf _ q))).trans (h1.2.1 key hk), fun o ho => (h2.2.2 o (fun q => ho (ha _ q))).trans (h1.2.2 o ho)⟩
theorem y_fr_mono {h H : aH} {fs as fs' as' : List Nat} (h1 : y_fr h H fs as) (hf : ∀ x ∈ fs, x ∈ fs') (ha : ∀ x ∈ as, x ∈ as') : y_fr h H fs' as' := ⟨h1.1, fun key hk => h1.2.1 key (fun q => hk (hf _ q)), fun o ho => h1.2.2 o (fun q => ho (ha _ q))⟩
theorem y_eq0 {a b : Int64} (h : a_cnd .eq (lg_cmp a b) 0 = false) : a ≠ b := fun e => by
  have : a_cnd .eq (lg_cmp a b) 0 = true := decide_eq_true ((lg_cmp_eq _ _).mpr e)
  rw [this] at h
  cases h
theorem y_ne0 {a b : Int64} (h : a_cnd .ne (lg_cmp a b) 0 = true) : a ≠ b := fun e => by
  have : a_cnd .ne (lg_cmp a b) 0 = false := by
    show (!decide (lg_cmp a b = 0)) = false
    rw [decide_eq_true ((lg_cmp_eq a b).mpr e)]
    rfl
  rw [this] at h
  cases h
theorem y_rem {x y : Int64} (hy : y ≠ 0) : (x - x / y * y).toInt.natAbs < y.toInt.natAbs := by
  rw [s_i64rem, Int.natAbs_tmod]
  refine Nat.mod_lt _ ?_
  have : y.toInt ≠ 0 := fun e => hy (Int64.toInt_inj.mp (by rw [e]; rfl))
  omega
section WG
variable {X : aX} {C S d : Nat} {K0 : Option Value → aH → Nat → Nat → Prop}
theorem y_cmp_loop {a b c e : Int64} : ∀ (n : Nat) (h : aH) (w0 w1 w2 w3 : Int64) (s : Int32) (o1 o2 o3 o4 : Option Value), w_hr z_D h → w_a h 155 = some (1, .inr (.inl [w0, w1, w2, w3])) → w1 ≠ 0 → w3 ≠ 0 → w1.toInt.natAbs < n → (s = 1 ∨ s = -1) →
    (∀ (r : Int32) (H : aH), (r = 1 ∨ r = -1 ∨ r = 0) → y_fr h H [] [155] → K0 (some (.int r)) H C S) →
    aOK s_P X d a_m203 33 [some (.ref 155), some (.long a), none, some (.long b), none, some (.long c), none, some (.long e), none, some (.int s), o1, none, o2, none, o3, none, o4, none] [] h C S K0
  | 0, _, _, _, _, _, _, _, _, _, _, _, _, _, _, hn, _, _ => absurd hn (Nat.not_lt_zero _)
  | n + 1, h, w0, w1, w2, w3, s, o1, o2, o3, o4, hr, hw, h1, h3, hn, hs, hk => by
    have hn' : ∀ r : Int32, (r = s ∨ r = -s ∨ r = 0) → (r = 1 ∨ r = -1 ∨ r = 0) := by
      intro r hq
      rcases hs with rfl | rfl <;> rcases hq with rfl | rfl | rfl <;> decide
    have hfin : ∀ (r : Int32), (r = s ∨ r = -s ∨ r = 0) → ∀ {l : List Int64}, w_a h 155 = some (1, .inr (.inl l)) → ∀ H, w_rel z_D h [] [(155, (1, .inr (.inl l)))] H → K0 (some (.int r)) H C S := fun r hq l hl H hH => hk r H (hn' r hq) (y_fr_rel hH w_nil (w_cons (Or.inl List.mem_cons_self) w_nil))
    refine w_go z_hl [33] [] 200 hr ?_
    refine ⟨by decide, fun l hl hlen hbb => ?_⟩
    have e0 : l = [w0, w1, w2, w3] := by
      have := hl.symm.trans hw
      cases this
      rfl
    subst e0
    refine ⟨by decide, h1, by decide, by decide, h3, fun q1 => ?_, fun q1 => ?_⟩
    · refine ⟨by decide, by decide, h1, by decide, by decide, h3, fun q2 => ?_, fun q2 => ?_⟩
      · refine ⟨fun q3 => ⟨fun q4 => ?_, fun q4 => ?_⟩, fun q3 => ?_⟩
        · exact hfin s (Or.inl rfl) hl
        · exact hfin (-s) (Or.inr (Or.inl rfl)) hl
        · exact hfin 0 (Or.inr (Or.inr rfl)) hl
      · refine ⟨fun q3 => ?_, fun q3 => ⟨fun q4 => ⟨fun q5 => ?_, fun q5 => ?_⟩, fun q4 => ?_⟩⟩
        · refine ⟨by decide, by decide, y_l64 _, by decide, y_l64 _, by decide, by decide, y_l64 _, by decide, y_l64 _, ?_⟩
          intro H hH
          refine y_cmp_loop n H w1 (w0 - w0 / w1 * w1) w3 (w2 - w2 / w3 * w3) (-s) _ _ _ _ hH.1 (hH.2.2.1 155 _ rfl) (y_eq0 q2) (y_ne0 q3) (by have := y_rem (x := w0) h1; omega) (by rcases hs with rfl | rfl <;> decide) (fun r H' hr' hf' => hk r H' hr' (y_fr_tr (y_fr_rel hH w_nil ?_) hf' (fun _ q => q) (fun _ q => q)))
          exact w_cons (Or.inl List.mem_cons_self) (w_cons (Or.inl List.mem_cons_self) (w_cons (Or.inl List.mem_cons_self) (w_cons (Or.inl List.mem_cons_self) (w_cons (Or.inl List.mem_cons_self) w_nil))))
        · exact hfin s (Or.inl rfl) hl
        · exact hfin (-s) (Or.inr (Or.inl rfl)) hl
        · exact hfin 0 (Or.inr (Or.inr rfl)) hl
    · refine ⟨fun q2 => ?_, fun q2 => ?_⟩
      · exact hfin s (Or.inl rfl) hl
      · exact hfin (-s) (Or.inr (Or.inl rfl)) hl
theorem y_compares {h : aH} (hr : w_hr z_D h) {a b c e : Int64} (hb : b ≠ 0) (he : e ≠ 0) (hk : ∀ (r : Int32) (H : aH), (r = 1 ∨ r = -1 ∨ r = 0) → y_fr h H [] [155] → K0 (some (.int r)) H C S) : aOK s_P X d a_m203 0 [some (.ref 155), some (.long a), none, some (.long b), none, some (.long c), none, some (.long e), none, none, none, none, none, none, none, none, none, none] [] h C S K0 := by
  refine w_go z_hl [33] [] 60 hr ?_
  refine ⟨by decide, y_l64 _, fun l hl hlen hbb => ?_⟩
  obtain ⟨x0, x1, x2, x3, rfl⟩ : ∃ x0 x1 x2 x3, l = [x0, x1, x2, x3] := by
    match l, hlen with
    | [x0, x1, x2, x3], _ => exact ⟨x0, x1, x2, x3, rfl⟩
  refine ⟨by decide, y_l64 _, by decide, y_l64 _, by decide, y_l64 _, ?_⟩
  intro H hH
  refine y_cmp_loop s_big H a b c e 1 _ _ _ _ hH.1 (hH.2.2.1 155 _ rfl) hb he (s_lt_big b) (Or.inl rfl) (fun r H' hr' hf' => hk r H' hr' (y_fr_tr (y_fr_rel hH w_nil ?_) hf' (fun _ q => q) (fun _ q => q)))
  exact w_cons (Or.inl List.mem_cons_self) (w_cons (Or.inl List.mem_cons_self) (w_cons (Or.inl List.mem_cons_self) (w_cons (Or.inl List.mem_cons_self) (w_cons (Or.inl List.mem_cons_self) w_nil))))
end WG
