/-! ===== v3: the reference's goesOn, apart ===== -/
def y_z (l : List Int32) : Nat → Nat
  | 0 => 0
  | n + 1 => y_z l n + if l.getD n 0 = 0 then 1 else 0
theorem y_z_le (l : List Int32) : ∀ n, y_z l n ≤ n
  | 0 => Nat.le_refl 0
  | n + 1 => by
    show y_z l n + (if l.getD n 0 = 0 then 1 else 0) ≤ n + 1
    have := y_z_le l n
    split <;> omega
theorem y_z_ge {l : List Int32} {k : Nat} {x : Int32} (hl : k < l.length) : ∀ {n : Nat}, n ≤ k → y_z (l.set k x) n = y_z l n
  | 0, _ => rfl
  | n + 1, h => by
    show y_z (l.set k x) n + (if (l.set k x).getD n 0 = 0 then 1 else 0) = y_z l n + (if l.getD n 0 = 0 then 1 else 0)
    rw [y_z_ge hl (by omega), y_gset hl, if_neg (show ¬ n = k by omega)]
theorem y_z_set {l : List Int32} {k : Nat} {x : Int32} (hl : k < l.length) (h0 : l.getD k 0 = 0) (hx : x ≠ 0) : ∀ {n : Nat}, k < n → y_z (l.set k x) n + 1 = y_z l n
  | 0, h => absurd h (by omega)
  | n + 1, h => by
    show y_z (l.set k x) n + (if (l.set k x).getD n 0 = 0 then 1 else 0) + 1 = y_z l n + (if l.getD n 0 = 0 then 1 else 0)
    rw [y_gset hl]
    by_cases q : n = k
    · subst q
      rw [if_pos rfl, if_neg hx, if_pos h0, y_z_ge hl (Nat.le_refl n)]
    · rw [if_neg q]
      have := y_z_set hl h0 hx (n := n) (by omega)
      omega
theorem y_set0 {l : List Int32} {k : Nat} (hl : k < l.length) (h0 : l.getD k 0 = 0) : l.set k (Int32.ofInt 0) = l := by
  apply List.ext_getElem? 
  intro i
  rw [List.getElem?_set]
  split
  · rename_i e
    subst e
    rw [List.getElem?_eq_getElem hl]
    rw [List.getD_eq_getElem?_getD, List.getElem?_eq_getElem hl] at h0
    have h0' : l[k] = 0 := h0
    rw [h0']
    rfl
  · rfl
section WG
variable {X : aX} {C S d : Nat} {K0 : Option Value → aH → Nat → Nat → Prop}
theorem y_leansOn {h : aH} (hr : w_hr z_D h) {v on : Int32} (v0 : 0 ≤ v.toInt) (v10 : v.toInt < 10) (hK : ∀ (b : Bool) (H : aH), y_fr h H [] [] → K0 (some (.int (y_01 b))) H C S) : aOK s_P X (d + 1) a_m211 0 [some (.ref 155), some (.int v), some (.int on)] [] h C S K0 := by
  refine w_go z_hl [] [] 60 hr ?_
  refine ⟨⟨by omega, by omega⟩, fun l hl len bb => ⟨fun _ => ⟨by decide, fun H hH => ?_⟩, fun _ => ⟨⟨by omega, by omega⟩, fun l2 hl2 len2 bb2 => ⟨fun _ => ⟨by decide, ⟨fun _ => ⟨by decide, fun H hH => ?_⟩, fun q => absurd q (by decide)⟩⟩, fun _ => ⟨by decide, ⟨fun q => absurd q (by decide), fun _ => ⟨by decide, fun H hH => ?_⟩⟩⟩⟩⟩⟩⟩
  · exact hK false H (y_st (y_rf hr) hH (by repeat (first | exact w_nil | refine w_cons (Or.inl (y_m rfl)) ?_ | refine w_cons (Or.inr (by assumption)) ?_)) (by repeat (first | exact w_nil | refine w_cons (Or.inl (y_m rfl)) ?_ | refine w_cons (Or.inr (by assumption)) ?_)))
  · exact hK false H (y_st (y_rf hr) hH (by repeat (first | exact w_nil | refine w_cons (Or.inl (y_m rfl)) ?_ | refine w_cons (Or.inr (by assumption)) ?_)) (by repeat (first | exact w_nil | refine w_cons (Or.inl (y_m rfl)) ?_ | refine w_cons (Or.inr (by assumption)) ?_)))
  · exact hK true H (y_st (y_rf hr) hH (by repeat (first | exact w_nil | refine w_cons (Or.inl (y_m rfl)) ?_ | refine w_cons (Or.inr (by assumption)) ?_)) (by repeat (first | exact w_nil | refine w_cons (Or.inl (y_m rfl)) ?_ | refine w_cons (Or.inr (by assumption)) ?_)))
theorem y_given_loop {node gv nd : Int32} (n0 : 0 ≤ nd.toInt) (n10 : nd.toInt ≤ 10) : ∀ (M : Nat) (h : aH) (its rI vI oI : Int32), w_hr z_D h → w_f h 19591 = some (.int nd) → 0 ≤ rI.toInt → rI.toInt < nd.toInt → 0 ≤ vI.toInt → vI.toInt < nd.toInt → 0 ≤ oI.toInt → oI.toInt ≤ nd.toInt → ((nd.toInt - rI.toInt) * 12 + (nd.toInt - vI.toInt)) * 12 + (nd.toInt - oI.toInt) ≤ M →
    (∀ (b : Bool) (H : aH), y_fr h H [] [] → K0 (some (.int (y_01 b))) H C S) →
    aOK s_P X (d + 2) a_m212 31 [some (.ref 155), some (.int node), some (.int gv), some (.int its), some (.int rI), some (.int vI), some (.int oI)] [] h C S K0 := by
  intro M
  induction M with
  | zero =>
    intro h its rI vI oI hr g1 r0 r1 v0 v1 o0 o1 hM hK
    omega
  | succ M ih =>
    intro h its rI vI oI hr g1 r0 r1 v0 v1 o0 o1 hM hK
    have ir : (rI + Int32.ofInt 1).toInt = rI.toInt + 1 := y_inc (by omega)
    have iv : (vI + Int32.ofInt 1).toInt = vI.toInt + 1 := y_inc (by omega)
    have z0 : (Int32.ofInt 0).toInt = 0 := by decide
    have again : ∀ {H : aH} {its' r' v' o' : Int32}, y_fr h H [] [] → 0 ≤ r'.toInt → r'.toInt < nd.toInt → 0 ≤ v'.toInt → v'.toInt < nd.toInt → 0 ≤ o'.toInt → o'.toInt ≤ nd.toInt → ((nd.toInt - r'.toInt) * 12 + (nd.toInt - v'.toInt)) * 12 + (nd.toInt - o'.toInt) ≤ M → aOK s_P X (d + 2) a_m212 31 [some (.ref 155), some (.int node), some (.int gv), some (.int its'), some (.int r'), some (.int v'), some (.int o')] [] H C S K0 := fun e a1 a2 a3 a4 a5 a6 a7 => ih _ _ _ _ _ e.1 ((y_fe e rfl).trans g1) a1 a2 a3 a4 a5 a6 a7 (fun b H' f => hK b H' (y_sq e f rfl rfl))
    have T69 : ∀ {G : aH} {x : Int32}, y_fr h G [] [] → oI.toInt < nd.toInt → aOK s_P X (d + 2) a_m212 69 [some (.ref 155), some (.int node), some (.int gv), some (.int its), some (.int rI), some (.int vI), some (.int oI)] [.int x, .int its] G C S K0 := by
      intro G x e ho
      have io : (oI + Int32.ofInt 1).toInt = oI.toInt + 1 := y_inc (by omega)
      refine w_go z_hl [31] [] 30 e.1 ?_
      intro H hH
      exact again (y_st e hH (by repeat (first | exact w_nil | refine w_cons (Or.inl (y_m rfl)) ?_ | refine w_cons (Or.inr (by assumption)) ?_)) (by repeat (first | exact w_nil | refine w_cons (Or.inl (y_m rfl)) ?_ | refine w_cons (Or.inr (by assumption)) ?_))) r0 r1 v0 v1 (by omega) (by omega) (by omega)
    have T58 : ∀ {G : aH} {b : Bool}, y_fr h G [] [] → oI.toInt < nd.toInt → aOK s_P X (d + 2) a_m212 58 [some (.ref 155), some (.int node), some (.int gv), some (.int its), some (.int rI), some (.int vI), some (.int oI)] [.int (y_01 b), .int its] G C S K0 := by
      intro G b e ho
      refine w_go z_hl [69] [] 30 e.1 ?_
      exact ⟨fun _ => fun H hH => T69 (y_st e hH (by repeat (first | exact w_nil | refine w_cons (Or.inl (y_m rfl)) ?_ | refine w_cons (Or.inr (by assumption)) ?_)) (by repeat (first | exact w_nil | refine w_cons (Or.inl (y_m rfl)) ?_ | refine w_cons (Or.inr (by assumption)) ?_))) ho, fun _ => fun H hH => T69 (y_st e hH (by repeat (first | exact w_nil | refine w_cons (Or.inl (y_m rfl)) ?_ | refine w_cons (Or.inr (by assumption)) ?_)) (by repeat (first | exact w_nil | refine w_cons (Or.inl (y_m rfl)) ?_ | refine w_cons (Or.inr (by assumption)) ?_))) ho⟩
    refine w_go z_hl [31, 69] [211] 60 hr ?_
    intro x hx _ _
    obtain rfl := y_fi g1 hx
    refine ⟨fun q => ?_, fun q => ?_⟩
    · have q2 : nd.toInt ≤ oI.toInt := (y_ci .ge _ _).mp q
      refine ⟨fun q3 => ?_, fun q3 => fun H hH => ?_⟩
      · have q4 : nd.toInt ≤ (vI + Int32.ofInt 1).toInt := (y_ci .ge _ _).mp q3
        refine ⟨fun q5 => ⟨fun _ => ⟨by decide, fun H hH => hK false H (y_st (y_rf hr) hH (by repeat (first | exact w_nil | refine w_cons (Or.inl (y_m rfl)) ?_ | refine w_cons (Or.inr (by assumption)) ?_)) (by repeat (first | exact w_nil | refine w_cons (Or.inl (y_m rfl)) ?_ | refine w_cons (Or.inr (by assumption)) ?_)))⟩, fun _ => ⟨by decide, fun H hH => hK true H (y_st (y_rf hr) hH (by repeat (first | exact w_nil | refine w_cons (Or.inl (y_m rfl)) ?_ | refine w_cons (Or.inr (by assumption)) ?_)) (by repeat (first | exact w_nil | refine w_cons (Or.inl (y_m rfl)) ?_ | refine w_cons (Or.inr (by assumption)) ?_)))⟩⟩, fun q5 => ⟨fun q7 => ?_, fun q7 => fun H hH => ?_⟩⟩
        · have q6 : nd.toInt ≤ (Int32.ofInt 0).toInt := (y_ci .ge _ _).mp q7
          omega
        · have q6 : ¬ (nd.toInt ≤ (rI + Int32.ofInt 1).toInt) := y_cif q5
          exact again (y_st (y_rf hr) hH (by repeat (first | exact w_nil | refine w_cons (Or.inl (y_m rfl)) ?_ | refine w_cons (Or.inr (by assumption)) ?_)) (by repeat (first | exact w_nil | refine w_cons (Or.inl (y_m rfl)) ?_ | refine w_cons (Or.inr (by assumption)) ?_))) (by omega) (by omega) (by omega) (by omega) (by omega) (by omega) (by omega)
      · have q4 : ¬ (nd.toInt ≤ (vI + Int32.ofInt 1).toInt) := y_cif q3
        exact again (y_st (y_rf hr) hH (by repeat (first | exact w_nil | refine w_cons (Or.inl (y_m rfl)) ?_ | refine w_cons (Or.inr (by assumption)) ?_)) (by repeat (first | exact w_nil | refine w_cons (Or.inl (y_m rfl)) ?_ | refine w_cons (Or.inr (by assumption)) ?_))) r0 r1 (by omega) (by omega) (by omega) (by omega) (by omega)
    · have q2 : ¬ (nd.toInt ≤ oI.toInt) := y_cif q
      have lO : ∀ {H : aH}, y_fr h H [] [] → aOK s_P X (d + 1) a_m211 0 [some (.ref 155), some (.int vI), some (.int oI)] [] H C S (w_KF s_P X K0 (d + 1) [(a_m212, 58, [some (.ref 155), some (.int node), some (.int gv), some (.int its), some (.int rI), some (.int vI), some (.int oI)], [.int its])]) := by
        intro H e
        refine y_leansOn e.1 v0 (by omega) (fun b H2 e2 => ⟨fun n e => (by cases e), ?_⟩)
        exact T58 (y_sq e e2 rfl rfl) (by omega)
      refine ⟨fun _ => ⟨by decide, ⟨fun _ => fun H hH => T69 (y_st (y_rf hr) hH (by repeat (first | exact w_nil | refine w_cons (Or.inl (y_m rfl)) ?_ | refine w_cons (Or.inr (by assumption)) ?_)) (by repeat (first | exact w_nil | refine w_cons (Or.inl (y_m rfl)) ?_ | refine w_cons (Or.inr (by assumption)) ?_))) (by omega), fun q => absurd q (by decide)⟩⟩, fun _ => ⟨by decide, ⟨fun q => absurd q (by decide), fun _ => fun H hH => lO (y_st (y_rf hr) hH (by repeat (first | exact w_nil | refine w_cons (Or.inl (y_m rfl)) ?_ | refine w_cons (Or.inr (by assumption)) ?_)) (by repeat (first | exact w_nil | refine w_cons (Or.inl (y_m rfl)) ?_ | refine w_cons (Or.inr (by assumption)) ?_)))⟩⟩⟩
theorem y_given {h : aH} (hr : w_hr z_D h) {node gv nd : Int32} (g1 : w_f h 19591 = some (.int nd)) (hK : ∀ (b : Bool) (H : aH), y_fr h H [] [] → K0 (some (.int (y_01 b))) H C S) : aOK s_P X (d + 2) a_m212 0 [some (.ref 155), some (.int node), some (.int gv), none, none, none, none] [] h C S K0 := by
  obtain ⟨b1, b2⟩ := y_ndb hr g1
  have z0 : (Int32.ofInt 0).toInt = 0 := by decide
  refine w_go z_hl [31] [] 60 hr ?_
  intro x hx _ _
  obtain rfl := y_fi g1 hx
  refine ⟨fun q => ⟨fun _ => ⟨by decide, fun H hH => hK false H (y_st (y_rf hr) hH (by repeat (first | exact w_nil | refine w_cons (Or.inl (y_m rfl)) ?_ | refine w_cons (Or.inr (by assumption)) ?_)) (by repeat (first | exact w_nil | refine w_cons (Or.inl (y_m rfl)) ?_ | refine w_cons (Or.inr (by assumption)) ?_)))⟩, fun _ => ⟨by decide, fun H hH => hK true H (y_st (y_rf hr) hH (by repeat (first | exact w_nil | refine w_cons (Or.inl (y_m rfl)) ?_ | refine w_cons (Or.inr (by assumption)) ?_)) (by repeat (first | exact w_nil | refine w_cons (Or.inl (y_m rfl)) ?_ | refine w_cons (Or.inr (by assumption)) ?_)))⟩⟩, fun q => ⟨fun q7 => ?_, fun q7 => fun H hH => ?_⟩⟩
  · have q6 : nd.toInt ≤ (Int32.ofInt 0).toInt := (y_ci .ge _ _).mp q7
    have q8 : ¬ (nd.toInt ≤ (Int32.ofInt 0).toInt) := y_cif q
    omega
  · have q8 : ¬ (nd.toInt ≤ (Int32.ofInt 0).toInt) := y_cif q
    have e : y_fr h H [] [] := y_st (y_rf hr) hH (by repeat (first | exact w_nil | refine w_cons (Or.inl (y_m rfl)) ?_ | refine w_cons (Or.inr (by assumption)) ?_)) (by repeat (first | exact w_nil | refine w_cons (Or.inl (y_m rfl)) ?_ | refine w_cons (Or.inr (by assumption)) ?_))
    exact y_given_loop b1 b2 2000 H _ _ _ _ e.1 ((y_fe e rfl).trans g1) (by omega) (by omega) (by omega) (by omega) (by omega) (by omega) (by omega) (fun b H' f => hK b H' (y_sq e f rfl rfl))
def y_GO (X : aX) (C S d N : Nat) : Prop := ∀ (h : aH) (from' here end' gv nd : Int32) (p : Nat) (l : List Int32) (K0 : Option Value → aH → Nat → Nat → Prop), w_hr z_D h → w_f h 19591 = some (.int nd) → w_a h 164 = some (2, .inl l) → l.length = 10 → here.toInt = p → p < 10 → y_z (l.set p (Int32.ofInt 1)) 10 ≤ N →
    (∀ (r : Int32) (H : aH), 0 ≤ r.toInt → r.toInt ≤ 1 → y_fr h H [] [164] → (w_a H 164 = some (2, .inl l) ∨ w_a H 164 = some (2, .inl (l.set p (Int32.ofInt 0)))) → K0 (some (.int r)) H C S) →
    aOK s_P X (N + d + 3) a_m210 0 [some (.ref 155), some (.int from'), some (.int here), some (.int end'), some (.int gv), none, none, none, none] [] h C S K0
theorem y_goes_loop {N : Nat} (ih : ∀ N', N = N' + 1 → y_GO X C S d N') {from' here end' gv nd : Int32} {p : Nat} {l1 : List Int32} (n0 : 0 ≤ nd.toInt) (n10 : nd.toInt ≤ 10) (hl1 : l1.length = 10) (hp : here.toInt = p) (p10 : p < 10) (hz : y_z l1 10 ≤ N) : ∀ (t : Nat) (h : aH) (isI nI : Int32) (k : Nat) (o7 o8 : Option Value), w_hr z_D h → w_f h 19591 = some (.int nd) → w_a h 164 = some (2, .inl l1) → nI.toInt = k → (k : Int) + t = nd.toInt → 0 ≤ isI.toInt → isI.toInt ≤ 1 →
    (∀ (r : Int32) (H : aH), 0 ≤ r.toInt → r.toInt ≤ 1 → y_fr h H [] [164] → w_a H 164 = some (2, .inl (l1.set p (Int32.ofInt 0))) → K0 (some (.int r)) H C S) →
    aOK s_P X (N + d + 3) a_m210 20 [some (.ref 155), some (.int from'), some (.int here), some (.int end'), some (.int gv), some (.int isI), some (.int nI), o7, o8] [] h C S K0 := by
  intro t
  induction t with
  | zero =>
    intro h isI nI k o7 o8 hr g1 g2 hk hkt i0 i1 hK
    have T162 : ∀ {G : aH}, y_fr h G [] [] → aOK s_P X (N + d + 3) a_m210 162 [some (.ref 155), some (.int from'), some (.int here), some (.int end'), some (.int gv), some (.int isI), some (.int nI), o7, o8] [] G C S K0 := by
      intro G e
      refine w_go z_hl [] [] 30 e.1 ?_
      refine ⟨⟨by omega, by omega⟩, by decide, fun l hl len bb => ?_⟩
      obtain rfl := y_ai ((y_ae e rfl).trans g2) hl
      refine ⟨⟨i0, i1⟩, fun H hH => ?_⟩
      have A := hH.2.2.1 164 _ rfl
      rw [y_cl1 hp] at A
      exact hK _ H i0 i1 (y_st (y_mo e rfl rfl) hH (by repeat (first | exact w_nil | refine w_cons (Or.inl (y_m rfl)) ?_ | refine w_cons (Or.inr (by assumption)) ?_)) (by repeat (first | exact w_nil | refine w_cons (Or.inl (y_m rfl)) ?_ | refine w_cons (Or.inr (by assumption)) ?_))) A
    refine w_go z_hl [20, 162] [] 30 hr ?_
    intro x hx _ _
    obtain rfl := y_fi g1 hx
    refine ⟨fun _ => fun H hH => T162 (y_st (y_rf hr) hH (by repeat (first | exact w_nil | refine w_cons (Or.inl (y_m rfl)) ?_ | refine w_cons (Or.inr (by assumption)) ?_)) (by repeat (first | exact w_nil | refine w_cons (Or.inl (y_m rfl)) ?_ | refine w_cons (Or.inr (by assumption)) ?_))), fun q => ?_⟩
    have : ¬ (nd.toInt ≤ nI.toInt) := y_cif q
    omega
  | succ t iht =>
    intro h isI nI k o7 o8 hr g1 g2 hk hkt i0 i1 hK
    have ink : (nI + Int32.ofInt 1).toInt = ((k + 1 : Nat) : Int) := by rw [y_inc (by omega), hk]; rfl
    have kc := y_cl1 hk
    have T162 : ∀ {G : aH}, y_fr h G [] [] → aOK s_P X (N + d + 3) a_m210 162 [some (.ref 155), some (.int from'), some (.int here), some (.int end'), some (.int gv), some (.int isI), some (.int nI), o7, o8] [] G C S K0 := by
      intro G e
      refine w_go z_hl [] [] 30 e.1 ?_
      refine ⟨⟨by omega, by omega⟩, by decide, fun l hl len bb => ?_⟩
      obtain rfl := y_ai ((y_ae e rfl).trans g2) hl
      refine ⟨⟨i0, i1⟩, fun H hH => ?_⟩
      have A := hH.2.2.1 164 _ rfl
      rw [y_cl1 hp] at A
      exact hK _ H i0 i1 (y_st (y_mo e rfl rfl) hH (by repeat (first | exact w_nil | refine w_cons (Or.inl (y_m rfl)) ?_ | refine w_cons (Or.inr (by assumption)) ?_)) (by repeat (first | exact w_nil | refine w_cons (Or.inl (y_m rfl)) ?_ | refine w_cons (Or.inr (by assumption)) ?_))) A
    have next : ∀ {G : aH} {is' : Int32} {o7 o8 : Option Value}, y_fr h G [] [164] → w_a G 164 = some (2, .inl l1) → 0 ≤ is'.toInt → is'.toInt ≤ 1 → aOK s_P X (N + d + 3) a_m210 156 [some (.ref 155), some (.int from'), some (.int here), some (.int end'), some (.int gv), some (.int is'), some (.int nI), o7, o8] [] G C S K0 := by
      intro G is' o7 o8 e a j0 j1
      refine w_go z_hl [20] [] 30 e.1 ?_
      intro H hH
      have f : y_fr G H [] [] := y_st (y_rf e.1) hH (by repeat (first | exact w_nil | refine w_cons (Or.inl (y_m rfl)) ?_ | refine w_cons (Or.inr (by assumption)) ?_)) (by repeat (first | exact w_nil | refine w_cons (Or.inl (y_m rfl)) ?_ | refine w_cons (Or.inr (by assumption)) ?_))
      have e2 := y_sq e f rfl rfl
      exact iht H _ _ (k + 1) _ _ e2.1 ((y_fe e2 rfl).trans g1) ((y_ae f rfl).trans a) ink (by omega) j0 j1 (fun r H' u1 u2 u3 u4 => hK r H' u1 u2 (y_sq e2 u3 rfl rfl) u4)
    have T146 : ∀ {G : aH} {r : Int32} {o7 o8 : Option Value}, y_fr h G [] [164] → w_a G 164 = some (2, .inl l1) → aOK s_P X (N + d + 3) a_m210 146 [some (.ref 155), some (.int from'), some (.int here), some (.int end'), some (.int gv), some (.int isI), some (.int nI), o7, o8] [.int r] G C S K0 := by
      intro G r o7 o8 e a
      refine w_go z_hl [156] [] 30 e.1 ?_
      refine ⟨fun _ => fun H hH => ?_, fun _ => fun H hH => ?_⟩
      · have f : y_fr G H [] [] := y_st (y_rf e.1) hH (by repeat (first | exact w_nil | refine w_cons (Or.inl (y_m rfl)) ?_ | refine w_cons (Or.inr (by assumption)) ?_)) (by repeat (first | exact w_nil | refine w_cons (Or.inl (y_m rfl)) ?_ | refine w_cons (Or.inr (by assumption)) ?_))
        exact next (y_sq e f rfl rfl) ((y_ae f rfl).trans a) (by decide) (by decide)
      · have f : y_fr G H [] [] := y_st (y_rf e.1) hH (by repeat (first | exact w_nil | refine w_cons (Or.inl (y_m rfl)) ?_ | refine w_cons (Or.inr (by assumption)) ?_)) (by repeat (first | exact w_nil | refine w_cons (Or.inl (y_m rfl)) ?_ | refine w_cons (Or.inr (by assumption)) ?_))
        exact next (y_sq e f rfl rfl) ((y_ae f rfl).trans a) (by decide) (by decide)
    have T131 : ∀ {G : aH} {fr : Int32} {o8 : Option Value}, y_fr h G [] [] → l1.getD k 0 = 0 → aOK s_P X (N + d + 3) a_m210 131 [some (.ref 155), some (.int from'), some (.int here), some (.int end'), some (.int gv), some (.int isI), some (.int nI), some (.int fr), o8] [] G C S K0 := by
      intro G fr o8 e hl0
      have hzz := y_z_set (l := l1) (k := k) (x := Int32.ofInt 1) (by omega) hl0 (by decide) (n := 10) (by omega)
      obtain ⟨N', hN⟩ : ∃ N', N = N' + 1 := ⟨N - 1, by omega⟩
      refine w_go z_hl [156] [210] 30 e.1 ?_
      refine ⟨fun _ => fun H hH => ?_, fun _ => fun H hH => ?_⟩
      · have f := y_st e hH (by repeat (first | exact w_nil | refine w_cons (Or.inl (y_m rfl)) ?_ | refine w_cons (Or.inr (by assumption)) ?_)) (by repeat (first | exact w_nil | refine w_cons (Or.inl (y_m rfl)) ?_ | refine w_cons (Or.inr (by assumption)) ?_))
        exact next (y_mo f rfl rfl) ((y_ae f rfl).trans g2) (by decide) (by decide)
      · have f := y_st e hH (by repeat (first | exact w_nil | refine w_cons (Or.inl (y_m rfl)) ?_ | refine w_cons (Or.inr (by assumption)) ?_)) (by repeat (first | exact w_nil | refine w_cons (Or.inl (y_m rfl)) ?_ | refine w_cons (Or.inr (by assumption)) ?_))
        refine aOK_deep (d := N' + d + 3) (by omega) ?_
        refine ih N' hN H _ _ _ _ nd k l1 _ f.1 ((y_fe f rfl).trans g1) ((y_ae f rfl).trans g2) hl1 hk (by omega) (by omega) (fun r H2 u1 u2 u3 u4 => ⟨fun n e => (by cases e), ?_⟩)
        refine T146 (y_sq (y_mo f rfl rfl) u3 rfl rfl) ?_
        rcases u4 with u4 | u4
        · exact u4
        · rw [y_set0 (by omega) hl0] at u4
          exact u4
    have T129 : ∀ {G : aH} {fr : Int32} {o7 o8 : Option Value}, y_fr h G [] [] → l1.getD k 0 = 0 → aOK s_P X (N + d + 3) a_m210 129 [some (.ref 155), some (.int from'), some (.int here), some (.int end'), some (.int gv), some (.int isI), some (.int nI), o7, o8] [.int fr] G C S K0 := by
      intro G fr o7 o8 e hl0
      refine w_go z_hl [131] [] 30 e.1 ?_
      intro H hH
      exact T131 (y_st e hH (by repeat (first | exact w_nil | refine w_cons (Or.inl (y_m rfl)) ?_ | refine w_cons (Or.inr (by assumption)) ?_)) (by repeat (first | exact w_nil | refine w_cons (Or.inl (y_m rfl)) ?_ | refine w_cons (Or.inr (by assumption)) ?_))) hl0
    have T112 : ∀ {G : aH} {fr : Int32} {o7 o8 : Option Value}, y_fr h G [] [] → l1.getD k 0 = 0 → aOK s_P X (N + d + 3) a_m210 112 [some (.ref 155), some (.int from'), some (.int here), some (.int end'), some (.int gv), some (.int isI), some (.int nI), o7, o8] [.int fr] G C S K0 := by
      intro G fr o7 o8 e hl0
      refine w_go z_hl [129] [] 30 e.1 ?_
      intro H hH
      exact T129 (y_st e hH (by repeat (first | exact w_nil | refine w_cons (Or.inl (y_m rfl)) ?_ | refine w_cons (Or.inr (by assumption)) ?_)) (by repeat (first | exact w_nil | refine w_cons (Or.inl (y_m rfl)) ?_ | refine w_cons (Or.inr (by assumption)) ?_))) hl0
    have T98 : ∀ {G : aH} {b : Int32} {x7 : Int32} {o8 : Option Value}, y_fr h G [] [] → l1.getD k 0 = 0 → aOK s_P X (N + d + 3) a_m210 98 [some (.ref 155), some (.int from'), some (.int here), some (.int end'), some (.int gv), some (.int isI), some (.int nI), some (.int x7), o8] [.int b] G C S K0 := by
      intro G b x7 o8 e hl0
      refine w_go z_hl [129] [212] 40 e.1 ?_
      refine ⟨fun _ => ⟨fun _ => ⟨by decide, ⟨fun q => absurd q (by decide), fun _ => fun H hH => T129 (y_st e hH (by repeat (first | exact w_nil | refine w_cons (Or.inl (y_m rfl)) ?_ | refine w_cons (Or.inr (by assumption)) ?_)) (by repeat (first | exact w_nil | refine w_cons (Or.inl (y_m rfl)) ?_ | refine w_cons (Or.inr (by assumption)) ?_))) hl0⟩⟩, fun _ => ⟨by decide, ⟨fun _ => fun H hH => T129 (y_st e hH (by repeat (first | exact w_nil | refine w_cons (Or.inl (y_m rfl)) ?_ | refine w_cons (Or.inr (by assumption)) ?_)) (by repeat (first | exact w_nil | refine w_cons (Or.inl (y_m rfl)) ?_ | refine w_cons (Or.inr (by assumption)) ?_))) hl0, fun q => absurd q (by decide)⟩⟩⟩, fun _ => fun H hH => ?_⟩
      have f := y_st e hH (by repeat (first | exact w_nil | refine w_cons (Or.inl (y_m rfl)) ?_ | refine w_cons (Or.inr (by assumption)) ?_)) (by repeat (first | exact w_nil | refine w_cons (Or.inl (y_m rfl)) ?_ | refine w_cons (Or.inr (by assumption)) ?_))
      refine y_given f.1 ((y_fe f rfl).trans g1) (fun b H2 e2 => ⟨fun n e => (by cases e), ?_⟩)
      exact T112 (y_sq f e2 rfl rfl) hl0
    have T90 : ∀ {G : aH} {b : Int32} {x7 : Int32} {o8 : Option Value}, y_fr h G [] [] → l1.getD k 0 = 0 → aOK s_P X (N + d + 3) a_m210 90 [some (.ref 155), some (.int from'), some (.int here), some (.int end'), some (.int gv), some (.int isI), some (.int nI), some (.int x7), o8] [.int b] G C S K0 := by
      intro G b x7 o8 e hl0
      refine w_go z_hl [98] [] 40 e.1 ?_
      exact ⟨fun _ => fun H hH => T98 (y_st e hH (by repeat (first | exact w_nil | refine w_cons (Or.inl (y_m rfl)) ?_ | refine w_cons (Or.inr (by assumption)) ?_)) (by repeat (first | exact w_nil | refine w_cons (Or.inl (y_m rfl)) ?_ | refine w_cons (Or.inr (by assumption)) ?_))) hl0, fun _ => fun H hH => T98 (y_st e hH (by repeat (first | exact w_nil | refine w_cons (Or.inl (y_m rfl)) ?_ | refine w_cons (Or.inr (by assumption)) ?_)) (by repeat (first | exact w_nil | refine w_cons (Or.inl (y_m rfl)) ?_ | refine w_cons (Or.inr (by assumption)) ?_))) hl0⟩
    have T80 : ∀ {G : aH} {b : Int32} {x7 : Int32} {o8 : Option Value}, y_fr h G [] [] → l1.getD k 0 = 0 → aOK s_P X (N + d + 3) a_m210 80 [some (.ref 155), some (.int from'), some (.int here), some (.int end'), some (.int gv), some (.int isI), some (.int nI), some (.int x7), o8] [.int b] G C S K0 := by
      intro G b x7 o8 e hl0
      refine w_go z_hl [98] [211] 40 e.1 ?_
      refine ⟨fun _ => fun H hH => T98 (y_st e hH (by repeat (first | exact w_nil | refine w_cons (Or.inl (y_m rfl)) ?_ | refine w_cons (Or.inr (by assumption)) ?_)) (by repeat (first | exact w_nil | refine w_cons (Or.inl (y_m rfl)) ?_ | refine w_cons (Or.inr (by assumption)) ?_))) hl0, fun _ => fun H hH => ?_⟩
      have f := y_st e hH (by repeat (first | exact w_nil | refine w_cons (Or.inl (y_m rfl)) ?_ | refine w_cons (Or.inr (by assumption)) ?_)) (by repeat (first | exact w_nil | refine w_cons (Or.inl (y_m rfl)) ?_ | refine w_cons (Or.inr (by assumption)) ?_))
      refine y_leansOn f.1 (by omega) (by omega) (fun b H2 e2 => ⟨fun n e => (by cases e), ?_⟩)
      exact T90 (y_sq f e2 rfl rfl) hl0
    have T67 : ∀ {G : aH} {o7 o8 : Option Value}, y_fr h G [] [] → l1.getD k 0 = 0 → aOK s_P X (N + d + 3) a_m210 67 [some (.ref 155), some (.int from'), some (.int here), some (.int end'), some (.int gv), some (.int isI), some (.int nI), o7, o8] [] G C S K0 := by
      intro G o7 o8 e hl0
      refine w_go z_hl [131] [211] 40 e.1 ?_
      refine ⟨fun _ => fun H hH => T131 (y_st e hH (by repeat (first | exact w_nil | refine w_cons (Or.inl (y_m rfl)) ?_ | refine w_cons (Or.inr (by assumption)) ?_)) (by repeat (first | exact w_nil | refine w_cons (Or.inl (y_m rfl)) ?_ | refine w_cons (Or.inr (by assumption)) ?_))) hl0, fun _ => fun H hH => ?_⟩
      have f := y_st e hH (by repeat (first | exact w_nil | refine w_cons (Or.inl (y_m rfl)) ?_ | refine w_cons (Or.inr (by assumption)) ?_)) (by repeat (first | exact w_nil | refine w_cons (Or.inl (y_m rfl)) ?_ | refine w_cons (Or.inr (by assumption)) ?_))
      refine y_leansOn f.1 (by omega) (by omega) (fun b H2 e2 => ⟨fun n e => (by cases e), ?_⟩)
      exact T80 (y_sq f e2 rfl rfl) hl0
    have T61 : ∀ {G : aH} {b : Int32} {o7 o8 : Option Value}, y_fr h G [] [] → l1.getD k 0 = 0 → aOK s_P X (N + d + 3) a_m210 61 [some (.ref 155), some (.int from'), some (.int here), some (.int end'), some (.int gv), some (.int isI), some (.int nI), o7, o8] [.int b] G C S K0 := by
      intro G b o7 o8 e hl0
      refine w_go z_hl [67, 156] [] 40 e.1 ?_
      refine ⟨fun _ => fun H hH => T67 (y_st e hH (by repeat (first | exact w_nil | refine w_cons (Or.inl (y_m rfl)) ?_ | refine w_cons (Or.inr (by assumption)) ?_)) (by repeat (first | exact w_nil | refine w_cons (Or.inl (y_m rfl)) ?_ | refine w_cons (Or.inr (by assumption)) ?_))) hl0, fun _ => fun H hH => ?_⟩
      have f := y_st e hH (by repeat (first | exact w_nil | refine w_cons (Or.inl (y_m rfl)) ?_ | refine w_cons (Or.inr (by assumption)) ?_)) (by repeat (first | exact w_nil | refine w_cons (Or.inl (y_m rfl)) ?_ | refine w_cons (Or.inr (by assumption)) ?_))
      exact next (y_mo f rfl rfl) ((y_ae f rfl).trans g2) i0 i1
    have T51 : ∀ {G : aH} {b : Int32} {o7 o8 : Option Value}, y_fr h G [] [] → l1.getD k 0 = 0 → aOK s_P X (N + d + 3) a_m210 51 [some (.ref 155), some (.int from'), some (.int here), some (.int end'), some (.int gv), some (.int isI), some (.int nI), o7, o8] [.int b] G C S K0 := by
      intro G b o7 o8 e hl0
      refine w_go z_hl [67, 156] [211] 40 e.1 ?_
      refine ⟨fun _ => fun H hH => T67 (y_st e hH (by repeat (first | exact w_nil | refine w_cons (Or.inl (y_m rfl)) ?_ | refine w_cons (Or.inr (by assumption)) ?_)) (by repeat (first | exact w_nil | refine w_cons (Or.inl (y_m rfl)) ?_ | refine w_cons (Or.inr (by assumption)) ?_))) hl0, fun _ => fun H hH => ?_⟩
      have f := y_st e hH (by repeat (first | exact w_nil | refine w_cons (Or.inl (y_m rfl)) ?_ | refine w_cons (Or.inr (by assumption)) ?_)) (by repeat (first | exact w_nil | refine w_cons (Or.inl (y_m rfl)) ?_ | refine w_cons (Or.inr (by assumption)) ?_))
      refine y_leansOn f.1 (by omega) (by omega) (fun b H2 e2 => ⟨fun n e => (by cases e), ?_⟩)
      exact T61 (y_sq f e2 rfl rfl) hl0
    refine w_go z_hl [20, 162, 156] [211] 40 hr ?_
    intro x hx _ _
    obtain rfl := y_fi g1 hx
    refine ⟨fun _ => fun H hH => T162 (y_st (y_rf hr) hH (by repeat (first | exact w_nil | refine w_cons (Or.inl (y_m rfl)) ?_ | refine w_cons (Or.inr (by assumption)) ?_)) (by repeat (first | exact w_nil | refine w_cons (Or.inl (y_m rfl)) ?_ | refine w_cons (Or.inr (by assumption)) ?_))), fun q => ⟨fun _ => fun H hH => T162 (y_st (y_rf hr) hH (by repeat (first | exact w_nil | refine w_cons (Or.inl (y_m rfl)) ?_ | refine w_cons (Or.inr (by assumption)) ?_)) (by repeat (first | exact w_nil | refine w_cons (Or.inl (y_m rfl)) ?_ | refine w_cons (Or.inr (by assumption)) ?_))), fun _ => ?_⟩⟩
    refine ⟨⟨by omega, by omega⟩, fun l hl len bb => ?_⟩
    obtain rfl := y_ai g2 hl
    refine ⟨fun _ => fun H hH => ?_, fun q2 => fun H hH => ?_⟩
    · have f : y_fr h H [] [] := y_st (y_rf hr) hH (by repeat (first | exact w_nil | refine w_cons (Or.inl (y_m rfl)) ?_ | refine w_cons (Or.inr (by assumption)) ?_)) (by repeat (first | exact w_nil | refine w_cons (Or.inl (y_m rfl)) ?_ | refine w_cons (Or.inr (by assumption)) ?_))
      exact next (y_mo f rfl rfl) ((y_ae f rfl).trans g2) i0 i1
    · have q3 : ¬ ((l1.getD nI.toNatClampNeg 0).toInt ≠ (0 : Int32).toInt) := y_cif q2
      rw [kc] at q3
      have hl0 : l1.getD k 0 = 0 := Int32.toInt_inj.mp (Decidable.not_not.mp q3)
      have f : y_fr h H [] [] := y_st (y_rf hr) hH (by repeat (first | exact w_nil | refine w_cons (Or.inl (y_m rfl)) ?_ | refine w_cons (Or.inr (by assumption)) ?_)) (by repeat (first | exact w_nil | refine w_cons (Or.inl (y_m rfl)) ?_ | refine w_cons (Or.inr (by assumption)) ?_))
      refine y_leansOn f.1 (by omega) (by omega) (fun b H2 e2 => ⟨fun n e => (by cases e), ?_⟩)
      exact T51 (y_sq f e2 rfl rfl) hl0
theorem y_goes_step {N : Nat} (ih : ∀ N', N = N' + 1 → y_GO X C S d N') : y_GO X C S d N := by
  intro h from' here end' gv nd p l K0 hr g1 g2 hl hp p10 hz hK
  obtain ⟨b1, b2⟩ := y_ndb hr g1
  refine w_go z_hl [20] [] 30 hr ?_
  refine ⟨fun _ => ?_, fun _ => ?_⟩
  · refine ⟨⟨by omega, by omega⟩, by decide, fun l' hl' len bb => ?_⟩
    obtain rfl := y_ai g2 hl'
    intro H hH
    have e : y_fr h H [] [164] := y_st (y_mo (y_rf hr) rfl rfl) hH (by repeat (first | exact w_nil | refine w_cons (Or.inl (y_m rfl)) ?_ | refine w_cons (Or.inr (by assumption)) ?_)) (by repeat (first | exact w_nil | refine w_cons (Or.inl (y_m rfl)) ?_ | refine w_cons (Or.inr (by assumption)) ?_))
    have A := hH.2.2.1 164 _ rfl
    rw [y_cl1 hp] at A
    refine y_goes_loop ih b1 b2 (by rw [List.length_set]; exact hl) hp p10 hz nd.toInt.toNat H _ _ 0 _ _ e.1 ((y_fe e rfl).trans g1) A rfl (by omega) (by decide) (by decide) (fun r H2 u1 u2 u3 u4 => ?_)
    refine hK r H2 u1 u2 (y_sq e u3 rfl rfl) (Or.inr ?_)
    rw [List.set_set] at u4
    exact u4
  · refine ⟨by decide, fun H hH => ?_⟩
    have e : y_fr h H [] [] := y_st (y_rf hr) hH (by repeat (first | exact w_nil | refine w_cons (Or.inl (y_m rfl)) ?_ | refine w_cons (Or.inr (by assumption)) ?_)) (by repeat (first | exact w_nil | refine w_cons (Or.inl (y_m rfl)) ?_ | refine w_cons (Or.inr (by assumption)) ?_))
    exact hK _ H (by decide) (by decide) (y_mo e rfl rfl) (Or.inl ((y_ae e rfl).trans g2))
theorem y_goes : ∀ (N : Nat), y_GO X C S d N
  | 0 => y_goes_step (fun N' e => absurd e (by omega))
  | N + 1 => y_goes_step (fun N' e => by
    have : N = N' := by omega
    subst this
    exact y_goes N)
theorem y_areTwo {h : aH} (hr : w_hr z_D h) {a b gv nd : Int32} (g1 : w_f h 19591 = some (.int nd)) (yes : ∀ (H : aH), y_fr h H [] [] → 0 ≤ a.toInt → a.toInt < nd.toInt → 0 ≤ b.toInt → b.toInt < nd.toInt → 0 ≤ gv.toInt → K0 (some (.int (Int32.ofInt 1))) H C S) (no : ∀ (H : aH), y_fr h H [] [] → K0 (some (.int (Int32.ofInt 0))) H C S) : aOK s_P X (d + 2) a_m209 0 [some (.ref 155), some (.int a), some (.int b), some (.int gv)] [] h C S K0 := by
  have N49 : ∀ {G : aH}, y_fr h G [] [] → aOK s_P X (d + 2) a_m209 49 [some (.ref 155), some (.int a), some (.int b), some (.int gv)] [] G C S K0 := by
    intro G e
    refine w_go z_hl [] [] 30 e.1 ?_
    exact ⟨by decide, fun H hH => no H (y_st e hH (by repeat (first | exact w_nil | refine w_cons (Or.inl (y_m rfl)) ?_ | refine w_cons (Or.inr (by assumption)) ?_)) (by repeat (first | exact w_nil | refine w_cons (Or.inl (y_m rfl)) ?_ | refine w_cons (Or.inr (by assumption)) ?_)))⟩
  have T26 : ∀ {G : aH}, y_fr h G [] [] → 0 ≤ a.toInt → a.toInt < nd.toInt → 0 ≤ b.toInt → b.toInt < nd.toInt → 0 ≤ gv.toInt → aOK s_P X (d + 2) a_m209 26 [some (.ref 155), some (.int a), some (.int b), some (.int gv)] [.int (y_01 true)] G C S K0 := by
    intro G e a0 a1 b0 b1 v0
    refine w_go z_hl [49] [] 40 e.1 ?_
    refine ⟨fun q => absurd q (by decide), fun _ => ⟨fun _ => ⟨by decide, ⟨fun q => absurd q (by decide), fun _ => ⟨fun _ => ⟨by decide, ⟨fun q => absurd q (by decide), fun _ => ⟨by decide, fun H hH => yes H (y_st e hH (by repeat (first | exact w_nil | refine w_cons (Or.inl (y_m rfl)) ?_ | refine w_cons (Or.inr (by assumption)) ?_)) (by repeat (first | exact w_nil | refine w_cons (Or.inl (y_m rfl)) ?_ | refine w_cons (Or.inr (by assumption)) ?_))) a0 a1 b0 b1 v0⟩⟩⟩, fun _ => ⟨by decide, ⟨fun _ => fun H hH => N49 (y_st e hH (by repeat (first | exact w_nil | refine w_cons (Or.inl (y_m rfl)) ?_ | refine w_cons (Or.inr (by assumption)) ?_)) (by repeat (first | exact w_nil | refine w_cons (Or.inl (y_m rfl)) ?_ | refine w_cons (Or.inr (by assumption)) ?_))), fun q => absurd q (by decide)⟩⟩⟩⟩⟩, fun _ => ⟨by decide, ⟨fun _ => fun H hH => N49 (y_st e hH (by repeat (first | exact w_nil | refine w_cons (Or.inl (y_m rfl)) ?_ | refine w_cons (Or.inr (by assumption)) ?_)) (by repeat (first | exact w_nil | refine w_cons (Or.inl (y_m rfl)) ?_ | refine w_cons (Or.inr (by assumption)) ?_))), fun q => absurd q (by decide)⟩⟩⟩⟩
  have T26n : ∀ {G : aH}, y_fr h G [] [] → aOK s_P X (d + 2) a_m209 26 [some (.ref 155), some (.int a), some (.int b), some (.int gv)] [.int (y_01 false)] G C S K0 := by
    intro G e
    refine w_go z_hl [49] [] 40 e.1 ?_
    exact ⟨fun _ => fun H hH => N49 (y_st e hH (by repeat (first | exact w_nil | refine w_cons (Or.inl (y_m rfl)) ?_ | refine w_cons (Or.inr (by assumption)) ?_)) (by repeat (first | exact w_nil | refine w_cons (Or.inl (y_m rfl)) ?_ | refine w_cons (Or.inr (by assumption)) ?_))), fun q => absurd q (by decide)⟩
  have T13 : ∀ {G : aH}, y_fr h G [] [] → 0 ≤ a.toInt → a.toInt < nd.toInt → 0 ≤ b.toInt → b.toInt < nd.toInt → aOK s_P X (d + 2) a_m209 13 [some (.ref 155), some (.int a), some (.int b), some (.int gv)] [.int (y_01 true)] G C S K0 := by
    intro G e a0 a1 b0 b1
    refine w_go z_hl [49] [174] 40 e.1 ?_
    refine ⟨fun q => absurd q (by decide), fun _ => ⟨fun _ => fun H hH => N49 (y_st e hH (by repeat (first | exact w_nil | refine w_cons (Or.inl (y_m rfl)) ?_ | refine w_cons (Or.inr (by assumption)) ?_)) (by repeat (first | exact w_nil | refine w_cons (Or.inl (y_m rfl)) ?_ | refine w_cons (Or.inr (by assumption)) ?_))), fun _ => fun H hH => ?_⟩⟩
    have f := y_st e hH (by repeat (first | exact w_nil | refine w_cons (Or.inl (y_m rfl)) ?_ | refine w_cons (Or.inr (by assumption)) ?_)) (by repeat (first | exact w_nil | refine w_cons (Or.inl (y_m rfl)) ?_ | refine w_cons (Or.inr (by assumption)) ?_))
    refine q_isSet (v := gv) f.1 ((y_fe f rfl).trans g1) (fun H2 vv h2 hv _ _ => ⟨fun n e => (by cases e), ?_⟩) (fun H2 h2 => ⟨fun n e => (by cases e), ?_⟩)
    · exact T26 (y_sq f h2 rfl rfl) a0 a1 b0 b1 (by omega)
    · exact T26n (y_sq f h2 rfl rfl)
  have T13n : ∀ {G : aH}, y_fr h G [] [] → aOK s_P X (d + 2) a_m209 13 [some (.ref 155), some (.int a), some (.int b), some (.int gv)] [.int (y_01 false)] G C S K0 := by
    intro G e
    refine w_go z_hl [49] [] 40 e.1 ?_
    exact ⟨fun _ => fun H hH => N49 (y_st e hH (by repeat (first | exact w_nil | refine w_cons (Or.inl (y_m rfl)) ?_ | refine w_cons (Or.inr (by assumption)) ?_)) (by repeat (first | exact w_nil | refine w_cons (Or.inl (y_m rfl)) ?_ | refine w_cons (Or.inr (by assumption)) ?_))), fun q => absurd q (by decide)⟩
  have T5 : ∀ {G : aH}, y_fr h G [] [] → 0 ≤ a.toInt → a.toInt < nd.toInt → aOK s_P X (d + 2) a_m209 5 [some (.ref 155), some (.int a), some (.int b), some (.int gv)] [.int (y_01 true)] G C S K0 := by
    intro G e a0 a1
    refine w_go z_hl [49] [178] 40 e.1 ?_
    refine ⟨fun q => absurd q (by decide), fun _ => fun H hH => ?_⟩
    have f := y_st e hH (by repeat (first | exact w_nil | refine w_cons (Or.inl (y_m rfl)) ?_ | refine w_cons (Or.inr (by assumption)) ?_)) (by repeat (first | exact w_nil | refine w_cons (Or.inl (y_m rfl)) ?_ | refine w_cons (Or.inr (by assumption)) ?_))
    refine q_isNode (v := b) f.1 ((y_fe f rfl).trans g1) (fun H2 vv h2 hv hv2 _ => ⟨fun n e => (by cases e), ?_⟩) (fun H2 h2 => ⟨fun n e => (by cases e), ?_⟩)
    · exact T13 (y_sq f h2 rfl rfl) a0 a1 (by omega) (by omega)
    · exact T13n (y_sq f h2 rfl rfl)
  have T5n : ∀ {G : aH}, y_fr h G [] [] → aOK s_P X (d + 2) a_m209 5 [some (.ref 155), some (.int a), some (.int b), some (.int gv)] [.int (y_01 false)] G C S K0 := by
    intro G e
    refine w_go z_hl [49] [] 40 e.1 ?_
    exact ⟨fun _ => fun H hH => N49 (y_st e hH (by repeat (first | exact w_nil | refine w_cons (Or.inl (y_m rfl)) ?_ | refine w_cons (Or.inr (by assumption)) ?_)) (by repeat (first | exact w_nil | refine w_cons (Or.inl (y_m rfl)) ?_ | refine w_cons (Or.inr (by assumption)) ?_))), fun q => absurd q (by decide)⟩
  refine w_go z_hl [] [178] 40 hr ?_
  intro H hH
  have f : y_fr h H [] [] := y_st (y_rf hr) hH (by repeat (first | exact w_nil | refine w_cons (Or.inl (y_m rfl)) ?_ | refine w_cons (Or.inr (by assumption)) ?_)) (by repeat (first | exact w_nil | refine w_cons (Or.inl (y_m rfl)) ?_ | refine w_cons (Or.inr (by assumption)) ?_))
  refine q_isNode (v := a) f.1 ((y_fe f rfl).trans g1) (fun H2 vv h2 hv hv2 _ => ⟨fun n e => (by cases e), ?_⟩) (fun H2 h2 => ⟨fun n e => (by cases e), ?_⟩)
  · exact T5 (y_sq f h2 rfl rfl) (by omega) (by omega)
  · exact T5n (y_sq f h2 rfl rfl)
theorem p_apart {h : aH} (hr : w_hr z_D h) (hJ : y_J h) {a b gv : Int32} (hk : ∀ (r : Int32) (H : aH), y_fr h H [19584] [164] → y_J H → K0 (some (.int r)) H C S) : aOK s_P X (d + 14) a_m208 0 [some (.ref 155), some (.int a), some (.int b), some (.int gv)] [] h C S K0 := by
  obtain ⟨nd, sm, so, sa, s1, s2, s3, s4, s5⟩ := id hJ.2.2.2.2.1
  obtain ⟨b1, b2⟩ := y_ndb hr s1
  have out : ∀ {G : aH} {r : Int32}, y_fr h G [19584] [164] → K0 (some (.int r)) G C S := fun g => hk _ _ g (y_J_fr g rfl rfl hJ)
  have T23 : ∀ {G : aH} {r : Int32}, y_fr h G [19584] [164] → aOK s_P X (d + 14) a_m208 23 [some (.ref 155), some (.int a), some (.int b), some (.int gv)] [.int r] G C S K0 := by
    intro G r e
    refine w_go z_hl [] [] 40 e.1 ?_
    refine ⟨fun _ => ⟨fun _ => fun H hH => out (y_st e hH (by repeat (first | exact w_nil | refine w_cons (Or.inl (y_m rfl)) ?_ | refine w_cons (Or.inr (by assumption)) ?_)) (by repeat (first | exact w_nil | refine w_cons (Or.inl (y_m rfl)) ?_ | refine w_cons (Or.inr (by assumption)) ?_))), fun q => absurd q (by decide)⟩, fun _ => ⟨fun q => absurd q (by decide), fun _ => fun H hH => out (y_st e hH (by repeat (first | exact w_nil | refine w_cons (Or.inl (y_m rfl)) ?_ | refine w_cons (Or.inr (by assumption)) ?_)) (by repeat (first | exact w_nil | refine w_cons (Or.inl (y_m rfl)) ?_ | refine w_cons (Or.inr (by assumption)) ?_)))⟩⟩
  have T12 : ∀ {G : aH}, y_fr h G [19584] [] → 0 ≤ a.toInt → a.toInt < nd.toInt → aOK s_P X (d + 14) a_m208 12 [some (.ref 155), some (.int a), some (.int b), some (.int gv)] [.int (Int32.ofInt 1)] G C S K0 := by
    intro G e a0 a1
    refine w_go z_hl [] [210] 40 e.1 ?_
    refine ⟨fun q => absurd q (by decide), fun _ => fun H hH => ?_⟩
    have f := y_st e hH (by repeat (first | exact w_nil | refine w_cons (Or.inl (y_m rfl)) ?_ | refine w_cons (Or.inr (by assumption)) ?_)) (by repeat (first | exact w_nil | refine w_cons (Or.inl (y_m rfl)) ?_ | refine w_cons (Or.inr (by assumption)) ?_))
    obtain ⟨l, z1, z2, -⟩ := w_arrI f.1 (o := 164) (t := 2) (n := 10) (lo := 0) (hi := 1) (by decide) rfl
    refine aOK_deep (d := 10 + d + 3) (by omega) ?_
    refine y_goes 10 H _ _ _ _ nd a.toInt.toNat l _ f.1 ((y_fe f rfl).trans s1) (w_a_at z1) z2 (by omega) (by omega) (y_z_le _ _) (fun r H2 u1 u2 u3 u4 => ⟨fun n e => (by cases e), ?_⟩)
    exact T23 (y_sq (y_mo f rfl rfl) u3 rfl rfl)
  have T12n : ∀ {G : aH}, y_fr h G [19584] [] → aOK s_P X (d + 14) a_m208 12 [some (.ref 155), some (.int a), some (.int b), some (.int gv)] [.int (Int32.ofInt 0)] G C S K0 := by
    intro G e
    refine w_go z_hl [] [] 40 e.1 ?_
    exact ⟨fun _ => fun H hH => out (y_st (y_mo e rfl rfl) hH (by repeat (first | exact w_nil | refine w_cons (Or.inl (y_m rfl)) ?_ | refine w_cons (Or.inr (by assumption)) ?_)) (by repeat (first | exact w_nil | refine w_cons (Or.inl (y_m rfl)) ?_ | refine w_cons (Or.inr (by assumption)) ?_))), fun q => absurd q (by decide)⟩
  refine w_go z_hl [] [209] 30 hr ?_
  refine ⟨rfl, y_zini (by decide) (by decide), fun H1 h1 => ?_⟩
  have e1 : y_fr h H1 [19584] [] := y_st (y_mo (y_rf hr) rfl rfl) h1 (by repeat (first | exact w_nil | refine w_cons (Or.inl (y_m rfl)) ?_ | refine w_cons (Or.inr (by assumption)) ?_)) (by repeat (first | exact w_nil | refine w_cons (Or.inl (y_m rfl)) ?_ | refine w_cons (Or.inr (by assumption)) ?_))
  refine y_areTwo e1.1 ((y_fe e1 rfl).trans s1) (fun H2 h2 a0 a1 _ _ _ => ⟨fun n e => (by cases e), ?_⟩) (fun H2 h2 => ⟨fun n e => (by cases e), ?_⟩)
  · exact T12 (y_sq e1 h2 rfl rfl) a0 a1
  · exact T12n (y_sq e1 h2 rfl rfl)
end WG
