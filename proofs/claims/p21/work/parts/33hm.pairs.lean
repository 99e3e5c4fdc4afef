section PT33h5
/-! ===== v10: the class's reach and leans give the table back (laid by wip/tools/mk33b9.py) ===== -/
theorem c_gset {l : List Int32} {i j : Nat} {x : Int32} (hi : i < l.length) : (l.set i x).getD j 0 = if j = i then x else l.getD j 0 := by
  rw [List.getD_eq_getElem?_getD, List.getD_eq_getElem?_getD, List.getElem?_set]
  by_cases q : j = i
  · subst q
    rw [if_pos rfl, if_pos rfl, if_pos hi]
    rfl
  · rw [if_neg (fun e => q e.symm), if_neg q]
theorem c_gne {l : List Int32} {i j : Nat} {x : Int32} (h : j ≠ i) : (l.set i x).getD j 0 = l.getD j 0 := by
  rw [List.getD_eq_getElem?_getD, List.getD_eq_getElem?_getD, List.getElem?_set, if_neg (fun e => h e.symm)]
/-- a span's place in the table -/
def c_ps (sn sl : List Int32) (i : Nat) : Nat := 8 * (sn.getD i 0).toInt.toNat + (sl.getD i 0).toInt.toNat
def cMS : List Nat := [143, 768, 1152, 15744, 19328, 19329, 19456, 19457]
/-- the table is as it was, but for the places of the spans from k on -/
def c_ta (tI : Int32) (sn sl T0 T : List Int32) (k : Nat) : Prop := T.length = 80 ∧ ∀ j, (∀ i : Nat, k ≤ i → (i : Int) < tI.toInt → c_ps sn sl i ≠ j) → T.getD j 0 = T0.getD j 0
theorem c_ta_set {tI : Int32} {sn sl T0 T : List Int32} {k : Nat} {x : Int32} (q : c_ta tI sn sl T0 T 0) (hk : (k : Int) < tI.toInt) : c_ta tI sn sl T0 (T.set (c_ps sn sl k) x) 0 := by
  refine ⟨by rw [List.length_set]; exact q.1, fun j hj => ?_⟩
  rw [c_gne (fun e => hj k (Nat.zero_le k) hk e.symm)]
  exact q.2 j hj
theorem c_ta_all {tI : Int32} {sn sl T0 T : List Int32} {k : Nat} (l0 : T0.length = 80) (q : c_ta tI sn sl T0 T k) (hk : tI.toInt ≤ k) : T = T0 := by
  refine List.ext_getElem? (fun j => ?_)
  have w := q.2 j (fun i h1 h2 => absurd h2 (by omega))
  by_cases hj : j < 80
  · have x1 : j < T.length := by rw [q.1]; exact hj
    have x2 : j < T0.length := by rw [l0]; exact hj
    rw [List.getD_eq_getElem?_getD, List.getD_eq_getElem?_getD, List.getElem?_eq_getElem x1, List.getElem?_eq_getElem x2] at w
    rw [List.getElem?_eq_getElem x1, List.getElem?_eq_getElem x2]
    exact congrArg some w
  · rw [List.getElem?_eq_none (by rw [q.1]; omega), List.getElem?_eq_none (by rw [l0]; omega)]
theorem c_arr {h : aH} (hr : w_hr z_D h) {ob n : Nat} {lo hi : Int} (hD : z_D ob = some (.inl (0, n, lo, hi))) : ∃ l : List Int32, w_a h ob = some (0, .inl l) ∧ l.length = n ∧ ∀ x ∈ l, lo ≤ x.toInt ∧ x.toInt ≤ hi := by
  obtain ⟨x, x1, x2, x3⟩ := w_arrI hr (by decide) hD
  exact ⟨x, w_a_at x1, x2, x3⟩
theorem c_psb {h : aH} (hr : w_hr z_D h) {sn sl : List Int32} (a1 : w_a h 119 = some (0, .inl sn)) (a2 : w_a h 120 = some (0, .inl sl)) {k : Nat} (hk : k < 6) : (0 ≤ (sn.getD k 0).toInt ∧ (sn.getD k 0).toInt ≤ 9) ∧ 0 ≤ (sl.getD k 0).toInt ∧ (sl.getD k 0).toInt ≤ 7 := by
  obtain ⟨l, q1, q2, q3⟩ := c_arr hr (ob := 119) (n := 6) (lo := 0) (hi := 9) rfl
  have e1 := y_ai a1 q1
  obtain ⟨m, p1, p2, p3⟩ := c_arr hr (ob := 120) (n := 6) (lo := 0) (hi := 7) rfl
  have e2 := y_ai a2 p1
  rw [e1, e2]
  exact ⟨q3 _ (z_gd (0 : Int32) (by omega)), p3 _ (z_gd (0 : Int32) (by omega))⟩
section NGB
variable {X : aX} {C S d : Nat} {K0 : Option Value → aH → Nat → Nat → Prop}
theorem c_ix {a b : Int32} {na nb : Nat} (ha : a.toInt = na) (hb : b.toInt = nb) (a9 : na ≤ 9) (b7 : nb ≤ 7) : (a * (Int8.ofInt 8).toInt32 + b).toInt = ((8 * na + nb : Nat) : Int) := by
  rw [Int32.mul_comm]
  exact y_i8 ha hb (by omega) (by omega)
theorem c_exch {h : aH} (hr : w_hr z_D h) {a b v : Int32} {na nb : Nat} (ha : a.toInt = na) (hb : b.toInt = nb) (a9 : na ≤ 9) (b7 : nb ≤ 7) {T : List Int32} (a6 : w_a h 6 = some (0, .inl T)) (hk : ∀ H, y_fr h H [143] [6] → w_a H 6 = some (0, .inl (T.set (8 * na + nb) v)) → w_f H 143 = some (.int (Int32.ofInt 0)) → K0 (some (.int (T.getD (8 * na + nb) 0))) H C S) : aOK s_P X d a_m20 0 [some (.ref 3), some (.int a), some (.int b), some (.int v), none] [] h C S K0 := by
  have iv := s_i32 v
  have ia := c_ix ha hb a9 b7
  have ci := y_cl1 ia
  have bi : 0 ≤ (a * (Int8.ofInt 8).toInt32 + b).toInt ∧ (a * (Int8.ofInt 8).toInt32 + b).toInt < ((80 : Nat) : Int) := by omega
  refine w_go z_hl [] [] 60 hr ?_
  refine ⟨bi, fun l hl len bb => ⟨bi, ⟨by omega, by omega⟩, ⟨rfl, y_zini (by decide) (by decide), fun H hH => ?_⟩⟩⟩
  obtain rfl := y_ai a6 hl
  have w := hk H (y_st (y_mo (y_rf hr) rfl rfl) hH (by repeat (first | exact w_nil | refine w_cons (Or.inl (y_m rfl)) ?_ | refine w_cons (Or.inr (by assumption)) ?_)) (by repeat (first | exact w_nil | refine w_cons (Or.inl (y_m rfl)) ?_ | refine w_cons (Or.inr (by assumption)) ?_))) (by rw [← ci]; exact hH.2.2.1 6 _ rfl) (hH.2.1 143 _ rfl)
  rw [← ci] at w
  exact w
theorem c_num {h : aH} (hr : w_hr z_D h) {a b : Int32} {na nb : Nat} (ha : a.toInt = na) (hb : b.toInt = nb) (a9 : na ≤ 9) (b7 : nb ≤ 7) {T : List Int32} (a6 : w_a h 6 = some (0, .inl T)) (hk : ∀ H, y_fr h H [] [] → K0 (some (.int (T.getD (8 * na + nb) 0))) H C S) : aOK s_P X d a_m122 0 [some (.ref 3), some (.int a), some (.int b)] [] h C S K0 := by
  have ia := c_ix ha hb a9 b7
  have ci := y_cl1 ia
  have bi : 0 ≤ (a * (Int8.ofInt 8).toInt32 + b).toInt ∧ (a * (Int8.ofInt 8).toInt32 + b).toInt < ((80 : Nat) : Int) := by omega
  refine w_go z_hl [] [] 60 hr ?_
  refine ⟨bi, fun l hl len bb => fun H hH => ?_⟩
  obtain rfl := y_ai a6 hl
  have w := hk H (y_st (y_rf hr) hH (by repeat (first | exact w_nil | refine w_cons (Or.inl (y_m rfl)) ?_ | refine w_cons (Or.inr (by assumption)) ?_)) (by repeat (first | exact w_nil | refine w_cons (Or.inl (y_m rfl)) ?_ | refine w_cons (Or.inr (by assumption)) ?_)))
  rw [← ci] at w
  exact w
theorem c_hold_loop {tI : Int32} {sn sl T : List Int32} (t6 : tI.toInt ≤ 6) : ∀ (m : Nat) (h : aH) (iI : Int32) (k : Nat) (hd : List Int32), w_hr z_D h → w_f h 15104 = some (.int tI) → w_a h 119 = some (0, .inl sn) → w_a h 120 = some (0, .inl sl) → w_a h 6 = some (0, .inl T) → w_a h 123 = some (0, .inl hd) → iI.toInt = k → (k : Int) + m = tI.toInt → (∀ j : Nat, j < k → hd.getD j 0 = T.getD (c_ps sn sl j) 0) → (∀ (H : aH) (hd' : List Int32), y_fr h H [] [123] → w_a H 123 = some (0, .inl hd') → (∀ j : Nat, (j : Int) < tI.toInt → hd'.getD j 0 = T.getD (c_ps sn sl j) 0) → K0 none H C S) → aOK s_P X (d + 1) a_m121 2 [some (.ref 120), some (.ref 3), some (.int iI)] [] h C S K0 := by
  intro m
  induction m with
  | zero =>
    intro h iI k hd hr g a1 a2 a6 a3 hi hm hok hK
    refine w_go z_hl [2] [] 60 hr ?_
    intro x hx _ _
    obtain rfl := y_fi g hx
    refine ⟨fun _ => fun H hH => ?_, fun q => ?_⟩
    · have f : y_fr h H [] [] := y_st (y_rf hr) hH (by repeat (first | exact w_nil | refine w_cons (Or.inl (y_m rfl)) ?_ | refine w_cons (Or.inr (by assumption)) ?_)) (by repeat (first | exact w_nil | refine w_cons (Or.inl (y_m rfl)) ?_ | refine w_cons (Or.inr (by assumption)) ?_))
      exact hK H hd (y_mo f rfl rfl) ((y_ae f rfl).trans a3) (fun j hj => hok j (by omega))
    · have : ¬ (tI.toInt ≤ iI.toInt) := y_cif q
      omega
  | succ m ih =>
    intro h iI k hd hr g a1 a2 a6 a3 hi hm hok hK
    have hik : (iI + Int32.ofInt 1).toInt = ((k + 1 : Nat) : Int) := by rw [y_inc (by omega), hi]; rfl
    have ck := y_cl1 hi
    have pb := c_psb hr a1 a2 (k := k) (by omega)
    have T31 : ∀ {G : aH} {x : Int32}, x = T.getD (c_ps sn sl k) 0 → y_fr h G [] [] → aOK s_P X (d + 1) a_m121 31 [some (.ref 120), some (.ref 3), some (.int iI)] [.int x, .int iI, .ref 125] G C S K0 := by
      intro G x ex e
      have ix := s_i32 x
      refine w_go z_hl [2] [] 60 e.1 ?_
      refine ⟨⟨by omega, by omega⟩, ⟨by omega, by omega⟩, fun l hl len bb => fun H hH => ?_⟩
      obtain rfl := y_ai ((y_ae e rfl).trans a3) hl
      have f1 : y_fr G H [] [123] := y_st (y_mo (y_rf e.1) rfl rfl) hH (by repeat (first | exact w_nil | refine w_cons (Or.inl (y_m rfl)) ?_ | refine w_cons (Or.inr (by assumption)) ?_)) (by repeat (first | exact w_nil | refine w_cons (Or.inl (y_m rfl)) ?_ | refine w_cons (Or.inr (by assumption)) ?_))
      have f2 : y_fr h H [] [123] := y_sq (y_mo e rfl rfl) f1 rfl rfl
      have w3 : w_a H 123 = some (0, .inl (hd.set k x)) := by rw [← ck]; exact hH.2.2.1 123 _ rfl
      refine ih H _ (k + 1) _ f2.1 ((y_fe f2 rfl).trans g) ((y_ae f2 rfl).trans a1) ((y_ae f2 rfl).trans a2) ((y_ae f2 rfl).trans a6) w3 hik (by omega) (fun j hj => ?_) (fun H' hd' f' u1 u2 => hK H' hd' (y_sq f2 f' rfl rfl) u1 u2)
      rw [c_gset (by rw [len]; omega)]
      by_cases q : j = k
      · rw [if_pos q, q]
        exact ex
      · rw [if_neg q]
        exact hok j (by omega)
    refine w_go z_hl [] [122] 60 hr ?_
    intro x hx _ _
    obtain rfl := y_fi g hx
    refine ⟨fun q => ?_, fun _ => ⟨⟨by omega, by omega⟩, fun l1 hl1 len1 bb1 => ⟨⟨by omega, by omega⟩, fun l2 hl2 len2 bb2 => fun H hH => ?_⟩⟩⟩
    · have : tI.toInt ≤ iI.toInt := (y_ci .ge _ _).mp q
      omega
    · obtain rfl := y_ai a1 hl1
      obtain rfl := y_ai a2 hl2
      have e : y_fr h H [] [] := y_st (y_rf hr) hH (by repeat (first | exact w_nil | refine w_cons (Or.inl (y_m rfl)) ?_ | refine w_cons (Or.inr (by assumption)) ?_)) (by repeat (first | exact w_nil | refine w_cons (Or.inl (y_m rfl)) ?_ | refine w_cons (Or.inr (by assumption)) ?_))
      refine c_num (na := (sn.getD k 0).toInt.toNat) (nb := (sl.getD k 0).toInt.toNat) e.1 (by rw [ck]; omega) (by rw [ck]; omega) (by omega) (by omega) ((y_ae e rfl).trans a6) (fun H3 h3 => ⟨fun n e => (by cases e), ?_⟩)
      exact T31 rfl (y_sq e h3 rfl rfl)
theorem c_hold {h : aH} (hr : w_hr z_D h) {tI : Int32} {sn sl T : List Int32} (g : w_f h 15104 = some (.int tI)) (t0 : 0 ≤ tI.toInt) (t6 : tI.toInt ≤ 6) (a1 : w_a h 119 = some (0, .inl sn)) (a2 : w_a h 120 = some (0, .inl sl)) (a6 : w_a h 6 = some (0, .inl T)) (hk : ∀ (H : aH) (hd : List Int32), y_fr h H [] [123] → w_a H 123 = some (0, .inl hd) → (∀ j : Nat, (j : Int) < tI.toInt → hd.getD j 0 = T.getD (c_ps sn sl j) 0) → K0 none H C S) : aOK s_P X (d + 1) a_m121 0 [some (.ref 120), some (.ref 3), none] [] h C S K0 := by
  obtain ⟨hd, a3, -, -⟩ := c_arr hr (ob := 123) (n := 6) (lo := -2147483648) (hi := 2147483647) rfl
  refine w_go z_hl [2] [] 60 hr ?_
  intro H hH
  have e : y_fr h H [] [] := y_st (y_rf hr) hH (by repeat (first | exact w_nil | refine w_cons (Or.inl (y_m rfl)) ?_ | refine w_cons (Or.inr (by assumption)) ?_)) (by repeat (first | exact w_nil | refine w_cons (Or.inl (y_m rfl)) ?_ | refine w_cons (Or.inr (by assumption)) ?_))
  exact c_hold_loop t6 tI.toInt.toNat H _ 0 hd e.1 ((y_fe e rfl).trans g) ((y_ae e rfl).trans a1) ((y_ae e rfl).trans a2) ((y_ae e rfl).trans a6) ((y_ae e rfl).trans a3) (by decide) (by omega) (fun j hj => absurd hj (Nat.not_lt_zero j)) (fun H' hd' f' u1 u2 => hk H' hd' (y_sq (y_mo e rfl rfl) f' rfl rfl) u1 u2)
theorem c_give_loop {tI : Int32} {sn sl hd T0 : List Int32} (t6 : tI.toInt ≤ 6) (hh : ∀ j : Nat, (j : Int) < tI.toInt → hd.getD j 0 = T0.getD (c_ps sn sl j) 0) : ∀ (m : Nat) (h : aH) (iI : Int32) (k : Nat) (T : List Int32), w_hr z_D h → w_f h 15104 = some (.int tI) → w_a h 119 = some (0, .inl sn) → w_a h 120 = some (0, .inl sl) → w_a h 123 = some (0, .inl hd) → w_a h 6 = some (0, .inl T) → c_ta tI sn sl T0 T k → (0 < k → w_f h 143 = some (.int (Int32.ofInt 0))) → iI.toInt = k → (k : Int) + m = tI.toInt → (∀ (H : aH) (T' : List Int32), y_fr h H [143] [6] → w_a H 6 = some (0, .inl T') → c_ta tI sn sl T0 T' tI.toInt.toNat → (0 < tI.toInt → w_f H 143 = some (.int (Int32.ofInt 0))) → ((k : Int) = tI.toInt → y_fr h H [] []) → K0 none H C S) → aOK s_P X (d + 1) a_m124 2 [some (.ref 120), some (.ref 3), some (.int iI)] [] h C S K0 := by
  intro m
  induction m with
  | zero =>
    intro h iI k T hr g a1 a2 a3 a6 ta hz hi hm hK
    refine w_go z_hl [2] [] 60 hr ?_
    intro x hx _ _
    obtain rfl := y_fi g hx
    refine ⟨fun _ => fun H hH => ?_, fun q => ?_⟩
    · have f : y_fr h H [] [] := y_st (y_rf hr) hH (by repeat (first | exact w_nil | refine w_cons (Or.inl (y_m rfl)) ?_ | refine w_cons (Or.inr (by assumption)) ?_)) (by repeat (first | exact w_nil | refine w_cons (Or.inl (y_m rfl)) ?_ | refine w_cons (Or.inr (by assumption)) ?_))
      refine hK H T (y_mo f rfl rfl) ((y_ae f rfl).trans a6) ?_ (fun z => (y_fe f rfl).trans (hz (by omega))) (fun _ => f)
      rw [show tI.toInt.toNat = k by omega]
      exact ta
    · have : ¬ (tI.toInt ≤ iI.toInt) := y_cif q
      omega
  | succ m ih =>
    intro h iI k T hr g a1 a2 a3 a6 ta hz hi hm hK
    have hik : (iI + Int32.ofInt 1).toInt = ((k + 1 : Nat) : Int) := by rw [y_inc (by omega), hi]; rfl
    have ck := y_cl1 hi
    have pb := c_psb hr a1 a2 (k := k) (by omega)
    have T32 : ∀ {G : aH} {x : Int32}, y_fr h G [143] [6] → w_a G 6 = some (0, .inl (T.set (c_ps sn sl k) (hd.getD k 0))) → w_f G 143 = some (.int (Int32.ofInt 0)) → aOK s_P X (d + 1) a_m124 32 [some (.ref 120), some (.ref 3), some (.int iI)] [.int x] G C S K0 := by
      intro G x e w6 z6
      refine w_go z_hl [2] [] 60 e.1 ?_
      intro H hH
      have f : y_fr G H [] [] := y_st (y_rf e.1) hH (by repeat (first | exact w_nil | refine w_cons (Or.inl (y_m rfl)) ?_ | refine w_cons (Or.inr (by assumption)) ?_)) (by repeat (first | exact w_nil | refine w_cons (Or.inl (y_m rfl)) ?_ | refine w_cons (Or.inr (by assumption)) ?_))
      have f2 : y_fr h H [143] [6] := y_sq e f rfl rfl
      refine ih H _ (k + 1) _ f2.1 ((y_fe f2 rfl).trans g) ((y_ae f2 rfl).trans a1) ((y_ae f2 rfl).trans a2) ((y_ae f2 rfl).trans a3) ((y_ae f rfl).trans w6) ⟨by rw [List.length_set]; exact ta.1, fun j hj => ?_⟩ (fun _ => (y_fe f rfl).trans z6) hik (by omega) (fun H' T' f' u1 u2 u3 _ => hK H' T' (y_sq f2 f' rfl rfl) u1 u2 u3 (fun z => absurd z (by omega)))
      by_cases q : j = c_ps sn sl k
      · rw [q, c_gset (by rw [ta.1]; unfold c_ps; omega), if_pos rfl]
        exact hh k (by omega)
      · rw [c_gne q]
        refine ta.2 j (fun i h1 h2 w => ?_)
        by_cases z : i = k
        · rw [z] at w
          exact q w.symm
        · exact hj i (by omega) h2 w
    refine w_go z_hl [] [20] 60 hr ?_
    intro x hx _ _
    obtain rfl := y_fi g hx
    refine ⟨fun q => ?_, fun _ => ⟨⟨by omega, by omega⟩, fun l1 hl1 len1 bb1 => ⟨⟨by omega, by omega⟩, fun l2 hl2 len2 bb2 => ⟨⟨by omega, by omega⟩, fun l3 hl3 len3 bb3 => fun H hH => ?_⟩⟩⟩⟩
    · have : tI.toInt ≤ iI.toInt := (y_ci .ge _ _).mp q
      omega
    · obtain rfl := y_ai a1 hl1
      obtain rfl := y_ai a2 hl2
      obtain rfl := y_ai a3 hl3
      have e : y_fr h H [] [] := y_st (y_rf hr) hH (by repeat (first | exact w_nil | refine w_cons (Or.inl (y_m rfl)) ?_ | refine w_cons (Or.inr (by assumption)) ?_)) (by repeat (first | exact w_nil | refine w_cons (Or.inl (y_m rfl)) ?_ | refine w_cons (Or.inr (by assumption)) ?_))
      refine c_exch (na := (sn.getD k 0).toInt.toNat) (nb := (sl.getD k 0).toInt.toNat) e.1 (by rw [ck]; omega) (by rw [ck]; omega) (by omega) (by omega) ((y_ae e rfl).trans a6) (fun H3 h3 w3 z3 => ⟨fun n e => (by cases e), ?_⟩)
      rw [ck] at w3
      exact T32 (y_sq (y_mo e rfl rfl) h3 rfl rfl) w3 z3
theorem c_give {h : aH} (hr : w_hr z_D h) {tI : Int32} {sn sl hd T0 T : List Int32} (g : w_f h 15104 = some (.int tI)) (t0 : 0 ≤ tI.toInt) (t6 : tI.toInt ≤ 6) (a1 : w_a h 119 = some (0, .inl sn)) (a2 : w_a h 120 = some (0, .inl sl)) (a3 : w_a h 123 = some (0, .inl hd)) (a6 : w_a h 6 = some (0, .inl T)) (l0 : T0.length = 80) (hh : ∀ j : Nat, (j : Int) < tI.toInt → hd.getD j 0 = T0.getD (c_ps sn sl j) 0) (ta : c_ta tI sn sl T0 T 0) (hk : ∀ (H : aH), y_fr h H [143] [6] → w_a H 6 = some (0, .inl T0) → (0 < tI.toInt → w_f H 143 = some (.int (Int32.ofInt 0))) → (tI.toInt = 0 → y_fr h H [] []) → K0 none H C S) : aOK s_P X (d + 1) a_m124 0 [some (.ref 120), some (.ref 3), none] [] h C S K0 := by
  refine w_go z_hl [2] [] 60 hr ?_
  intro H hH
  have e : y_fr h H [] [] := y_st (y_rf hr) hH (by repeat (first | exact w_nil | refine w_cons (Or.inl (y_m rfl)) ?_ | refine w_cons (Or.inr (by assumption)) ?_)) (by repeat (first | exact w_nil | refine w_cons (Or.inl (y_m rfl)) ?_ | refine w_cons (Or.inr (by assumption)) ?_))
  refine c_give_loop t6 hh tI.toInt.toNat H _ 0 T e.1 ((y_fe e rfl).trans g) ((y_ae e rfl).trans a1) ((y_ae e rfl).trans a2) ((y_ae e rfl).trans a3) ((y_ae e rfl).trans a6) ta (fun z => absurd z (by decide)) (by decide) (by omega) (fun H' T' f' u1 u2 u3 u4 => ?_)
  rw [c_ta_all l0 u2 (by omega)] at u1
  exact hk H' (y_sq (y_mo e rfl rfl) f' rfl rfl) u1 u3 (fun z => y_sq e (u4 (by omega)) rfl rfl)
theorem c_moveTo {h : aH} (hr : w_hr z_D h) {iI bI : Int32} {k : Nat} {sn sl T : List Int32} (hi : iI.toInt = k) (k6 : k < 6) (a1 : w_a h 119 = some (0, .inl sn)) (a2 : w_a h 120 = some (0, .inl sl)) (a6 : w_a h 6 = some (0, .inl T)) (hk : ∀ (H : aH) (x : Int32), y_fr h H [143] [6] → w_a H 6 = some (0, .inl (T.set (c_ps sn sl k) x)) → K0 none H C S) : aOK s_P X (d + 1) a_m123 0 [some (.ref 120), some (.ref 3), some (.int iI), some (.int bI)] [] h C S K0 := by
  have ck := y_cl1 hi
  have pb := c_psb hr a1 a2 k6
  have T35 : ∀ {G : aH} {x y : Int32}, y_fr h G [143] [6] → w_a G 6 = some (0, .inl (T.set (c_ps sn sl k) x)) → aOK s_P X (d + 1) a_m123 35 [some (.ref 120), some (.ref 3), some (.int iI), some (.int bI)] [.int y] G C S K0 := by
    intro G x y e w6
    refine w_go z_hl [] [] 30 e.1 ?_
    intro H hH
    have f : y_fr G H [] [] := y_st (y_rf e.1) hH (by repeat (first | exact w_nil | refine w_cons (Or.inl (y_m rfl)) ?_ | refine w_cons (Or.inr (by assumption)) ?_)) (by repeat (first | exact w_nil | refine w_cons (Or.inl (y_m rfl)) ?_ | refine w_cons (Or.inr (by assumption)) ?_))
    exact hk H x (y_sq e f rfl rfl) ((y_ae f rfl).trans w6)
  refine w_go z_hl [] [20] 60 hr ?_
  refine ⟨⟨by omega, by omega⟩, fun l1 hl1 len1 bb1 => ⟨⟨by omega, by omega⟩, fun l2 hl2 len2 bb2 => ?_⟩⟩
  obtain rfl := y_ai a1 hl1
  obtain rfl := y_ai a2 hl2
  refine ⟨fun _ => ⟨⟨by omega, by omega⟩, fun l3 hl3 len3 bb3 => fun H hH => ?_⟩, fun _ => ⟨⟨by omega, by omega⟩, fun l3 hl3 len3 bb3 => fun H hH => ?_⟩⟩
  · have e : y_fr h H [] [] := y_st (y_rf hr) hH (by repeat (first | exact w_nil | refine w_cons (Or.inl (y_m rfl)) ?_ | refine w_cons (Or.inr (by assumption)) ?_)) (by repeat (first | exact w_nil | refine w_cons (Or.inl (y_m rfl)) ?_ | refine w_cons (Or.inr (by assumption)) ?_))
    refine c_exch (na := (sn.getD k 0).toInt.toNat) (nb := (sl.getD k 0).toInt.toNat) e.1 (by rw [ck]; omega) (by rw [ck]; omega) (by omega) (by omega) ((y_ae e rfl).trans a6) (fun H3 h3 w3 _ => ⟨fun n e => (by cases e), ?_⟩)
    exact T35 (y_sq (y_mo e rfl rfl) h3 rfl rfl) w3
  · have e : y_fr h H [] [] := y_st (y_rf hr) hH (by repeat (first | exact w_nil | refine w_cons (Or.inl (y_m rfl)) ?_ | refine w_cons (Or.inr (by assumption)) ?_)) (by repeat (first | exact w_nil | refine w_cons (Or.inl (y_m rfl)) ?_ | refine w_cons (Or.inr (by assumption)) ?_))
    refine c_exch (na := (sn.getD k 0).toInt.toNat) (nb := (sl.getD k 0).toInt.toNat) e.1 (by rw [ck]; omega) (by rw [ck]; omega) (by omega) (by omega) ((y_ae e rfl).trans a6) (fun H3 h3 w3 _ => ⟨fun n e => (by cases e), ?_⟩)
    exact T35 (y_sq (y_mo e rfl rfl) h3 rfl rfl) w3
/-- between spans -/
def c_st (W : aH → Prop) (h G : aH) (tI nd : Int32) (sn sl hd T0 : List Int32) : Prop := w_hr z_D G ∧ (y_JA G ∧ (tI.toInt = 0 → W G)) ∧ z_frm z_D cMS h G ∧ (w_f G 15104 = some (.int tI) ∧ w_f G 128 = some (.int nd)) ∧ (w_a G 119 = some (0, .inl sn) ∧ w_a G 120 = some (0, .inl sl) ∧ w_a G 123 = some (0, .inl hd)) ∧ ∃ T, w_a G 6 = some (0, .inl T) ∧ c_ta tI sn sl T0 T 0
theorem z_kpy {W : aH → Prop} {G H : aH} {fs as : List Nat} (hW : z_kp W) (f : y_fr G H fs as) (h1 : z_pF.all (fun k => !fs.elem k) = true) (h2 : z_pA.all (fun o => !as.elem o) = true) (q : W G) : W H := by
  refine hW G H (fun k hk => f.2.1 k (n_nel ?_)) (fun o ho => f.2.2 o (n_nel ?_)) q
  · have := List.all_eq_true.mp h1 k hk
    rw [Bool.not_eq_true'] at this
    exact this
  · have := List.all_eq_true.mp h2 o ho
    rw [Bool.not_eq_true'] at this
    exact this
theorem c_st_y {W : aH → Prop} (hW : z_kp W) {h G H : aH} {tI nd : Int32} {sn sl hd T0 : List Int32} (s : c_st W h G tI nd sn sl hd T0) (f : y_fr G H [] []) : c_st W h H tI nd sn sl hd T0 := by
  obtain ⟨s1, s2, s3, s4, s5, T, s6, s7⟩ := s
  exact ⟨f.1, ⟨y_jfr y_JA_x f rfl rfl s2.1, fun z => z_kpy hW f rfl rfl (s2.2 z)⟩, z_frm_tr s3 (y_frm s1 f rfl rfl), ⟨(y_fe f rfl).trans s4.1, (y_fe f rfl).trans s4.2⟩, ⟨(y_ae f rfl).trans s5.1, (y_ae f rfl).trans s5.2.1, (y_ae f rfl).trans s5.2.2⟩, T, (y_ae f rfl).trans s6, s7⟩
theorem c_st_t {W : aH → Prop} {h G H : aH} {tI nd : Int32} {sn sl hd T0 T : List Int32} (t1 : 0 < tI.toInt) (s : c_st W h G tI nd sn sl hd T0) (f : y_fr G H [143] [6]) (w : w_a H 6 = some (0, .inl T)) (ta : c_ta tI sn sl T0 T 0) : c_st W h H tI nd sn sl hd T0 := by
  obtain ⟨s1, s2, s3, s4, s5, -⟩ := s
  exact ⟨f.1, ⟨y_jfr y_JA_x f rfl rfl s2.1, fun z => absurd t1 (by omega)⟩, z_frm_tr s3 (y_frm s1 f rfl rfl), ⟨(y_fe f rfl).trans s4.1, (y_fe f rfl).trans s4.2⟩, ⟨(y_ae f rfl).trans s5.1, (y_ae f rfl).trans s5.2.1, (y_ae f rfl).trans s5.2.2⟩, T, w, ta⟩
theorem c_st_z0 {W : aH → Prop} {h G H : aH} {tI nd : Int32} {sn sl hd T0 : List Int32} {ms : List Nat} (s : c_st W h G tI nd sn sl hd T0) (hr : w_hr z_D H) (J : y_JA H) (w : tI.toInt = 0 → W H) (f : z_frm z_D ms G H) (h1 : ms.all (fun x => cMS.elem x) = true) (h2 : ms.all (fun x => !([15104, 128, 15232, 15360, 15744, 768] : List Nat).elem x) = true) : c_st W h H tI nd sn sl hd T0 := by
  obtain ⟨s1, s2, s3, s4, s5, T, s6, s7⟩ := s
  have nm : ∀ k, ([15104, 128, 15232, 15360, 15744, 768] : List Nat).elem k = true → ms.elem k = false := by
    intro k hk
    cases q : ms.elem k with
    | false => rfl
    | true =>
      have := List.all_eq_true.mp h2 k (List.elem_iff.mp q)
      rw [hk] at this
      cases this
  exact ⟨hr, ⟨J, w⟩, z_frm_tr s3 (n_zmo f h1), ⟨(n_dk s1 f rfl (nm 15104 rfl)).trans s4.1, (n_dk s1 f rfl (nm 128 rfl)).trans s4.2⟩, ⟨(n_da f rfl (nm (119 * 128) rfl)).trans s5.1, (n_da f rfl (nm (120 * 128) rfl)).trans s5.2.1, (n_da f rfl (nm (123 * 128) rfl)).trans s5.2.2⟩, T, (n_da f rfl (nm (6 * 128) rfl)).trans s6, s7⟩
theorem c_st_z {W : aH → Prop} (hW : z_kp W) {h G H : aH} {tI nd : Int32} {sn sl hd T0 : List Int32} {ms : List Nat} (s : c_st W h G tI nd sn sl hd T0) (hr : w_hr z_D H) (J : y_JA H) (f : z_frm z_D ms G H) (h1 : ms.all (fun x => cMS.elem x) = true) (h2 : ms.all (fun x => !([15104, 128, 15232, 15360, 15744, 768] : List Nat).elem x) = true) (h3 : z_pm ms = true) : c_st W h H tI nd sn sl hd T0 := c_st_z0 s hr J (fun z => z_kpf hW s.1 f h3 (s.2.1.2 z)) f h1 h2
/-- refresh between spans -/
theorem c_ref {W : aH → Prop} (h9 : z_spec (z_JW W) z_D s_P X z_x9) {h G : aH} {tI nd : Int32} {sn sl hd T0 : List Int32} (s : c_st W h G tI nd sn sl hd T0) (hk : ∀ H, c_st W h H tI nd sn sl hd T0 → K0 none H C S) : aOK s_P X (d + 2) a_m29 0 [some (.ref 3), none] [] G C S K0 := by
  by_cases t : tI.toInt = 0
  · refine n_boxvJ [] h9 rfl rfl rfl s.1 ⟨s.2.1.1, s.2.1.2 t⟩ n_B0 (fun q hq => by cases hq) (by decide) rfl (by decide +kernel) (fun H' r1 r2 r3 => hk H' (c_st_z0 s r1 r2.1 (fun _ => r2.2) r3 (by decide) (by decide)))
  · refine n_boxv [] (z_x9_s (y_jx_l y_JA_x)) rfl rfl rfl s.1 s.2.1.1 n_B0 (fun q hq => by cases hq) (by decide) rfl (by decide +kernel) (fun H' r1 r2 r3 => hk H' (c_st_z0 s r1 r2 (fun z => absurd z t) r3 (by decide) (by decide)))
/-- the net behind what is given back -/
theorem c_gW {W : aH → Prop} (hF : z_kf W) {h H : aH} {tI : Int32} {T0 : List Int32} (t0 : 0 ≤ tI.toInt) (hr : w_hr z_D h) (w : W h) (wG : tI.toInt = 0 → W H) (hH : w_hr z_D H) (f : z_frm z_D cMS h H) (a6 : w_a h 6 = some (0, .inl T0)) (b6 : w_a H 6 = some (0, .inl T0)) (z : 0 < tI.toInt → w_f H 143 = some (.int (Int32.ofInt 0))) : W H := by
  by_cases t : tI.toInt = 0
  · exact wG t
  · refine hF h H hH (fun k hk => ?_) (fun o ho => ?_) (z (by omega)) w
    · simp only [List.mem_cons, List.not_mem_nil, or_false] at hk
      rcases hk with rfl | rfl | rfl <;> exact n_dk hr f rfl rfl
    · simp only [List.mem_cons, List.not_mem_nil, or_false] at ho
      rcases ho with rfl | rfl | rfl | rfl
      · exact n_da f rfl rfl
      · exact n_da f rfl rfl
      · exact n_da f rfl rfl
      · exact b6.trans a6.symm
theorem c_jw {W : aH → Prop} (hW : z_kp W) {G H : aH} {fs as : List Nat} (f : y_fr G H fs as) (h1 : (fs.all (fun x => !z_jc.elem x) && z_pF.all (fun k => !fs.elem k)) = true) (h2 : (as.all (fun x => !z_jc.elem (x * 128)) && z_pA.all (fun o => !as.elem o)) = true) (q : z_JW W G) : z_JW W H := by
  rw [Bool.and_eq_true] at h1 h2
  exact ⟨y_jfr y_JA_x f h1.1 h2.1 q.1, z_kpy hW f h1.2 h2.2 q.2⟩
theorem c_reach_in {W : aH → Prop} (hW : z_kp W) {h : aH} {tI nd node gr fd ed : Int32} {sn sl hd T0 : List Int32} (t6 : tI.toInt ≤ 6) : ∀ (m : Nat) (G : aH) (iI : Int32) (k : Nat), c_st W h G tI nd sn sl hd T0 → iI.toInt = k → (k : Int) + m = tI.toInt → (∀ (H : aH) (i' : Int32), c_st W h H tI nd sn sl hd T0 → aOK s_P X (d + 5) a_m120 62 [some (.ref 120), some (.ref 3), some (.int node), some (.int gr), some (.ref 153), some (.ref 154), some (.int (fd)), some (.int ed), some (.int i')] [] H C S K0) → aOK s_P X (d + 5) a_m120 25 [some (.ref 120), some (.ref 3), some (.int node), some (.int gr), some (.ref 153), some (.ref 154), some (.int (fd)), some (.int ed), some (.int iI)] [] G C S K0 := by
  intro m
  induction m with
  | zero =>
    intro G iI k s hi hm hE
    refine w_go z_hl [25, 62] [] 60 s.1 ?_
    intro x hx _ _
    obtain rfl := y_fi s.2.2.2.1.1 hx
    refine ⟨fun _ => fun H hH => hE H _ (c_st_y hW s (y_st (y_rf s.1) hH (by repeat (first | exact w_nil | refine w_cons (Or.inl (y_m rfl)) ?_ | refine w_cons (Or.inr (by assumption)) ?_)) (by repeat (first | exact w_nil | refine w_cons (Or.inl (y_m rfl)) ?_ | refine w_cons (Or.inr (by assumption)) ?_)))), fun q => ?_⟩
    have : ¬ (tI.toInt ≤ iI.toInt) := y_cif q
    omega
  | succ m ih =>
    intro G iI k s hi hm hE
    have hik : (iI + Int32.ofInt 1).toInt = ((k + 1 : Nat) : Int) := by rw [y_inc (by omega), hi]; rfl
    have T56 : ∀ {H : aH}, c_st W h H tI nd sn sl hd T0 → aOK s_P X (d + 5) a_m120 56 [some (.ref 120), some (.ref 3), some (.int node), some (.int gr), some (.ref 153), some (.ref 154), some (.int (fd)), some (.int ed), some (.int iI)] [] H C S K0 := by
      intro H s2
      refine w_go z_hl [25] [] 30 s2.1 ?_
      intro H2 h2
      exact ih H2 _ (k + 1) (c_st_y hW s2 (y_st (y_rf s2.1) h2 (by repeat (first | exact w_nil | refine w_cons (Or.inl (y_m rfl)) ?_ | refine w_cons (Or.inr (by assumption)) ?_)) (by repeat (first | exact w_nil | refine w_cons (Or.inl (y_m rfl)) ?_ | refine w_cons (Or.inr (by assumption)) ?_)))) hik (by omega) hE
    have T53 : ∀ {H : aH} {b : Int32}, c_st W h H tI nd sn sl hd T0 → aOK s_P X (d + 5) a_m120 53 [some (.ref 120), some (.ref 3), some (.int node), some (.int gr), some (.ref 153), some (.ref 154), some (.int (fd)), some (.int ed), some (.int iI)] [.int b, .int iI, .ref 3, .ref 120] H C S K0 := by
      intro H b s2
      refine w_go z_hl [] [123] 30 s2.1 ?_
      intro H2 h2
      have s3 := c_st_y hW s2 (y_st (y_rf s2.1) h2 (by repeat (first | exact w_nil | refine w_cons (Or.inl (y_m rfl)) ?_ | refine w_cons (Or.inr (by assumption)) ?_)) (by repeat (first | exact w_nil | refine w_cons (Or.inl (y_m rfl)) ?_ | refine w_cons (Or.inr (by assumption)) ?_)))
      obtain ⟨T, w6, ta⟩ := id s3.2.2.2.2.2
      refine c_moveTo (d := d + 3) s3.1 hi (by omega) s3.2.2.2.2.1.1 s3.2.2.2.2.1.2.1 w6 (fun H3 x f3 w3 => ⟨fun n e => (by cases e), ?_⟩)
      exact T56 (c_st_t (by omega) s3 f3 w3 (c_ta_set ta (by omega)))
    refine w_go z_hl [53] [] 60 s.1 ?_
    intro x hx _ _
    obtain rfl := y_fi s.2.2.2.1.1 hx
    refine ⟨fun q => ?_, fun _ => ⟨fun _ => fun H hH => T53 (c_st_y hW s (y_st (y_rf s.1) hH (by repeat (first | exact w_nil | refine w_cons (Or.inl (y_m rfl)) ?_ | refine w_cons (Or.inr (by assumption)) ?_)) (by repeat (first | exact w_nil | refine w_cons (Or.inl (y_m rfl)) ?_ | refine w_cons (Or.inr (by assumption)) ?_)))), fun _ => fun H hH => T53 (c_st_y hW s (y_st (y_rf s.1) hH (by repeat (first | exact w_nil | refine w_cons (Or.inl (y_m rfl)) ?_ | refine w_cons (Or.inr (by assumption)) ?_)) (by repeat (first | exact w_nil | refine w_cons (Or.inl (y_m rfl)) ?_ | refine w_cons (Or.inr (by assumption)) ?_))))⟩⟩
    have : tI.toInt ≤ iI.toInt := (y_ci .ge _ _).mp q
    omega
theorem c_reach_loop {W : aH → Prop} (hW : z_kp W) (hF : z_kf W) (h9 : z_spec (z_JW W) z_D s_P X z_x9) {h : aH} {tI nd node gr : Int32} {sn sl hd T0 : List Int32} (hr0 : w_hr z_D h) (w0 : W h) (a06 : w_a h 6 = some (0, .inl T0)) (n0 : 0 ≤ node.toInt) (n1 : node.toInt < nd.toInt) (n10 : nd.toInt ≤ 10) (t0 : 0 ≤ tI.toInt) (t6 : tI.toInt ≤ 6) (l0 : T0.length = 80) (hh : ∀ j : Nat, (j : Int) < tI.toInt → hd.getD j 0 = T0.getD (c_ps sn sl j) 0) (hK : ∀ (b : Bool) (H : aH), w_hr z_D H → z_JW W H → z_frm z_D cMS h H → w_a H 6 = some (0, .inl T0) → K0 (some (.int (y_01 b))) H C S) : ∀ (m : Nat) (G : aH) (b : Bool) (eI : Int32) (k : Nat) (o8 : Option Value), c_st W h G tI nd sn sl hd T0 → eI.toInt = k → k + m = y_ways tI → aOK s_P X (d + 5) a_m120 11 [some (.ref 120), some (.ref 3), some (.int node), some (.int gr), some (.ref 153), some (.ref 154), some (.int (y_01 b)), some (.int eI), o8] [] G C S K0 := by
  obtain ⟨-, y1, y2⟩ := y_all t0 (by omega : tI.toInt ≤ 10)
  have sh := y_shl6 t0 (by omega : tI.toInt ≤ 10)
  intro m
  induction m with
  | zero =>
    intro G b eI k o8 s hi hm
    have T148 : ∀ {H : aH}, w_hr z_D H → z_JW W H → z_frm z_D cMS h H → w_a H 6 = some (0, .inl T0) → aOK s_P X (d + 5) a_m120 148 [some (.ref 120), some (.ref 3), some (.int node), some (.int gr), some (.ref 153), some (.ref 154), some (.int (y_01 b)), some (.int eI), o8] [] H C S K0 := by
      intro H r1 r2 r3 r4
      have fin : ∀ {H2 : aH}, y_fr H H2 [] [] → K0 (some (.int (y_01 b))) H2 C S := fun f => hK b _ f.1 (c_jw hW f rfl rfl r2) (z_frm_tr r3 (y_frm r1 f rfl rfl)) ((y_ae f rfl).trans r4)
      cases b with
      | true =>
        refine w_go z_hl [] [] 30 r1 ?_
        exact ⟨by decide, fun H2 h2 => fin (y_st (y_rf r1) h2 (by repeat (first | exact w_nil | refine w_cons (Or.inl (y_m rfl)) ?_ | refine w_cons (Or.inr (by assumption)) ?_)) (by repeat (first | exact w_nil | refine w_cons (Or.inl (y_m rfl)) ?_ | refine w_cons (Or.inr (by assumption)) ?_)))⟩
      | false =>
        refine w_go z_hl [] [] 30 r1 ?_
        exact ⟨by decide, fun H2 h2 => fin (y_st (y_rf r1) h2 (by repeat (first | exact w_nil | refine w_cons (Or.inl (y_m rfl)) ?_ | refine w_cons (Or.inr (by assumption)) ?_)) (by repeat (first | exact w_nil | refine w_cons (Or.inl (y_m rfl)) ?_ | refine w_cons (Or.inr (by assumption)) ?_)))⟩
    have T143 : ∀ {H : aH}, c_st W h H tI nd sn sl hd T0 → aOK s_P X (d + 5) a_m120 143 [some (.ref 120), some (.ref 3), some (.int node), some (.int gr), some (.ref 153), some (.ref 154), some (.int (y_01 b)), some (.int eI), o8] [] H C S K0 := by
      intro H s2
      refine w_go z_hl [] [124] 30 s2.1 ?_
      intro H2 h2
      have s3 := c_st_y hW s2 (y_st (y_rf s2.1) h2 (by repeat (first | exact w_nil | refine w_cons (Or.inl (y_m rfl)) ?_ | refine w_cons (Or.inr (by assumption)) ?_)) (by repeat (first | exact w_nil | refine w_cons (Or.inl (y_m rfl)) ?_ | refine w_cons (Or.inr (by assumption)) ?_)))
      obtain ⟨T, w6, ta⟩ := id s3.2.2.2.2.2
      refine c_give (d := d + 3) s3.1 s3.2.2.2.1.1 t0 t6 s3.2.2.2.2.1.1 s3.2.2.2.2.1.2.1 s3.2.2.2.2.1.2.2 w6 l0 hh ta (fun H3 f3 w3 z3 y3 => ⟨fun n e => (by cases e), ?_⟩)
      have r3 := z_frm_tr s3.2.2.1 (y_frm s3.1 f3 rfl rfl)
      exact T148 f3.1 ⟨y_jfr y_JA_x f3 rfl rfl s3.2.1.1, c_gW hF t0 hr0 w0 (fun z => z_kpy hW (y3 z) rfl rfl (s3.2.1.2 z)) f3.1 r3 a06 w3 z3⟩ r3 w3
    refine w_go z_hl [11, 143] [] 60 s.1 ?_
    intro x hx _ _
    obtain rfl := y_fi s.2.2.2.1.1 hx
    refine ⟨fun _ => fun H hH => T143 (c_st_y hW s (y_st (y_rf s.1) hH (by repeat (first | exact w_nil | refine w_cons (Or.inl (y_m rfl)) ?_ | refine w_cons (Or.inr (by assumption)) ?_)) (by repeat (first | exact w_nil | refine w_cons (Or.inl (y_m rfl)) ?_ | refine w_cons (Or.inr (by assumption)) ?_)))), fun q => ?_⟩
    have : ¬ ((Int32.ofInt 1 <<< (tI &&& 31)).toInt ≤ eI.toInt) := y_cif q
    omega
  | succ m ih =>
    intro G b eI k o8 s hi hm
    have ink : (eI + Int32.ofInt 1).toInt = ((k + 1 : Nat) : Int) := by rw [y_inc (by omega), hi]; rfl
    have T137 : ∀ {H : aH} {b' : Bool} {o8 : Option Value}, c_st W h H tI nd sn sl hd T0 → aOK s_P X (d + 5) a_m120 137 [some (.ref 120), some (.ref 3), some (.int node), some (.int gr), some (.ref 153), some (.ref 154), some (.int (y_01 b')), some (.int eI), o8] [] H C S K0 := by
      intro H b' o8 s2
      refine w_go z_hl [11] [] 30 s2.1 ?_
      intro H2 h2
      exact ih H2 b' _ (k + 1) _ (c_st_y hW s2 (y_st (y_rf s2.1) h2 (by repeat (first | exact w_nil | refine w_cons (Or.inl (y_m rfl)) ?_ | refine w_cons (Or.inr (by assumption)) ?_)) (by repeat (first | exact w_nil | refine w_cons (Or.inl (y_m rfl)) ?_ | refine w_cons (Or.inr (by assumption)) ?_)))) ink (by omega)
    have T134 : ∀ {H : aH} {o8 : Option Value}, c_st W h H tI nd sn sl hd T0 → aOK s_P X (d + 5) a_m120 134 [some (.ref 120), some (.ref 3), some (.int node), some (.int gr), some (.ref 153), some (.ref 154), some (.int (y_01 b)), some (.int eI), o8] [] H C S K0 := by
      intro H o8 s2
      refine w_go z_hl [137] [] 30 s2.1 ?_
      intro H2 h2
      exact T137 (b' := true) (c_st_y hW s2 (y_st (y_rf s2.1) h2 (by repeat (first | exact w_nil | refine w_cons (Or.inl (y_m rfl)) ?_ | refine w_cons (Or.inr (by assumption)) ?_)) (by repeat (first | exact w_nil | refine w_cons (Or.inl (y_m rfl)) ?_ | refine w_cons (Or.inr (by assumption)) ?_))))
    have T119 : ∀ {H : aH} {o8 : Option Value}, c_st W h H tI nd sn sl hd T0 → aOK s_P X (d + 5) a_m120 119 [some (.ref 120), some (.ref 3), some (.int node), some (.int gr), some (.ref 153), some (.ref 154), some (.int (y_01 b)), some (.int eI), o8] [] H C S K0 := by
      intro H o8 s2
      refine w_go z_hl [] [39] 40 s2.1 ?_
      intro x hx x1 x2
      intro y hy y1 y2
      intro H2 h2
      have s3 := c_st_y hW s2 (y_st (y_rf s2.1) h2 (by repeat (first | exact w_nil | refine w_cons (Or.inl (y_m rfl)) ?_ | refine w_cons (Or.inr (by assumption)) ?_)) (by repeat (first | exact w_nil | refine w_cons (Or.inl (y_m rfl)) ?_ | refine w_cons (Or.inr (by assumption)) ?_)))
      refine n_boxv [.long x, .long y] (z_x13_s (y_jx_l y_JA_x)) rfl rfl rfl s3.1 s3.2.1.1 (n_Bl x1 x2 (n_Bl y1 y2 n_B0)) (fun q hq => by cases hq) (by decide) rfl (by decide +kernel) (fun H' r1 r2 r3 => ⟨fun n e => (by cases e), ?_⟩)
      exact T134 (c_st_z hW s3 r1 r2 r3 (by decide) (by decide) (by decide))
    have T95 : ∀ {H : aH} {c : Int32} {o8 : Option Value}, c_st W h H tI nd sn sl hd T0 → aOK s_P X (d + 5) a_m120 95 [some (.ref 120), some (.ref 3), some (.int node), some (.int gr), some (.ref 153), some (.ref 154), some (.int (y_01 b)), some (.int eI), o8] [.int c] H C S K0 := by
      intro H c o8 s2
      have f0 : y_fr H H [] [] := y_rf s2.1
      refine w_go z_hl [119, 137] [] 60 s2.1 ?_
      exact ⟨fun _ => fun H2 h2 => T119 (c_st_y hW s2 (y_st f0 h2 (by repeat (first | exact w_nil | refine w_cons (Or.inl (y_m rfl)) ?_ | refine w_cons (Or.inr (by assumption)) ?_)) (by repeat (first | exact w_nil | refine w_cons (Or.inl (y_m rfl)) ?_ | refine w_cons (Or.inr (by assumption)) ?_)))), fun _ => ⟨fun _ => ⟨fun _ => fun H2 h2 => T137 (c_st_y hW s2 (y_st f0 h2 (by repeat (first | exact w_nil | refine w_cons (Or.inl (y_m rfl)) ?_ | refine w_cons (Or.inr (by assumption)) ?_)) (by repeat (first | exact w_nil | refine w_cons (Or.inl (y_m rfl)) ?_ | refine w_cons (Or.inr (by assumption)) ?_)))), fun _ => fun H2 h2 => T119 (c_st_y hW s2 (y_st f0 h2 (by repeat (first | exact w_nil | refine w_cons (Or.inl (y_m rfl)) ?_ | refine w_cons (Or.inr (by assumption)) ?_)) (by repeat (first | exact w_nil | refine w_cons (Or.inl (y_m rfl)) ?_ | refine w_cons (Or.inr (by assumption)) ?_))))⟩, fun _ => ⟨fun _ => fun H2 h2 => T137 (c_st_y hW s2 (y_st f0 h2 (by repeat (first | exact w_nil | refine w_cons (Or.inl (y_m rfl)) ?_ | refine w_cons (Or.inr (by assumption)) ?_)) (by repeat (first | exact w_nil | refine w_cons (Or.inl (y_m rfl)) ?_ | refine w_cons (Or.inr (by assumption)) ?_)))), fun _ => fun H2 h2 => T119 (c_st_y hW s2 (y_st f0 h2 (by repeat (first | exact w_nil | refine w_cons (Or.inl (y_m rfl)) ?_ | refine w_cons (Or.inr (by assumption)) ?_)) (by repeat (first | exact w_nil | refine w_cons (Or.inl (y_m rfl)) ?_ | refine w_cons (Or.inr (by assumption)) ?_))))⟩⟩⟩
    have T91 : ∀ {H : aH} {c : Int32} {o8 : Option Value}, c_st W h H tI nd sn sl hd T0 → aOK s_P X (d + 5) a_m120 91 [some (.ref 120), some (.ref 3), some (.int node), some (.int gr), some (.ref 153), some (.ref 154), some (.int (y_01 b)), some (.int eI), o8] [.int c] H C S K0 := by
      intro H c o8 s2
      refine w_go z_hl [95] [] 30 s2.1 ?_
      exact fun H2 h2 => T95 (c_st_y hW s2 (y_st (y_rf s2.1) h2 (by repeat (first | exact w_nil | refine w_cons (Or.inl (y_m rfl)) ?_ | refine w_cons (Or.inr (by assumption)) ?_)) (by repeat (first | exact w_nil | refine w_cons (Or.inl (y_m rfl)) ?_ | refine w_cons (Or.inr (by assumption)) ?_))))
    have T73 : ∀ {H : aH} {c : Int32} {o8 : Option Value}, c_st W h H tI nd sn sl hd T0 → aOK s_P X (d + 5) a_m120 73 [some (.ref 120), some (.ref 3), some (.int node), some (.int gr), some (.ref 153), some (.ref 154), some (.int (y_01 b)), some (.int eI), o8] [.int c] H C S K0 := by
      intro H c o8 s2
      have f0 : y_fr H H [] [] := y_rf s2.1
      refine w_go z_hl [95, 137] [53] 60 s2.1 ?_
      refine ⟨fun _ => ⟨fun _ => fun H2 h2 => T95 (c_st_y hW s2 (y_st f0 h2 (by repeat (first | exact w_nil | refine w_cons (Or.inl (y_m rfl)) ?_ | refine w_cons (Or.inr (by assumption)) ?_)) (by repeat (first | exact w_nil | refine w_cons (Or.inl (y_m rfl)) ?_ | refine w_cons (Or.inr (by assumption)) ?_)))), fun _ => fun H2 h2 => ?_⟩, fun _ => fun H2 h2 => T137 (c_st_y hW s2 (y_st f0 h2 (by repeat (first | exact w_nil | refine w_cons (Or.inl (y_m rfl)) ?_ | refine w_cons (Or.inr (by assumption)) ?_)) (by repeat (first | exact w_nil | refine w_cons (Or.inl (y_m rfl)) ?_ | refine w_cons (Or.inr (by assumption)) ?_))))⟩
      have s3 := c_st_y hW s2 (y_st f0 h2 (by repeat (first | exact w_nil | refine w_cons (Or.inl (y_m rfl)) ?_ | refine w_cons (Or.inr (by assumption)) ?_)) (by repeat (first | exact w_nil | refine w_cons (Or.inl (y_m rfl)) ?_ | refine w_cons (Or.inr (by assumption)) ?_)))
      refine n_boxi [] (z_x473_s (y_jx_l y_JA_x)) rfl rfl rfl s3.1 s3.2.1.1 n_B0 (fun q hq => by cases hq) (by decide) rfl (by decide +kernel) (fun x H' r1 r2 r3 => ⟨fun n e => (by cases e), ?_⟩)
      exact T91 (c_st_z hW s3 r1 r2 r3 (by decide) (by decide) (by decide))
    have T66 : ∀ {H : aH} {o8 : Option Value}, c_st W h H tI nd sn sl hd T0 → aOK s_P X (d + 5) a_m120 66 [some (.ref 120), some (.ref 3), some (.int node), some (.int gr), some (.ref 153), some (.ref 154), some (.int (y_01 b)), some (.int eI), o8] [] H C S K0 := by
      intro H o8 s2
      refine w_go z_hl [] [34] 40 s2.1 ?_
      intro H2 h2
      have s3 := c_st_y hW s2 (y_st (y_rf s2.1) h2 (by repeat (first | exact w_nil | refine w_cons (Or.inl (y_m rfl)) ?_ | refine w_cons (Or.inr (by assumption)) ?_)) (by repeat (first | exact w_nil | refine w_cons (Or.inl (y_m rfl)) ?_ | refine w_cons (Or.inr (by assumption)) ?_)))
      refine n_boxi [.int node, .int nd] (z_x472_s (y_jx_l y_JA_x)) rfl rfl rfl s3.1 s3.2.1.1 (n_Bi n0 (by omega) (n_Bf s3.2.2.2.1.2 (by omega) n10 n_B0)) (fun q hq => by
        have := List.mem_singleton.mp hq
        subst this
        exact ⟨node, nd, rfl, rfl, by show node.toInt - nd.toInt ≤ -1; omega⟩) (by decide) rfl (by decide +kernel) (fun x H' r1 r2 r3 => ⟨fun n e => (by cases e), ?_⟩)
      exact T73 (c_st_z hW s3 r1 r2 r3 (by decide) (by decide) (by decide))
    have T62 : ∀ {H : aH} {o8 : Option Value}, c_st W h H tI nd sn sl hd T0 → aOK s_P X (d + 5) a_m120 62 [some (.ref 120), some (.ref 3), some (.int node), some (.int gr), some (.ref 153), some (.ref 154), some (.int (y_01 b)), some (.int eI), o8] [] H C S K0 := by
      intro H o8 s2
      refine w_go z_hl [] [29] 40 s2.1 ?_
      intro H2 h2
      have s3 := c_st_y hW s2 (y_st (y_rf s2.1) h2 (by repeat (first | exact w_nil | refine w_cons (Or.inl (y_m rfl)) ?_ | refine w_cons (Or.inr (by assumption)) ?_)) (by repeat (first | exact w_nil | refine w_cons (Or.inl (y_m rfl)) ?_ | refine w_cons (Or.inr (by assumption)) ?_)))
      refine c_ref h9 s3 (fun H' s4 => ⟨fun n e => (by cases e), ?_⟩)
      exact T66 s4
    refine w_go z_hl [11, 25] [] 60 s.1 ?_
    intro x hx _ _
    obtain rfl := y_fi s.2.2.2.1.1 hx
    refine ⟨fun q => ?_, fun _ => fun H hH => ?_⟩
    · have : (Int32.ofInt 1 <<< (tI &&& 31)).toInt ≤ eI.toInt := (y_ci .ge _ _).mp q
      omega
    · exact c_reach_in hW t6 tI.toInt.toNat H _ 0 (c_st_y hW s (y_st (y_rf s.1) hH (by repeat (first | exact w_nil | refine w_cons (Or.inl (y_m rfl)) ?_ | refine w_cons (Or.inr (by assumption)) ?_)) (by repeat (first | exact w_nil | refine w_cons (Or.inl (y_m rfl)) ?_ | refine w_cons (Or.inr (by assumption)) ?_)))) (by decide) (by omega) (fun H2 i' s2 => T62 s2)
theorem c_findReach {W : aH → Prop} (hW : z_kp W) (hF : z_kf W) (h9 : z_spec (z_JW W) z_D s_P X z_x9) {h : aH} (hr : w_hr z_D h) (hJ : z_JW W h) {tI nd node gr : Int32} {sn sl T0 : List Int32} (n0 : 0 ≤ node.toInt) (n1 : node.toInt < nd.toInt) (n10 : nd.toInt ≤ 10) (gt : w_f h 15104 = some (.int tI)) (g0 : w_f h 128 = some (.int nd)) (t0 : 0 ≤ tI.toInt) (t6 : tI.toInt ≤ 6) (a1 : w_a h 119 = some (0, .inl sn)) (a2 : w_a h 120 = some (0, .inl sl)) (a6 : w_a h 6 = some (0, .inl T0)) (l0 : T0.length = 80) (hK : ∀ (b : Bool) (H : aH), w_hr z_D H → z_JW W H → z_frm z_D cMS h H → w_a H 6 = some (0, .inl T0) → K0 (some (.int (y_01 b))) H C S) : aOK s_P X (d + 5) a_m120 0 [some (.ref 120), some (.ref 3), some (.int node), some (.int gr), some (.ref 153), some (.ref 154), none, none, none] [] h C S K0 := by
  have T8 : ∀ {G : aH} {hd : List Int32}, y_fr h G [] [123] → w_a G 123 = some (0, .inl hd) → (∀ j : Nat, (j : Int) < tI.toInt → hd.getD j 0 = T0.getD (c_ps sn sl j) 0) → aOK s_P X (d + 5) a_m120 8 [some (.ref 120), some (.ref 3), some (.int node), some (.int gr), some (.ref 153), some (.ref 154), some (.int (y_01 false)), none, none] [] G C S K0 := by
    intro G hd e w3 hh
    have s : c_st W h G tI nd sn sl hd T0 := ⟨e.1, ⟨y_jfr y_JA_x e rfl rfl hJ.1, fun _ => z_kpy hW e rfl rfl hJ.2⟩, y_frm hr e rfl rfl, ⟨(y_fe e rfl).trans gt, (y_fe e rfl).trans g0⟩, ⟨(y_ae e rfl).trans a1, (y_ae e rfl).trans a2, w3⟩, T0, (y_ae e rfl).trans a6, l0, fun _ _ => rfl⟩
    refine w_go z_hl [11] [] 30 e.1 ?_
    intro H hH
    exact c_reach_loop hW hF h9 hr hJ.2 a6 n0 n1 n10 t0 t6 l0 hh hK (y_ways tI) H false _ 0 _ (c_st_y hW s (y_st (y_rf e.1) hH (by repeat (first | exact w_nil | refine w_cons (Or.inl (y_m rfl)) ?_ | refine w_cons (Or.inr (by assumption)) ?_)) (by repeat (first | exact w_nil | refine w_cons (Or.inl (y_m rfl)) ?_ | refine w_cons (Or.inr (by assumption)) ?_)))) (by decide) (by omega)
  refine w_go z_hl [] [121] 30 hr ?_
  intro H hH
  have e : y_fr h H [] [] := y_st (y_rf hr) hH (by repeat (first | exact w_nil | refine w_cons (Or.inl (y_m rfl)) ?_ | refine w_cons (Or.inr (by assumption)) ?_)) (by repeat (first | exact w_nil | refine w_cons (Or.inl (y_m rfl)) ?_ | refine w_cons (Or.inr (by assumption)) ?_))
  refine c_hold (d := d + 3) e.1 ((y_fe e rfl).trans gt) t0 t6 ((y_ae e rfl).trans a1) ((y_ae e rfl).trans a2) ((y_ae e rfl).trans a6) (fun H3 hd f3 w3 hh => ⟨fun n e => (by cases e), ?_⟩)
  exact T8 (y_sq (y_mo e rfl rfl) f3 rfl rfl) w3 hh
theorem c_reach {W : aH → Prop} (hW : z_kp W) (hF : z_kf W) (h9 : z_spec (z_JW W) z_D s_P X z_x9) {h : aH} (hr : w_hr z_D h) (hJ : z_JW W h) {tI nd node what : Int32} {sn sl T0 : List Int32} (n10 : nd.toInt ≤ 10) (gt : w_f h 15104 = some (.int tI)) (g0 : w_f h 128 = some (.int nd)) (t0 : 0 ≤ tI.toInt) (t6 : tI.toInt ≤ 6) (a1 : w_a h 119 = some (0, .inl sn)) (a2 : w_a h 120 = some (0, .inl sl)) (a6 : w_a h 6 = some (0, .inl T0)) (l0 : T0.length = 80) (hk : ∀ (r : Int32) (H : aH), w_hr z_D H → z_JW W H → z_frm z_D [143, 768, 1152, 1281, 1408, 15744, 19328, 19329, 19456, 19457] h H → w_a H 6 = some (0, .inl T0) → K0 (some (.int r)) H C S) : aOK s_P X (d + 6) a_m119 0 [some (.ref 2), some (.int node), some (.int what)] [] h C S K0 := by
  have out : ∀ {r : Int32} {H : aH}, y_fr h H [] [] → K0 (some (.int r)) H C S := fun f => hk _ _ f.1 (c_jw hW f rfl rfl hJ) (y_frm hr f rfl rfl) ((y_ae f rfl).trans a6)
  have T69 : ∀ {G : aH}, w_hr z_D G → z_JW W G → z_frm z_D [143, 768, 1152, 1281, 1408, 15744, 19328, 19329, 19456, 19457] h G → w_a G 6 = some (0, .inl T0) → aOK s_P X (d + 6) a_m119 69 [some (.ref 2), some (.int node), some (.int what)] [] G C S K0 := by
    intro G r1 r2 r3 r4
    refine w_go z_hl [] [] 30 r1 ?_
    intro H hH
    have f : y_fr G H [] [] := y_st (y_rf r1) hH (by repeat (first | exact w_nil | refine w_cons (Or.inl (y_m rfl)) ?_ | refine w_cons (Or.inr (by assumption)) ?_)) (by repeat (first | exact w_nil | refine w_cons (Or.inl (y_m rfl)) ?_ | refine w_cons (Or.inr (by assumption)) ?_))
    exact hk _ H f.1 (c_jw hW f rfl rfl r2) (z_frm_tr r3 (y_frm r1 f rfl rfl)) ((y_ae f rfl).trans r4)
  have T52 : ∀ {G : aH} {b : Bool}, w_hr z_D G → z_JW W G → z_frm z_D cMS h G → w_a G 6 = some (0, .inl T0) → aOK s_P X (d + 6) a_m119 52 [some (.ref 2), some (.int node), some (.int what)] [.int (y_01 b)] G C S K0 := by
    intro G b r1 r2 r3 r4
    refine w_go z_hl [] [42] 30 r1 ?_
    refine ⟨fun _ => fun H hH => ?_, fun _ => fun H hH => ?_⟩
    · have f : y_fr G H [] [] := y_st (y_rf r1) hH (by repeat (first | exact w_nil | refine w_cons (Or.inl (y_m rfl)) ?_ | refine w_cons (Or.inr (by assumption)) ?_)) (by repeat (first | exact w_nil | refine w_cons (Or.inl (y_m rfl)) ?_ | refine w_cons (Or.inr (by assumption)) ?_))
      have r5 : z_frm z_D [143, 768, 1152, 1281, 1408, 15744, 19328, 19329, 19456, 19457] h H := n_zmo (z_frm_tr r3 (y_frm r1 f rfl rfl)) (by decide)
      refine n_boxv [] (z_x17_s (y_jx_l y_JA_x)) rfl rfl rfl f.1 (y_jfr y_JA_x f rfl rfl r2.1) n_B0 (fun q hq => by cases hq) (by decide) rfl (by decide +kernel) (fun H' q1 q2 q3 => ⟨fun n e => (by cases e), ?_⟩)
      exact T69 q1 ⟨q2, z_kpf hW f.1 q3 (by decide) (z_kpy hW f rfl rfl r2.2)⟩ (z_frm_tr r5 (n_zmo q3 (by decide))) ((n_da q3 (o := 6) rfl rfl).trans ((y_ae f rfl).trans r4))
    · have f : y_fr G H [] [] := y_st (y_rf r1) hH (by repeat (first | exact w_nil | refine w_cons (Or.inl (y_m rfl)) ?_ | refine w_cons (Or.inr (by assumption)) ?_)) (by repeat (first | exact w_nil | refine w_cons (Or.inl (y_m rfl)) ?_ | refine w_cons (Or.inr (by assumption)) ?_))
      exact hk _ H f.1 (c_jw hW f rfl rfl r2) (n_zmo (z_frm_tr r3 (y_frm r1 f rfl rfl)) (by decide)) ((y_ae f rfl).trans r4)
  have T41 : ∀ {G : aH} {g : Int32}, 0 ≤ node.toInt → node.toInt < nd.toInt → y_fr h G [] [] → aOK s_P X (d + 6) a_m119 41 [some (.ref 2), some (.int node), some (.int what)] [.int g, .int node, .ref 3, .ref 120] G C S K0 := by
    intro G g v1 v2 e
    refine w_go z_hl [] [120] 40 e.1 ?_
    intro H hH
    have e2 : y_fr h H [] [] := y_st e hH (by repeat (first | exact w_nil | refine w_cons (Or.inl (y_m rfl)) ?_ | refine w_cons (Or.inr (by assumption)) ?_)) (by repeat (first | exact w_nil | refine w_cons (Or.inl (y_m rfl)) ?_ | refine w_cons (Or.inr (by assumption)) ?_))
    refine c_findReach hW hF h9 (d := d) e2.1 (c_jw hW e2 rfl rfl hJ) v1 v2 n10 ((y_fe e2 rfl).trans gt) ((y_fe e2 rfl).trans g0) t0 t6 ((y_ae e2 rfl).trans a1) ((y_ae e2 rfl).trans a2) ((y_ae e2 rfl).trans a6) l0 (fun b H' r1 r2 r3 r4 => ⟨fun n e => (by cases e), ?_⟩)
    exact T52 r1 r2 (z_frm_tr (y_frm hr e2 rfl rfl) r3) r4
  have T8 : ∀ {G : aH}, 0 ≤ node.toInt → node.toInt < nd.toInt → y_fr h G [] [] → aOK s_P X (d + 6) a_m119 8 [some (.ref 2), some (.int node), some (.int what)] [.int (y_01 true)] G C S K0 := by
    intro G v1 v2 e
    refine w_go z_hl [41] [] 60 e.1 ?_
    refine ⟨fun q => absurd q (by decide), fun _ => ⟨fun _ => fun H hH => out (y_st e hH (by repeat (first | exact w_nil | refine w_cons (Or.inl (y_m rfl)) ?_ | refine w_cons (Or.inr (by assumption)) ?_)) (by repeat (first | exact w_nil | refine w_cons (Or.inl (y_m rfl)) ?_ | refine w_cons (Or.inr (by assumption)) ?_))), fun _ => ⟨fun _ => ⟨fun _ => fun H hH => T41 v1 v2 (y_st e hH (by repeat (first | exact w_nil | refine w_cons (Or.inl (y_m rfl)) ?_ | refine w_cons (Or.inr (by assumption)) ?_)) (by repeat (first | exact w_nil | refine w_cons (Or.inl (y_m rfl)) ?_ | refine w_cons (Or.inr (by assumption)) ?_))), fun _ => fun H hH => T41 v1 v2 (y_st e hH (by repeat (first | exact w_nil | refine w_cons (Or.inl (y_m rfl)) ?_ | refine w_cons (Or.inr (by assumption)) ?_)) (by repeat (first | exact w_nil | refine w_cons (Or.inl (y_m rfl)) ?_ | refine w_cons (Or.inr (by assumption)) ?_)))⟩, fun _ => fun H hH => out (y_st e hH (by repeat (first | exact w_nil | refine w_cons (Or.inl (y_m rfl)) ?_ | refine w_cons (Or.inr (by assumption)) ?_)) (by repeat (first | exact w_nil | refine w_cons (Or.inl (y_m rfl)) ?_ | refine w_cons (Or.inr (by assumption)) ?_)))⟩⟩⟩
  have T8n : ∀ {G : aH}, y_fr h G [] [] → aOK s_P X (d + 6) a_m119 8 [some (.ref 2), some (.int node), some (.int what)] [.int (y_01 false)] G C S K0 := by
    intro G e
    refine w_go z_hl [] [] 30 e.1 ?_
    exact ⟨fun _ => fun H hH => out (y_st e hH (by repeat (first | exact w_nil | refine w_cons (Or.inl (y_m rfl)) ?_ | refine w_cons (Or.inr (by assumption)) ?_)) (by repeat (first | exact w_nil | refine w_cons (Or.inl (y_m rfl)) ?_ | refine w_cons (Or.inr (by assumption)) ?_))), fun q => absurd q (by decide)⟩
  refine w_go z_hl [] [19] 30 hr ?_
  intro H hH
  have e : y_fr h H [] [] := y_st (y_rf hr) hH (by repeat (first | exact w_nil | refine w_cons (Or.inl (y_m rfl)) ?_ | refine w_cons (Or.inr (by assumption)) ?_)) (by repeat (first | exact w_nil | refine w_cons (Or.inl (y_m rfl)) ?_ | refine w_cons (Or.inr (by assumption)) ?_))
  refine c_hasN (v := node) e.1 ((y_fe e rfl).trans g0) (fun v1 v2 H2 h2 => ⟨fun n e => (by cases e), ?_⟩) (fun nv H2 h2 => ⟨fun n e => (by cases e), ?_⟩)
  · exact T8 v1 v2 (y_sq e h2 rfl rfl)
  · exact T8n (y_sq e h2 rfl rfl)
theorem c_parts {W : aH → Prop} (hW : z_kp W) (hF : z_kf W) (h9 : z_spec (z_JW W) z_D s_P X z_x9) {h : aH} (hr : w_hr z_D h) (hJ : z_JW W h) {tI nd node iI : Int32} {k : Nat} {sn sl T0 : List Int32} (n0 : 0 ≤ node.toInt) (n1 : node.toInt < nd.toInt) (n10 : nd.toInt ≤ 10) (hi : iI.toInt = k) (kt : (k : Int) < tI.toInt) (gt : w_f h 15104 = some (.int tI)) (g0 : w_f h 128 = some (.int nd)) (t6 : tI.toInt ≤ 6) (a1 : w_a h 119 = some (0, .inl sn)) (a2 : w_a h 120 = some (0, .inl sl)) (a6 : w_a h 6 = some (0, .inl T0)) (l0 : T0.length = 80) (hK : ∀ (b : Bool) (H : aH), w_hr z_D H → z_JW W H → z_frm z_D cMS h H → w_a H 6 = some (0, .inl T0) → K0 (some (.int (y_01 b))) H C S) : aOK s_P X (d + 5) a_m126 0 [some (.ref 120), some (.ref 3), some (.int node), some (.int iI), some (.ref 153), some (.ref 154), none, none] [] h C S K0 := by
  have t0 : 0 ≤ tI.toInt := by omega
  have fin : ∀ {G H : aH} {b : Bool}, w_hr z_D G → z_JW W G → z_frm z_D cMS h G → w_a G 6 = some (0, .inl T0) → y_fr G H [] [] → K0 (some (.int (y_01 b))) H C S := fun r1 r2 r3 r4 f => hK _ _ f.1 (c_jw hW f rfl rfl r2) (z_frm_tr r3 (y_frm r1 f rfl rfl)) ((y_ae f rfl).trans r4)
  have T67 : ∀ {G : aH} {c p q : Int32}, w_hr z_D G → z_JW W G → z_frm z_D cMS h G → w_a G 6 = some (0, .inl T0) → aOK s_P X (d + 5) a_m126 67 [some (.ref 120), some (.ref 3), some (.int node), some (.int iI), some (.ref 153), some (.ref 154), some (.int p), some (.int q)] [.int c] G C S K0 := by
    intro G c p q r1 r2 r3 r4
    refine w_go z_hl [] [] 30 r1 ?_
    exact ⟨fun _ => ⟨by decide, fun H hH => fin (b := false) r1 r2 r3 r4 (y_st (y_rf r1) hH (by repeat (first | exact w_nil | refine w_cons (Or.inl (y_m rfl)) ?_ | refine w_cons (Or.inr (by assumption)) ?_)) (by repeat (first | exact w_nil | refine w_cons (Or.inl (y_m rfl)) ?_ | refine w_cons (Or.inr (by assumption)) ?_)))⟩, fun _ => ⟨by decide, fun H hH => fin (b := true) r1 r2 r3 r4 (y_st (y_rf r1) hH (by repeat (first | exact w_nil | refine w_cons (Or.inl (y_m rfl)) ?_ | refine w_cons (Or.inr (by assumption)) ?_)) (by repeat (first | exact w_nil | refine w_cons (Or.inl (y_m rfl)) ?_ | refine w_cons (Or.inr (by assumption)) ?_)))⟩⟩
  have T50 : ∀ {G : aH} {p q : Int32}, w_hr z_D G → z_JW W G → z_frm z_D cMS h G → w_a G 6 = some (0, .inl T0) → aOK s_P X (d + 5) a_m126 50 [some (.ref 120), some (.ref 3), some (.int node), some (.int iI), some (.ref 153), some (.ref 154), some (.int p), some (.int q)] [] G C S K0 := by
    intro G p q r1 r2 r3 r4
    have f0 : y_fr G G [] [] := y_rf r1
    refine w_go z_hl [] [53] 60 r1 ?_
    refine ⟨fun _ => ⟨by decide, fun H hH => fin (b := false) r1 r2 r3 r4 (y_st f0 hH (by repeat (first | exact w_nil | refine w_cons (Or.inl (y_m rfl)) ?_ | refine w_cons (Or.inr (by assumption)) ?_)) (by repeat (first | exact w_nil | refine w_cons (Or.inl (y_m rfl)) ?_ | refine w_cons (Or.inr (by assumption)) ?_)))⟩, fun _ => ⟨fun _ => ⟨by decide, fun H hH => fin (b := false) r1 r2 r3 r4 (y_st f0 hH (by repeat (first | exact w_nil | refine w_cons (Or.inl (y_m rfl)) ?_ | refine w_cons (Or.inr (by assumption)) ?_)) (by repeat (first | exact w_nil | refine w_cons (Or.inl (y_m rfl)) ?_ | refine w_cons (Or.inr (by assumption)) ?_)))⟩, fun _ => fun H hH => ?_⟩⟩
    have f : y_fr G H [] [] := y_st f0 hH (by repeat (first | exact w_nil | refine w_cons (Or.inl (y_m rfl)) ?_ | refine w_cons (Or.inr (by assumption)) ?_)) (by repeat (first | exact w_nil | refine w_cons (Or.inl (y_m rfl)) ?_ | refine w_cons (Or.inr (by assumption)) ?_))
    refine n_boxi [] (z_x27_s (y_jx_l y_JA_x)) rfl rfl rfl f.1 (y_jfr y_JA_x f rfl rfl r2.1) n_B0 (fun q hq => by cases hq) (by decide) rfl (by decide +kernel) (fun x H' q1 q2 q3 => ⟨fun n e => (by cases e), ?_⟩)
    exact T67 q1 ⟨q2, z_kpf hW f.1 q3 (by decide) (z_kpy hW f rfl rfl r2.2)⟩ (z_frm_tr r3 (z_frm_tr (y_frm r1 f rfl rfl) (n_zmo q3 (by decide)))) ((n_da q3 (o := 6) rfl rfl).trans ((y_ae f rfl).trans r4))
  have go : ∀ {hd : List Int32}, (∀ j : Nat, (j : Int) < tI.toInt → hd.getD j 0 = T0.getD (c_ps sn sl j) 0) → ∀ {G : aH}, c_st W h G tI nd sn sl hd T0 → aOK s_P X (d + 5) a_m126 5 [some (.ref 120), some (.ref 3), some (.int node), some (.int iI), some (.ref 153), some (.ref 154), none, none] [] G C S K0 := by
    intro hd hh
    have T43 : ∀ {G : aH} {p c : Int32}, c_st W h G tI nd sn sl hd T0 → aOK s_P X (d + 5) a_m126 43 [some (.ref 120), some (.ref 3), some (.int node), some (.int iI), some (.ref 153), some (.ref 154), some (.int p), none] [.int c] G C S K0 := by
      intro G p c s2
      refine w_go z_hl [] [124] 30 s2.1 ?_
      intro H2 h2
      have s3 := c_st_y hW s2 (y_st (y_rf s2.1) h2 (by repeat (first | exact w_nil | refine w_cons (Or.inl (y_m rfl)) ?_ | refine w_cons (Or.inr (by assumption)) ?_)) (by repeat (first | exact w_nil | refine w_cons (Or.inl (y_m rfl)) ?_ | refine w_cons (Or.inr (by assumption)) ?_)))
      obtain ⟨T, w6, ta⟩ := id s3.2.2.2.2.2
      refine c_give (d := d + 3) s3.1 s3.2.2.2.1.1 t0 t6 s3.2.2.2.2.1.1 s3.2.2.2.2.1.2.1 s3.2.2.2.2.1.2.2 w6 l0 hh ta (fun H3 f3 w3 z3 y3 => ⟨fun n e => (by cases e), ?_⟩)
      have r3 := z_frm_tr s3.2.2.1 (y_frm s3.1 f3 rfl rfl)
      exact T50 f3.1 ⟨y_jfr y_JA_x f3 rfl rfl s3.2.1.1, c_gW hF t0 hr hJ.2 (fun z => z_kpy hW (y3 z) rfl rfl (s3.2.1.2 z)) f3.1 r3 a6 w3 z3⟩ r3 w3
    have T36 : ∀ {G : aH} {p : Int32}, c_st W h G tI nd sn sl hd T0 → aOK s_P X (d + 5) a_m126 36 [some (.ref 120), some (.ref 3), some (.int node), some (.int iI), some (.ref 153), some (.ref 154), some (.int p), none] [] G C S K0 := by
      intro G p s2
      refine w_go z_hl [] [34] 30 s2.1 ?_
      intro H2 h2
      have s3 := c_st_y hW s2 (y_st (y_rf s2.1) h2 (by repeat (first | exact w_nil | refine w_cons (Or.inl (y_m rfl)) ?_ | refine w_cons (Or.inr (by assumption)) ?_)) (by repeat (first | exact w_nil | refine w_cons (Or.inl (y_m rfl)) ?_ | refine w_cons (Or.inr (by assumption)) ?_)))
      refine n_boxi [.int node, .int nd] (z_x472_s (y_jx_l y_JA_x)) rfl rfl rfl s3.1 s3.2.1.1 (n_Bi n0 (by omega) (n_Bf s3.2.2.2.1.2 (by omega) n10 n_B0)) (fun q hq => by
      have := List.mem_singleton.mp hq
      subst this
      exact ⟨node, nd, rfl, rfl, by show node.toInt - nd.toInt ≤ -1; omega⟩) (by decide) rfl (by decide +kernel) (fun x H' r1 r2 r3 => ⟨fun n e => (by cases e), ?_⟩)
      exact T43 (c_st_z hW s3 r1 r2 r3 (by decide) (by decide) (by decide))
    have T32 : ∀ {G : aH} {p : Int32}, c_st W h G tI nd sn sl hd T0 → aOK s_P X (d + 5) a_m126 32 [some (.ref 120), some (.ref 3), some (.int node), some (.int iI), some (.ref 153), some (.ref 154), some (.int p), none] [] G C S K0 := by
      intro G p s2
      refine w_go z_hl [] [29] 30 s2.1 ?_
      intro H2 h2
      have s3 := c_st_y hW s2 (y_st (y_rf s2.1) h2 (by repeat (first | exact w_nil | refine w_cons (Or.inl (y_m rfl)) ?_ | refine w_cons (Or.inr (by assumption)) ?_)) (by repeat (first | exact w_nil | refine w_cons (Or.inl (y_m rfl)) ?_ | refine w_cons (Or.inr (by assumption)) ?_)))
      refine c_ref h9 s3 (fun H' s4 => ⟨fun n e => (by cases e), ?_⟩)
      exact T36 s4
    have T23 : ∀ {G : aH} {c : Int32}, c_st W h G tI nd sn sl hd T0 → aOK s_P X (d + 5) a_m126 23 [some (.ref 120), some (.ref 3), some (.int node), some (.int iI), some (.ref 153), some (.ref 154), none, none] [.int c] G C S K0 := by
      intro G c s2
      refine w_go z_hl [] [123] 30 s2.1 ?_
      intro H2 h2
      have s3 := c_st_y hW s2 (y_st (y_rf s2.1) h2 (by repeat (first | exact w_nil | refine w_cons (Or.inl (y_m rfl)) ?_ | refine w_cons (Or.inr (by assumption)) ?_)) (by repeat (first | exact w_nil | refine w_cons (Or.inl (y_m rfl)) ?_ | refine w_cons (Or.inr (by assumption)) ?_)))
      obtain ⟨T, w6, ta⟩ := id s3.2.2.2.2.2
      refine c_moveTo (d := d + 3) s3.1 hi (by omega) s3.2.2.2.2.1.1 s3.2.2.2.2.1.2.1 w6 (fun H3 x f3 w3 => ⟨fun n e => (by cases e), ?_⟩)
      exact T32 (c_st_t (by omega) s3 f3 w3 (c_ta_set ta kt))
    have T16 : ∀ {G : aH}, c_st W h G tI nd sn sl hd T0 → aOK s_P X (d + 5) a_m126 16 [some (.ref 120), some (.ref 3), some (.int node), some (.int iI), some (.ref 153), some (.ref 154), none, none] [] G C S K0 := by
      intro G s2
      refine w_go z_hl [] [34] 30 s2.1 ?_
      intro H2 h2
      have s3 := c_st_y hW s2 (y_st (y_rf s2.1) h2 (by repeat (first | exact w_nil | refine w_cons (Or.inl (y_m rfl)) ?_ | refine w_cons (Or.inr (by assumption)) ?_)) (by repeat (first | exact w_nil | refine w_cons (Or.inl (y_m rfl)) ?_ | refine w_cons (Or.inr (by assumption)) ?_)))
      refine n_boxi [.int node, .int nd] (z_x14_s (y_jx_l y_JA_x)) rfl rfl rfl s3.1 s3.2.1.1 (n_Bi n0 (by omega) (n_Bf s3.2.2.2.1.2 (by omega) n10 n_B0)) (fun q hq => by
      have := List.mem_singleton.mp hq
      subst this
      exact ⟨node, nd, rfl, rfl, by show node.toInt - nd.toInt ≤ -1; omega⟩) (by decide) rfl (by decide +kernel) (fun x H' r1 r2 r3 => ⟨fun n e => (by cases e), ?_⟩)
      exact T23 (c_st_z hW s3 r1 r2 r3 (by decide) (by decide) (by decide))
    have T12 : ∀ {G : aH}, c_st W h G tI nd sn sl hd T0 → aOK s_P X (d + 5) a_m126 12 [some (.ref 120), some (.ref 3), some (.int node), some (.int iI), some (.ref 153), some (.ref 154), none, none] [] G C S K0 := by
      intro G s2
      refine w_go z_hl [] [29] 30 s2.1 ?_
      intro H2 h2
      have s3 := c_st_y hW s2 (y_st (y_rf s2.1) h2 (by repeat (first | exact w_nil | refine w_cons (Or.inl (y_m rfl)) ?_ | refine w_cons (Or.inr (by assumption)) ?_)) (by repeat (first | exact w_nil | refine w_cons (Or.inl (y_m rfl)) ?_ | refine w_cons (Or.inr (by assumption)) ?_)))
      refine c_ref h9 s3 (fun H' s4 => ⟨fun n e => (by cases e), ?_⟩)
      exact T16 s4
    intro G s2
    refine w_go z_hl [] [123] 30 s2.1 ?_
    intro H2 h2
    have s3 := c_st_y hW s2 (y_st (y_rf s2.1) h2 (by repeat (first | exact w_nil | refine w_cons (Or.inl (y_m rfl)) ?_ | refine w_cons (Or.inr (by assumption)) ?_)) (by repeat (first | exact w_nil | refine w_cons (Or.inl (y_m rfl)) ?_ | refine w_cons (Or.inr (by assumption)) ?_)))
    obtain ⟨T, w6, ta⟩ := id s3.2.2.2.2.2
    refine c_moveTo (d := d + 3) s3.1 hi (by omega) s3.2.2.2.2.1.1 s3.2.2.2.2.1.2.1 w6 (fun H3 x f3 w3 => ⟨fun n e => (by cases e), ?_⟩)
    exact T12 (c_st_t (by omega) s3 f3 w3 (c_ta_set ta kt))
  refine w_go z_hl [] [121] 30 hr ?_
  intro H hH
  have e : y_fr h H [] [] := y_st (y_rf hr) hH (by repeat (first | exact w_nil | refine w_cons (Or.inl (y_m rfl)) ?_ | refine w_cons (Or.inr (by assumption)) ?_)) (by repeat (first | exact w_nil | refine w_cons (Or.inl (y_m rfl)) ?_ | refine w_cons (Or.inr (by assumption)) ?_))
  refine c_hold (d := d + 3) e.1 ((y_fe e rfl).trans gt) t0 t6 ((y_ae e rfl).trans a1) ((y_ae e rfl).trans a2) ((y_ae e rfl).trans a6) (fun H3 hd f3 w3 hh => ⟨fun n e => (by cases e), ?_⟩)
  have e3 : y_fr h H3 [] [123] := y_sq (y_mo e rfl rfl) f3 rfl rfl
  exact go hh ⟨e3.1, ⟨y_jfr y_JA_x e3 rfl rfl hJ.1, fun _ => z_kpy hW e3 rfl rfl hJ.2⟩, y_frm hr e3 rfl rfl, ⟨(y_fe e3 rfl).trans gt, (y_fe e3 rfl).trans g0⟩, ⟨(y_ae e3 rfl).trans a1, (y_ae e3 rfl).trans a2, w3⟩, T0, (y_ae e3 rfl).trans a6, l0, fun _ _ => rfl⟩
theorem c_weighNow {h : aH} (hr : w_hr z_D h) (hJ : y_JA h) (hk : ∀ (r : Int32) (H : aH), w_hr z_D H → y_JA H → z_frm z_D [] h H → K0 (some (.int r)) H C S) : aOK s_P X (d + 2) a_m35 0 [some (.ref 3)] [] h C S K0 := by
  have T12 : ∀ {G : aH} {x : Int32}, w_hr z_D G → y_JA G → z_frm z_D [] h G → aOK s_P X (d + 2) a_m35 12 [some (.ref 3)] [.int x] G C S K0 := by
    intro G x r1 r2 r3
    refine w_go z_hl [] [] 30 r1 ?_
    intro H hH
    have f : y_fr G H [] [] := y_st (y_rf r1) hH (by repeat (first | exact w_nil | refine w_cons (Or.inl (y_m rfl)) ?_ | refine w_cons (Or.inr (by assumption)) ?_)) (by repeat (first | exact w_nil | refine w_cons (Or.inl (y_m rfl)) ?_ | refine w_cons (Or.inr (by assumption)) ?_))
    exact hk _ H f.1 (y_jfr y_JA_x f rfl rfl r2) (z_frm_tr r3 (y_frm r1 f rfl rfl))
  refine w_go z_hl [] [36] 40 hr ?_
  intro x hx x0 x1
  intro y hy y0 y1
  intro H hH
  have e : y_fr h H [] [] := y_st (y_rf hr) hH (by repeat (first | exact w_nil | refine w_cons (Or.inl (y_m rfl)) ?_ | refine w_cons (Or.inr (by assumption)) ?_)) (by repeat (first | exact w_nil | refine w_cons (Or.inl (y_m rfl)) ?_ | refine w_cons (Or.inr (by assumption)) ?_))
  refine n_boxi [.int x, .int y] (z_x11_s (y_jx_l y_JA_x)) rfl rfl rfl e.1 (y_jfr y_JA_x e rfl rfl hJ) (n_Bi x0 x1 (n_Bi y0 y1 n_B0)) (fun q hq => by cases hq) (by decide) rfl (by decide +kernel) (fun r H' r1 r2 r3 => ⟨fun n e => (by cases e), ?_⟩)
  exact T12 r1 r2 (z_frm_tr (y_frm hr e rfl rfl) (n_zmo r3 (by decide)))
/-- where the table is as it was -/
def c_su (W : aH → Prop) (h G : aH) (tI nd : Int32) (sn sl T0 : List Int32) : Prop := w_hr z_D G ∧ z_JW W G ∧ z_frm z_D cMS h G ∧ (w_f G 15104 = some (.int tI) ∧ w_f G 128 = some (.int nd)) ∧ (w_a G 119 = some (0, .inl sn) ∧ w_a G 120 = some (0, .inl sl)) ∧ w_a G 6 = some (0, .inl T0)
theorem c_su_y {W : aH → Prop} (hW : z_kp W) {h G H : aH} {tI nd : Int32} {sn sl T0 : List Int32} (s : c_su W h G tI nd sn sl T0) (f : y_fr G H [] []) : c_su W h H tI nd sn sl T0 := by
  obtain ⟨s1, s2, s3, s4, s5, s6⟩ := s
  exact ⟨f.1, c_jw hW f rfl rfl s2, z_frm_tr s3 (y_frm s1 f rfl rfl), ⟨(y_fe f rfl).trans s4.1, (y_fe f rfl).trans s4.2⟩, ⟨(y_ae f rfl).trans s5.1, (y_ae f rfl).trans s5.2⟩, (y_ae f rfl).trans s6⟩
theorem c_su_z {W : aH → Prop} {h G H : aH} {tI nd : Int32} {sn sl T0 : List Int32} {ms : List Nat} (s : c_su W h G tI nd sn sl T0) (hr : w_hr z_D H) (J : z_JW W H) (f : z_frm z_D ms G H) (h1 : ms.all (fun x => cMS.elem x) = true) (w : w_a H 6 = some (0, .inl T0)) : c_su W h H tI nd sn sl T0 := by
  obtain ⟨s1, s2, s3, s4, s5, s6⟩ := s
  have f := n_zmo f h1
  exact ⟨hr, J, z_frm_tr s3 f, ⟨(n_dk s1 f rfl rfl).trans s4.1, (n_dk s1 f rfl rfl).trans s4.2⟩, ⟨(n_da f rfl rfl).trans s5.1, (n_da f rfl rfl).trans s5.2⟩, w⟩
theorem c_leans_loop {W : aH → Prop} (hW : z_kp W) (hF : z_kf W) (h9 : z_spec (z_JW W) z_D s_P X z_x9) {h : aH} {tI nd node : Int32} {sn sl T0 : List Int32} (n0 : 0 ≤ node.toInt) (n1 : node.toInt < nd.toInt) (n10 : nd.toInt ≤ 10) (t6 : tI.toInt ≤ 6) (l0 : T0.length = 80) (hK : ∀ (r : Int32) (H : aH), w_hr z_D H → z_JW W H → z_frm z_D cMS h H → w_a H 6 = some (0, .inl T0) → K0 (some (.int r)) H C S) : ∀ (m : Nat) (G : aH) (pI iI : Int32) (k : Nat), c_su W h G tI nd sn sl T0 → iI.toInt = k → (k : Int) + m = tI.toInt → aOK s_P X (d + 6) a_m125 37 [some (.ref 2), some (.int node), some (.int pI), some (.int iI)] [] G C S K0 := by
  intro m
  induction m with
  | zero =>
    intro G pI iI k s hi hm
    refine w_go z_hl [37] [] 60 s.1 ?_
    intro x hx _ _
    obtain rfl := y_fi s.2.2.2.1.1 hx
    refine ⟨fun _ => fun H hH => ?_, fun q => ?_⟩
    · have s2 := c_su_y hW s (y_st (y_rf s.1) hH (by repeat (first | exact w_nil | refine w_cons (Or.inl (y_m rfl)) ?_ | refine w_cons (Or.inr (by assumption)) ?_)) (by repeat (first | exact w_nil | refine w_cons (Or.inl (y_m rfl)) ?_ | refine w_cons (Or.inr (by assumption)) ?_)))
      exact hK _ H s2.1 s2.2.1 s2.2.2.1 s2.2.2.2.2.2
    · have : ¬ (tI.toInt ≤ iI.toInt) := y_cif q
      omega
  | succ m ih =>
    intro G pI iI k s hi hm
    have hik : (iI + Int32.ofInt 1).toInt = ((k + 1 : Nat) : Int) := by rw [y_inc (by omega), hi]; rfl
    have T78 : ∀ {H : aH} {p : Int32}, c_su W h H tI nd sn sl T0 → aOK s_P X (d + 6) a_m125 78 [some (.ref 2), some (.int node), some (.int p), some (.int iI)] [] H C S K0 := by
      intro H p s2
      refine w_go z_hl [37] [] 30 s2.1 ?_
      intro H2 h2
      exact ih H2 _ _ (k + 1) (c_su_y hW s2 (y_st (y_rf s2.1) h2 (by repeat (first | exact w_nil | refine w_cons (Or.inl (y_m rfl)) ?_ | refine w_cons (Or.inr (by assumption)) ?_)) (by repeat (first | exact w_nil | refine w_cons (Or.inl (y_m rfl)) ?_ | refine w_cons (Or.inr (by assumption)) ?_)))) hik (by omega)
    have T69 : ∀ {H : aH} {b : Bool}, c_su W h H tI nd sn sl T0 → aOK s_P X (d + 6) a_m125 69 [some (.ref 2), some (.int node), some (.int pI), some (.int iI)] [.int (y_01 b)] H C S K0 := by
      intro H b s2
      refine w_go z_hl [78] [] 40 s2.1 ?_
      exact ⟨fun _ => fun H2 h2 => T78 (c_su_y hW s2 (y_st (y_rf s2.1) h2 (by repeat (first | exact w_nil | refine w_cons (Or.inl (y_m rfl)) ?_ | refine w_cons (Or.inr (by assumption)) ?_)) (by repeat (first | exact w_nil | refine w_cons (Or.inl (y_m rfl)) ?_ | refine w_cons (Or.inr (by assumption)) ?_)))), fun _ => fun H2 h2 => T78 (c_su_y hW s2 (y_st (y_rf s2.1) h2 (by repeat (first | exact w_nil | refine w_cons (Or.inl (y_m rfl)) ?_ | refine w_cons (Or.inr (by assumption)) ?_)) (by repeat (first | exact w_nil | refine w_cons (Or.inl (y_m rfl)) ?_ | refine w_cons (Or.inr (by assumption)) ?_))))⟩
    refine w_go z_hl [] [126] 60 s.1 ?_
    intro x hx _ _
    obtain rfl := y_fi s.2.2.2.1.1 hx
    refine ⟨fun q => ?_, fun _ => fun H hH => ?_⟩
    · have : tI.toInt ≤ iI.toInt := (y_ci .ge _ _).mp q
      omega
    · have s2 := c_su_y hW s (y_st (y_rf s.1) hH (by repeat (first | exact w_nil | refine w_cons (Or.inl (y_m rfl)) ?_ | refine w_cons (Or.inr (by assumption)) ?_)) (by repeat (first | exact w_nil | refine w_cons (Or.inl (y_m rfl)) ?_ | refine w_cons (Or.inr (by assumption)) ?_)))
      refine c_parts hW hF h9 (d := d) s2.1 s2.2.1 n0 n1 n10 hi (by omega) s2.2.2.2.1.1 s2.2.2.2.1.2 t6 s2.2.2.2.2.1.1 s2.2.2.2.2.1.2 s2.2.2.2.2.2 l0 (fun b H' r1 r2 r3 r4 => ⟨fun n e => (by cases e), ?_⟩)
      exact T69 (c_su_z s2 r1 r2 r3 (by decide) r4)
theorem c_leans {W : aH → Prop} (hW : z_kp W) (hF : z_kf W) (h9 : z_spec (z_JW W) z_D s_P X z_x9) {h : aH} (hr : w_hr z_D h) (hJ : z_JW W h) {tI nd node : Int32} {sn sl T0 : List Int32} (n10 : nd.toInt ≤ 10) (gt : w_f h 15104 = some (.int tI)) (g0 : w_f h 128 = some (.int nd)) (t0 : 0 ≤ tI.toInt) (t6 : tI.toInt ≤ 6) (a1 : w_a h 119 = some (0, .inl sn)) (a2 : w_a h 120 = some (0, .inl sl)) (a6 : w_a h 6 = some (0, .inl T0)) (l0 : T0.length = 80) (hk : ∀ (r : Int32) (H : aH), w_hr z_D H → z_JW W H → z_frm z_D cMS h H → w_a H 6 = some (0, .inl T0) → K0 (some (.int r)) H C S) : aOK s_P X (d + 6) a_m125 0 [some (.ref 2), some (.int node), none, none] [] h C S K0 := by
  have out : ∀ {r : Int32} {G H : aH}, c_su W h G tI nd sn sl T0 → y_fr G H [] [] → K0 (some (.int r)) H C S := fun s f => by
    have s2 := c_su_y hW s f
    exact hk _ _ s2.1 s2.2.1 s2.2.2.1 s2.2.2.2.2.2
  have s0 : c_su W h h tI nd sn sl T0 := ⟨hr, hJ, y_frm hr (y_rf hr) (fs := []) (as := []) rfl rfl, ⟨gt, g0⟩, ⟨a1, a2⟩, a6⟩
  have T27 : ∀ {G : aH} {x : Int32}, 0 ≤ node.toInt → node.toInt < nd.toInt → c_su W h G tI nd sn sl T0 → aOK s_P X (d + 6) a_m125 27 [some (.ref 2), some (.int node), none, none] [.int x] G C S K0 := by
    intro G x v1 v2 s
    refine w_go z_hl [37] [] 40 s.1 ?_
    refine ⟨fun _ => fun H hH => ?_, fun _ => fun H hH => out s (y_st (y_rf s.1) hH (by repeat (first | exact w_nil | refine w_cons (Or.inl (y_m rfl)) ?_ | refine w_cons (Or.inr (by assumption)) ?_)) (by repeat (first | exact w_nil | refine w_cons (Or.inl (y_m rfl)) ?_ | refine w_cons (Or.inr (by assumption)) ?_)))⟩
    exact c_leans_loop hW hF h9 v1 v2 n10 t6 l0 hk tI.toInt.toNat H _ _ 0 (c_su_y hW s (y_st (y_rf s.1) hH (by repeat (first | exact w_nil | refine w_cons (Or.inl (y_m rfl)) ?_ | refine w_cons (Or.inr (by assumption)) ?_)) (by repeat (first | exact w_nil | refine w_cons (Or.inl (y_m rfl)) ?_ | refine w_cons (Or.inr (by assumption)) ?_)))) (by decide) (by omega)
  have T20 : ∀ {G : aH}, 0 ≤ node.toInt → node.toInt < nd.toInt → c_su W h G tI nd sn sl T0 → aOK s_P X (d + 6) a_m125 20 [some (.ref 2), some (.int node), none, none] [] G C S K0 := by
    intro G v1 v2 s
    refine w_go z_hl [] [35] 40 s.1 ?_
    intro H hH
    have s2 := c_su_y hW s (y_st (y_rf s.1) hH (by repeat (first | exact w_nil | refine w_cons (Or.inl (y_m rfl)) ?_ | refine w_cons (Or.inr (by assumption)) ?_)) (by repeat (first | exact w_nil | refine w_cons (Or.inl (y_m rfl)) ?_ | refine w_cons (Or.inr (by assumption)) ?_)))
    refine c_weighNow (d := d + 3) s2.1 s2.2.1.1 (fun r H' r1 r2 r3 => ⟨fun n e => (by cases e), ?_⟩)
    exact T27 v1 v2 (c_su_z s2 r1 ⟨r2, z_kpf hW s2.1 r3 rfl s2.2.1.2⟩ r3 rfl ((n_da r3 (o := 6) rfl rfl).trans s2.2.2.2.2.2))
  have T8 : ∀ {G : aH}, 0 ≤ node.toInt → node.toInt < nd.toInt → c_su W h G tI nd sn sl T0 → aOK s_P X (d + 6) a_m125 8 [some (.ref 2), some (.int node), none, none] [.int (y_01 true)] G C S K0 := by
    intro G v1 v2 s
    refine w_go z_hl [] [29] 40 s.1 ?_
    refine ⟨fun _ => fun H hH => ?_, fun q => absurd q (by decide)⟩
    have s2 := c_su_y hW s (y_st (y_rf s.1) hH (by repeat (first | exact w_nil | refine w_cons (Or.inl (y_m rfl)) ?_ | refine w_cons (Or.inr (by assumption)) ?_)) (by repeat (first | exact w_nil | refine w_cons (Or.inl (y_m rfl)) ?_ | refine w_cons (Or.inr (by assumption)) ?_)))
    refine n_boxvJ [] h9 rfl rfl rfl s2.1 s2.2.1 n_B0 (fun q hq => by cases hq) (by decide) rfl (by decide +kernel) (fun H' r1 r2 r3 => ⟨fun n e => (by cases e), ?_⟩)
    exact T20 v1 v2 (c_su_z s2 r1 r2 r3 (by decide) ((n_da r3 (o := 6) rfl rfl).trans s2.2.2.2.2.2))
  have T8n : ∀ {G : aH}, c_su W h G tI nd sn sl T0 → aOK s_P X (d + 6) a_m125 8 [some (.ref 2), some (.int node), none, none] [.int (y_01 false)] G C S K0 := by
    intro G s
    refine w_go z_hl [] [] 30 s.1 ?_
    exact ⟨fun q => absurd q (by decide), fun _ => fun H hH => out s (y_st (y_rf s.1) hH (by repeat (first | exact w_nil | refine w_cons (Or.inl (y_m rfl)) ?_ | refine w_cons (Or.inr (by assumption)) ?_)) (by repeat (first | exact w_nil | refine w_cons (Or.inl (y_m rfl)) ?_ | refine w_cons (Or.inr (by assumption)) ?_)))⟩
  refine w_go z_hl [] [19] 30 hr ?_
  intro H hH
  have s2 := c_su_y hW s0 (y_st (y_rf hr) hH (by repeat (first | exact w_nil | refine w_cons (Or.inl (y_m rfl)) ?_ | refine w_cons (Or.inr (by assumption)) ?_)) (by repeat (first | exact w_nil | refine w_cons (Or.inl (y_m rfl)) ?_ | refine w_cons (Or.inr (by assumption)) ?_)))
  refine c_hasN (v := node) s2.1 s2.2.2.2.1.2 (fun v1 v2 H2 h2 => ⟨fun n e => (by cases e), ?_⟩) (fun nv H2 h2 => ⟨fun n e => (by cases e), ?_⟩)
  · exact T8 v1 v2 (c_su_y hW s2 h2)
  · exact T8n (c_su_y hW s2 h2)
end NGB
end PT33h5
section PT33h6
/-! ===== v9: node and set with what they write (laid by wip/tools/mk33c9.py) ===== -/
set_option maxRecDepth 100000 in
theorem c_has0 : (List.range 1024).all (fun b => (List.range 10).all (fun o => (decide ((Int32.ofNat b >>> (Int32.ofNat o &&& 31)) &&& Int32.ofInt 1 = Int32.ofInt 0)) == !b.testBit o)) = true := by decide +kernel
theorem c_bit {bits k : Int32} {b o : Nat} (hb : bits.toInt = b) (hb2 : b < 1024) (ho : k.toInt = o) (ho2 : o < 10) : (bits >>> (k &&& 31)) &&& Int32.ofInt 1 = Int32.ofInt 0 ↔ b.testBit o = false := by
  have h1 := List.all_eq_true.mp (List.all_eq_true.mp c_has0 b (List.mem_range.mpr hb2)) o (List.mem_range.mpr ho2)
  rw [(y_ofNat hb (by omega)).1, (y_ofNat ho (by omega)).1]
  have h2 := beq_iff_eq.mp h1
  constructor
  · intro e
    rw [decide_eq_true e] at h2
    cases hq : b.testBit o with
    | false => rfl
    | true => rw [hq] at h2; cases h2
  · intro e
    rw [e] at h2
    exact of_decide_eq_true h2
theorem c_pl1 {lb o : Nat} (h : lb.testBit o = true) : y_pl lb (o + 1) = y_pl lb o + 1 := by
  show y_pl lb o + (if lb.testBit o then 1 else 0) = _
  rw [h]
  rfl
theorem c_pl0 {lb o : Nat} (h : lb.testBit o = false) : y_pl lb (o + 1) = y_pl lb o := by
  show y_pl lb o + (if lb.testBit o then 1 else 0) = _
  rw [h]
  rfl
theorem c_pl_top {lb n : Nat} (h : lb < 2 ^ n) : ∀ k, n ≤ k → y_pl lb k = y_pl lb n := by
  intro k hk
  induction hk with
  | refl => rfl
  | step hk ih =>
    rename_i m
    have : lb < 2 ^ m := Nat.lt_of_lt_of_le h (Nat.pow_le_pow_right (by decide) hk)
    rw [c_pl0 (Nat.testBit_lt_two_pow this)]
    exact ih
/-- on what the node leans, up to oN -/
def c_lo (lN nN : Nat) (lo0 lo : List Int32) (oN : Nat) : Prop := lo.length = 30 ∧ (∀ o, o < oN → lN.testBit o = true → (lo.getD (3 * nN + y_pl lN o) 0).toInt = (o : Int)) ∧ ∀ i, i < 3 * nN → lo.getD i 0 = lo0.getD i 0
abbrev n_stV (a b v nd : Int32) (le de : List Int32) : Prop := 0 ≤ a.toInt ∧ a.toInt < nd.toInt ∧ 0 ≤ b.toInt ∧ b.toInt < ((2 ^ y_pl (y_Nn le a.toInt.toNat) 10 : Nat) : Int) ∧ 0 ≤ v.toInt ∧ v.toInt ≤ (de.getD a.toInt.toNat 0).toInt
section NNE
variable {X : aX} {C S d : Nat} {K0 : Option Value → aH → Nat → Nat → Prop}
theorem c_take_loop9 {leans deep nd : Int32} {lN nN : Nat} {lo0 : List Int32} (hl : leans.toInt = lN) (hn : nd.toInt = nN) (n9 : nN ≤ 9) (l10 : lN < 1024) (p3 : y_pl lN 10 ≤ 3) : ∀ (m : Nat) (h : aH) (ct ot : Int32) (oN : Nat) (lo : List Int32), w_hr z_D h → w_a h 4 = some (0, .inl lo) → ot.toInt = oN → ct.toInt = (y_pl lN oN : Nat) → oN + m = nN → c_lo lN nN lo0 lo oN → (∀ (H : aH) (c' o' : Int32) (lo' : List Int32), y_fr h H [] [4] → w_a H 4 = some (0, .inl lo') → c'.toInt = (y_pl lN nN : Nat) → c_lo lN nN lo0 lo' nN → aOK s_P X d a_m16 75 [some (.ref 3), some (.int leans), some (.int deep), some (.int nd), some (.int c'), some (.int o')] [] H C S K0) → aOK s_P X d a_m16 32 [some (.ref 3), some (.int leans), some (.int deep), some (.int nd), some (.int ct), some (.int ot)] [] h C S K0 := by
  intro m
  induction m with
  | zero =>
    intro h ct ot oN lo hr a4 ho hc hm clo hK
    have en : oN = nN := by omega
    subst en
    refine w_go z_hl [32, 75] [] 40 hr ?_
    refine ⟨fun _ => fun H hH => ?_, fun q => ?_⟩
    · have f : y_fr h H [] [] := y_st (y_rf hr) hH (by repeat (first | exact w_nil | refine w_cons (Or.inl (y_m rfl)) ?_ | refine w_cons (Or.inr (by assumption)) ?_)) (by repeat (first | exact w_nil | refine w_cons (Or.inl (y_m rfl)) ?_ | refine w_cons (Or.inr (by assumption)) ?_))
      exact hK H ct ot lo (y_mo f rfl rfl) ((y_ae f rfl).trans a4) hc clo
    · have g : ¬ (nd.toInt ≤ ot.toInt) := y_cif q
      omega
  | succ m ih =>
    intro h ct ot oN lo hr a4 ho hc hm clo hK
    have ino : (ot + Int32.ofInt 1).toInt = ((oN + 1 : Nat) : Int) := by rw [y_inc (by omega), ho]; rfl
    have pm : y_pl lN oN ≤ y_pl lN 10 := y_pl_m (by omega)
    have ic : (ct + Int32.ofInt 1).toInt = ((y_pl lN oN + 1 : Nat) : Int) := by rw [y_inc (by omega), hc]; rfl
    refine w_go z_hl [32, 75] [] 60 hr ?_
    refine ⟨fun q => ?_, fun _ => ⟨fun q => fun H hH => ?_, fun q => ⟨fun q2 => fun H hH => ?_, fun q2 => ?_⟩⟩⟩
    · have g : nd.toInt ≤ ot.toInt := (y_ci .ge _ _).mp q
      omega
    · have g : (Int32.ofInt 3).toInt ≤ ct.toInt := (y_ci .ge _ _).mp q
      rw [show (Int32.ofInt 3).toInt = 3 by decide] at g
      have f : y_fr h H [] [] := y_st (y_rf hr) hH (by repeat (first | exact w_nil | refine w_cons (Or.inl (y_m rfl)) ?_ | refine w_cons (Or.inr (by assumption)) ?_)) (by repeat (first | exact w_nil | refine w_cons (Or.inl (y_m rfl)) ?_ | refine w_cons (Or.inr (by assumption)) ?_))
      have p1 : y_pl lN oN ≤ y_pl lN nN := y_pl_m (by omega)
      have p2 : y_pl lN nN ≤ y_pl lN 10 := y_pl_m (by omega)
      refine hK H ct ot lo (y_mo f rfl rfl) ((y_ae f rfl).trans a4) (by omega) ⟨clo.1, fun o h1 h2 => ?_, clo.2.2⟩
      by_cases z : o < oN
      · exact clo.2.1 o z h2
      · have p4 := c_pl1 h2
        have p5 : y_pl lN (o + 1) ≤ y_pl lN 10 := y_pl_m (by omega)
        have p6 : y_pl lN oN ≤ y_pl lN o := y_pl_m (by omega)
        omega
    · have g : ((leans >>> (ot &&& 31)) &&& Int32.ofInt 1).toInt = (0 : Int32).toInt := (y_ci .eq _ _).mp q2
      have g2 := (c_bit hl l10 ho (by omega)).mp (Int32.toInt_inj.mp g)
      have f : y_fr h H [] [] := y_st (y_rf hr) hH (by repeat (first | exact w_nil | refine w_cons (Or.inl (y_m rfl)) ?_ | refine w_cons (Or.inr (by assumption)) ?_)) (by repeat (first | exact w_nil | refine w_cons (Or.inl (y_m rfl)) ?_ | refine w_cons (Or.inr (by assumption)) ?_))
      refine ih H _ _ (oN + 1) lo f.1 ((y_ae f rfl).trans a4) ino (by rw [c_pl0 g2]; exact hc) (by omega) ⟨clo.1, fun o h1 h2 => ?_, clo.2.2⟩ (fun H' c' o' lo' f' u1 u2 u3 => hK H' c' o' lo' (y_sq (y_mo f rfl rfl) f' rfl rfl) u1 u2 u3)
      by_cases z : o = oN
      · rw [z, g2] at h2
        cases h2
      · exact clo.2.1 o (by omega) h2
    · have g : ¬ (((leans >>> (ot &&& 31)) &&& Int32.ofInt 1).toInt = (0 : Int32).toInt) := y_cif q2
      have g2 : lN.testBit oN = true := by
        cases hq : lN.testBit oN with
        | true => rfl
        | false => exact absurd (congrArg Int32.toInt ((c_bit hl l10 ho (by omega)).mpr hq)) g
      have p4 := c_pl1 g2
      have p5 : y_pl lN (oN + 1) ≤ y_pl lN 10 := y_pl_m (by omega)
      have ix : (nd * Int32.ofInt 3 + ct).toInt = ((3 * nN + y_pl lN oN : Nat) : Int) := by
        have e3 : (nd * Int32.ofInt 3).toInt = nd.toInt * 3 := by
          rw [Int32.toInt_mul, show (Int32.ofInt 3).toInt = 3 by decide]
          exact Int.bmod_eq_of_le (by omega) (by omega)
        rw [Int32.toInt_add, e3, Int.bmod_eq_of_le (by omega) (by omega)]
        omega
      have cx := y_cl1 ix
      have bx : 0 ≤ (nd * Int32.ofInt 3 + ct).toInt ∧ (nd * Int32.ofInt 3 + ct).toInt < ((30 : Nat) : Int) := by omega
      refine ⟨bx, ⟨by omega, by omega⟩, fun l hl1 len bb => fun H hH => ?_⟩
      obtain rfl := y_ai a4 hl1
      have f : y_fr h H [] [4] := y_st (y_mo (y_rf hr) rfl rfl) hH (by repeat (first | exact w_nil | refine w_cons (Or.inl (y_m rfl)) ?_ | refine w_cons (Or.inr (by assumption)) ?_)) (by repeat (first | exact w_nil | refine w_cons (Or.inl (y_m rfl)) ?_ | refine w_cons (Or.inr (by assumption)) ?_))
      have w4 : w_a H 4 = some (0, .inl (lo.set (3 * nN + y_pl lN oN) ot)) := by rw [← cx]; exact hH.2.2.1 4 _ rfl
      refine ih H _ _ (oN + 1) _ f.1 w4 ino (by rw [p4]; exact ic) (by omega) ⟨by rw [List.length_set]; exact clo.1, fun o h1 h2 => ?_, fun i hi => ?_⟩ (fun H' c' o' lo' f' u1 u2 u3 => hK H' c' o' lo' (y_sq f f' rfl rfl) u1 u2 u3)
      · rw [c_gset (by rw [clo.1]; omega)]
        by_cases z : o = oN
        · rw [z, if_pos rfl]
          exact ho
        · have p6 := c_pl1 h2
          have p7 : y_pl lN (o + 1) ≤ y_pl lN oN := y_pl_m (by omega)
          rw [if_neg (by omega)]
          exact clo.2.1 o (by omega) h2
      · rw [c_gne (by omega)]
        exact clo.2.2 i hi
theorem c_take9 {h : aH} (hr : w_hr z_D h) {leans deep nd dp : Int32} {lN nN : Nat} {le lc lo de pr : List Int32} (a2 : w_a h 2 = some (0, .inl le)) (a3 : w_a h 3 = some (0, .inl lc)) (a4 : w_a h 4 = some (0, .inl lo)) (a5 : w_a h 5 = some (0, .inl de)) (a7 : w_a h 7 = some (0, .inl pr)) (l30 : lo.length = 30) (g1 : w_f h 128 = some (.int nd)) (g2 : w_f h 129 = some (.int dp)) (hn : nd.toInt = nN) (n9 : nN ≤ 9) (hl : leans.toInt = lN) (l10 : lN < 1024) (p3 : y_pl lN 10 ≤ 3) (hk : ∀ (H : aH) (ci : Int32) (lo' : List Int32), y_fr h H [128, 129, 143] [2, 3, 4, 5, 7] → w_f H 128 = some (.int (nd + Int32.ofInt 1)) → w_f H 129 = some (.int (dp * deep)) → w_a H 2 = some (0, .inl (le.set nN leans)) → w_a H 5 = some (0, .inl (de.set nN deep)) → w_a H 7 = some (0, .inl (pr.set nN (Int32.ofInt 1))) → w_a H 3 = some (0, .inl (lc.set nN ci)) → ci.toInt = (y_pl lN nN : Nat) → w_a H 4 = some (0, .inl lo') → c_lo lN nN lo lo' nN → w_f H 143 = some (.int (Int32.ofInt 0)) → K0 (some (.int nd)) H C S) : aOK s_P X d a_m16 0 [some (.ref 3), some (.int leans), some (.int deep), none, none, none] [] h C S K0 := by
  have cn := y_cl1 hn
  have T75 : ∀ {G : aH} {c' o' : Int32} {lo' : List Int32}, y_fr h G [] [2, 4, 5, 7] → w_a G 2 = some (0, .inl (le.set nN leans)) → w_a G 5 = some (0, .inl (de.set nN deep)) → w_a G 7 = some (0, .inl (pr.set nN (Int32.ofInt 1))) → w_a G 4 = some (0, .inl lo') → c'.toInt = (y_pl lN nN : Nat) → c_lo lN nN lo lo' nN → aOK s_P X d a_m16 75 [some (.ref 3), some (.int leans), some (.int deep), some (.int nd), some (.int c'), some (.int o')] [] G C S K0 := by
    intro G c' o' lo' e u2 u5 u7 u4 hc clo
    have inc : (nd + Int32.ofInt 1).toInt = nd.toInt + 1 := y_inc (by omega)
    have im := s_i32 (dp * deep)
    have pm : y_pl lN nN ≤ y_pl lN 10 := y_pl_m (by omega)
    refine w_go z_hl [] [] 60 e.1 ?_
    refine ⟨⟨by omega, by omega⟩, ⟨by omega, by omega⟩, fun l hl3 len bb => ?_⟩
    obtain rfl := y_ai ((y_ae e rfl).trans a3) hl3
    intro x hx _ _
    obtain rfl := y_fi ((y_fe e rfl).trans g2) hx
    refine ⟨rfl, y_zini (by show -2147483648 ≤ (dp * deep).toInt; omega) (by show (dp * deep).toInt ≤ 2147483647; omega), ?_⟩
    intro y hy _ _
    obtain rfl := y_fi ((y_fe e rfl).trans g1) hy
    refine ⟨rfl, y_zini (by show 0 ≤ (nd + Int32.ofInt 1).toInt; omega) (by show (nd + Int32.ofInt 1).toInt ≤ 10; omega), ?_⟩
    refine ⟨rfl, y_zini (by decide) (by decide), fun H hH => ?_⟩
    have fG : y_fr G H [128, 129, 143] [3] := y_st (y_mo (y_rf e.1) rfl rfl) hH (by repeat (first | exact w_nil | refine w_cons (Or.inl (y_m rfl)) ?_ | refine w_cons (Or.inr (by assumption)) ?_)) (by repeat (first | exact w_nil | refine w_cons (Or.inl (y_m rfl)) ?_ | refine w_cons (Or.inr (by assumption)) ?_))
    exact hk H c' lo' (y_sq (y_mo e rfl rfl) fG rfl rfl) (hH.2.1 128 _ rfl) (hH.2.1 129 _ rfl) ((y_ae fG rfl).trans u2) ((y_ae fG rfl).trans u5) ((y_ae fG rfl).trans u7) (by rw [← cn]; exact hH.2.2.1 3 _ rfl) hc ((y_ae fG rfl).trans u4) clo (hH.2.1 143 _ rfl)
  have ide := s_i32 deep
  refine w_go z_hl [32] [] 60 hr ?_
  intro x hx _ _
  obtain rfl := y_fi g1 hx
  refine ⟨⟨by omega, by omega⟩, ⟨by omega, by omega⟩, fun b1 h1 _ _ => ⟨⟨by omega, by omega⟩, ⟨by omega, by omega⟩, fun b2 h2 _ _ => ⟨⟨by omega, by omega⟩, ⟨by decide, by decide⟩, fun b3 h3 _ _ => fun H hH => ?_⟩⟩⟩
  obtain rfl := y_ai a2 h1
  obtain rfl := y_ai a5 h2
  obtain rfl := y_ai a7 h3
  have e : y_fr h H [] [2, 5, 7] := y_st (y_mo (y_rf hr) rfl rfl) hH (by repeat (first | exact w_nil | refine w_cons (Or.inl (y_m rfl)) ?_ | refine w_cons (Or.inr (by assumption)) ?_)) (by repeat (first | exact w_nil | refine w_cons (Or.inl (y_m rfl)) ?_ | refine w_cons (Or.inr (by assumption)) ?_))
  refine c_take_loop9 (lo0 := lo) hl hn n9 l10 p3 nN H _ _ 0 lo e.1 ((y_ae e rfl).trans a4) (by decide) (show (Int32.ofInt 0).toInt = ((0 : Nat) : Int) by decide) (by omega) ⟨l30, fun o ho => absurd ho (Nat.not_lt_zero o), fun _ _ => rfl⟩ (fun H' c' o' lo' f u1 u2 u3 => ?_)
  exact T75 (y_sq (y_mo e rfl rfl) f rfl rfl) ((y_ae f rfl).trans (by rw [← cn]; exact hH.2.2.1 2 _ rfl)) ((y_ae f rfl).trans (by rw [← cn]; exact hH.2.2.1 5 _ rfl)) ((y_ae f rfl).trans (by rw [← cn]; exact hH.2.2.1 7 _ rfl)) u1 u2 u3
theorem c_node9 {h : aH} (hr : w_hr z_D h) {leans deep nd dp : Int32} {le lc lo de pr : List Int32} (a2 : w_a h 2 = some (0, .inl le)) (a3 : w_a h 3 = some (0, .inl lc)) (a4 : w_a h 4 = some (0, .inl lo)) (a5 : w_a h 5 = some (0, .inl de)) (a7 : w_a h 7 = some (0, .inl pr)) (l30 : lo.length = 30) (g1 : w_f h 128 = some (.int nd)) (g2 : w_f h 129 = some (.int dp)) (n0 : 0 ≤ nd.toInt) (n10 : nd.toInt ≤ 10) (d1 : 1 ≤ dp.toInt) (d8 : dp.toInt ≤ 100000000) (yes : n_nd leans deep nd dp → ∀ (H : aH) (ci : Int32) (lo' : List Int32), y_fr h H [128, 129, 143] [2, 3, 4, 5, 7] → w_f H 128 = some (.int (nd + Int32.ofInt 1)) → w_f H 129 = some (.int (dp * deep)) → w_a H 2 = some (0, .inl (le.set nd.toInt.toNat leans)) → w_a H 5 = some (0, .inl (de.set nd.toInt.toNat deep)) → w_a H 7 = some (0, .inl (pr.set nd.toInt.toNat (Int32.ofInt 1))) → w_a H 3 = some (0, .inl (lc.set nd.toInt.toNat ci)) → ci.toInt = (y_pl leans.toInt.toNat 10 : Nat) → w_a H 4 = some (0, .inl lo') → c_lo leans.toInt.toNat nd.toInt.toNat lo lo' nd.toInt.toNat → w_f H 143 = some (.int (Int32.ofInt 0)) → K0 (some (.int nd)) H C S) (no : ¬ n_nd leans deep nd dp → ∀ H, y_fr h H [] [] → K0 (some (.int (Int32.ofInt (-1)))) H C S) : aOK s_P X (d + 2) a_m12 0 [some (.ref 2), some (.int leans), some (.int deep)] [] h C S K0 := by
  have T23 : ∀ {G : aH} {ci : Int32} {lo' : List Int32}, n_nd leans deep nd dp → y_fr h G [128, 129, 143] [2, 3, 4, 5, 7] → w_f G 128 = some (.int (nd + Int32.ofInt 1)) → w_f G 129 = some (.int (dp * deep)) → w_a G 2 = some (0, .inl (le.set nd.toInt.toNat leans)) → w_a G 5 = some (0, .inl (de.set nd.toInt.toNat deep)) → w_a G 7 = some (0, .inl (pr.set nd.toInt.toNat (Int32.ofInt 1))) → w_a G 3 = some (0, .inl (lc.set nd.toInt.toNat ci)) → ci.toInt = (y_pl leans.toInt.toNat 10 : Nat) → w_a G 4 = some (0, .inl lo') → c_lo leans.toInt.toNat nd.toInt.toNat lo lo' nd.toInt.toNat → w_f G 143 = some (.int (Int32.ofInt 0)) → aOK s_P X (d + 2) a_m12 23 [some (.ref 2), some (.int leans), some (.int deep)] [.int nd] G C S K0 := by
    intro G ci lo' v e h1 h2 u2 u5 u7 u3 hc u4 clo z4
    refine w_go z_hl [] [] 30 e.1 ?_
    intro H hH
    have f : y_fr G H [] [] := y_st (y_rf e.1) hH (by repeat (first | exact w_nil | refine w_cons (Or.inl (y_m rfl)) ?_ | refine w_cons (Or.inr (by assumption)) ?_)) (by repeat (first | exact w_nil | refine w_cons (Or.inl (y_m rfl)) ?_ | refine w_cons (Or.inr (by assumption)) ?_))
    exact yes v H ci lo' (y_sq e f rfl rfl) ((y_fe f rfl).trans h1) ((y_fe f rfl).trans h2) ((y_ae f rfl).trans u2) ((y_ae f rfl).trans u5) ((y_ae f rfl).trans u7) ((y_ae f rfl).trans u3) hc ((y_ae f rfl).trans u4) clo ((y_fe f rfl).trans z4)
  have T9 : ∀ {G : aH}, n_nd leans deep nd dp → y_fr h G [] [] → aOK s_P X (d + 2) a_m12 9 [some (.ref 2), some (.int leans), some (.int deep)] [.int (y_01 true)] G C S K0 := by
    intro G v e
    have wle : y_ways nd ≤ 1024 := (y_all n0 n10).2.2
    obtain ⟨v1, v2, v3, v4, v5⟩ := id v
    have lb : leans.toInt.toNat < 2 ^ nd.toInt.toNat := by
      have : y_ways nd = 2 ^ nd.toInt.toNat := rfl
      omega
    have hl : leans.toInt = (leans.toInt.toNat : Nat) := by omega
    rw [y_bcN hl (by omega)] at v4
    have top := c_pl_top lb 10 (by omega)
    refine w_go z_hl [] [16] 30 e.1 ?_
    refine ⟨fun _ => fun H hH => ?_, fun q => absurd q (by decide)⟩
    have e2 := y_st e hH (by repeat (first | exact w_nil | refine w_cons (Or.inl (y_m rfl)) ?_ | refine w_cons (Or.inr (by assumption)) ?_)) (by repeat (first | exact w_nil | refine w_cons (Or.inl (y_m rfl)) ?_ | refine w_cons (Or.inr (by assumption)) ?_))
    refine c_take9 (lN := leans.toInt.toNat) (nN := nd.toInt.toNat) e2.1 ((y_ae e2 rfl).trans a2) ((y_ae e2 rfl).trans a3) ((y_ae e2 rfl).trans a4) ((y_ae e2 rfl).trans a5) ((y_ae e2 rfl).trans a7) l30 ((y_fe e2 rfl).trans g1) ((y_fe e2 rfl).trans g2) (by omega) (by omega) hl (by omega) (by omega) (fun H2 ci lo' f x1 x2 u2 u5 u7 u3 hc u4 clo z4 => ⟨fun n e => (by cases e), ?_⟩)
    exact T23 v (y_sq (y_mo e2 rfl rfl) f rfl rfl) x1 x2 u2 u5 u7 u3 (by rw [top]; exact hc) u4 clo z4
  have T9n : ∀ {G : aH}, ¬ n_nd leans deep nd dp → y_fr h G [] [] → aOK s_P X (d + 2) a_m12 9 [some (.ref 2), some (.int leans), some (.int deep)] [.int (y_01 false)] G C S K0 := by
    intro G v e
    refine w_go z_hl [] [] 30 e.1 ?_
    exact ⟨fun q => absurd q (by decide), fun _ => fun H hH => no v H (y_st e hH (by repeat (first | exact w_nil | refine w_cons (Or.inl (y_m rfl)) ?_ | refine w_cons (Or.inr (by assumption)) ?_)) (by repeat (first | exact w_nil | refine w_cons (Or.inl (y_m rfl)) ?_ | refine w_cons (Or.inr (by assumption)) ?_)))⟩
  refine w_go z_hl [] [13] 30 hr ?_
  intro H hH
  have e := y_st (y_rf hr) hH (by repeat (first | exact w_nil | refine w_cons (Or.inl (y_m rfl)) ?_ | refine w_cons (Or.inr (by assumption)) ?_)) (by repeat (first | exact w_nil | refine w_cons (Or.inl (y_m rfl)) ?_ | refine w_cons (Or.inr (by assumption)) ?_))
  refine c_canTake (d := d) e.1 ((y_fe e rfl).trans g1) ((y_fe e rfl).trans g2) n0 n10 d1 d8 (fun v H2 h2 => ⟨fun n e => (by cases e), ?_⟩) (fun v H2 h2 => ⟨fun n e => (by cases e), ?_⟩)
  · exact T9 v (y_sq e h2 rfl rfl)
  · exact T9n v (y_sq e h2 rfl rfl)
theorem c_hasCaseN {h : aH} (hr : w_hr z_D h) {a b nd : Int32} {lc : List Int32} (g0 : w_f h 128 = some (.int nd)) (n10 : nd.toInt ≤ 10) (a3 : w_a h 3 = some (0, .inl lc)) (yes : 0 ≤ a.toInt ∧ a.toInt < nd.toInt ∧ 0 ≤ b.toInt ∧ b.toInt < ((2 ^ (lc.getD a.toInt.toNat 0).toInt.toNat : Nat) : Int) → ∀ H, y_fr h H [] [] → K0 (some (.int (y_01 true))) H C S) (no : ¬ (0 ≤ a.toInt ∧ a.toInt < nd.toInt ∧ 0 ≤ b.toInt ∧ b.toInt < ((2 ^ (lc.getD a.toInt.toNat 0).toInt.toNat : Nat) : Int)) → ∀ H, y_fr h H [] [] → K0 (some (.int (y_01 false))) H C S) : aOK s_P X (d + 1) a_m18 0 [some (.ref 3), some (.int a), some (.int b)] [] h C S K0 := by
  have T5 : ∀ {G : aH}, 0 ≤ a.toInt → a.toInt < nd.toInt → y_fr h G [] [] → aOK s_P X (d + 1) a_m18 5 [some (.ref 3), some (.int a), some (.int b)] [.int (y_01 true)] G C S K0 := by
    intro G v1 v2 e
    refine w_go z_hl [] [] 40 e.1 ?_
    refine ⟨fun q => absurd q (by decide), fun _ => ⟨fun q => ⟨by decide, fun H hH => ?_⟩, fun q => ⟨⟨by omega, by omega⟩, fun l hl len bb => ?_⟩⟩⟩
    · have z : b.toInt < (0 : Int32).toInt := (y_ci .lt _ _).mp q
      have z2 : b.toInt < 0 := z
      exact no (fun w => by omega) H (y_st e hH (by repeat (first | exact w_nil | refine w_cons (Or.inl (y_m rfl)) ?_ | refine w_cons (Or.inr (by assumption)) ?_)) (by repeat (first | exact w_nil | refine w_cons (Or.inl (y_m rfl)) ?_ | refine w_cons (Or.inr (by assumption)) ?_)))
    · have z : ¬ (b.toInt < (0 : Int32).toInt) := y_cif q
      have z2 : ¬ (b.toInt < 0) := z
      obtain rfl := y_ai ((y_ae e rfl).trans a3) hl
      have ca : a.toNatClampNeg = a.toInt.toNat := rfl
      have m := bb _ (z_gd (0 : Int32) (show a.toNatClampNeg < lc.length by rw [len, ca]; omega))
      have sh := y_shl6 (sp := lc.getD a.toNatClampNeg 0) (by omega) (by omega)
      have ew : y_ways (lc.getD a.toNatClampNeg 0) = 2 ^ (lc.getD a.toInt.toNat 0).toInt.toNat := rfl
      rw [ew] at sh
      refine ⟨fun q2 => ⟨by decide, fun H hH => ?_⟩, fun q2 => ⟨by decide, fun H hH => ?_⟩⟩
      · have g : (Int32.ofInt 1 <<< (lc.getD a.toNatClampNeg 0 &&& 31)).toInt ≤ b.toInt := (y_ci .ge _ _).mp q2
        exact no (fun w => by omega) H (y_st e hH (by repeat (first | exact w_nil | refine w_cons (Or.inl (y_m rfl)) ?_ | refine w_cons (Or.inr (by assumption)) ?_)) (by repeat (first | exact w_nil | refine w_cons (Or.inl (y_m rfl)) ?_ | refine w_cons (Or.inr (by assumption)) ?_)))
      · have g : ¬ ((Int32.ofInt 1 <<< (lc.getD a.toNatClampNeg 0 &&& 31)).toInt ≤ b.toInt) := y_cif q2
        exact yes ⟨v1, v2, by omega, by omega⟩ H (y_st e hH (by repeat (first | exact w_nil | refine w_cons (Or.inl (y_m rfl)) ?_ | refine w_cons (Or.inr (by assumption)) ?_)) (by repeat (first | exact w_nil | refine w_cons (Or.inl (y_m rfl)) ?_ | refine w_cons (Or.inr (by assumption)) ?_)))
  have T5n : ∀ {G : aH}, ¬ (0 ≤ a.toInt ∧ a.toInt < nd.toInt) → y_fr h G [] [] → aOK s_P X (d + 1) a_m18 5 [some (.ref 3), some (.int a), some (.int b)] [.int (y_01 false)] G C S K0 := by
    intro G nv e
    refine w_go z_hl [] [] 40 e.1 ?_
    exact ⟨fun _ => ⟨by decide, fun H hH => no (fun w => nv ⟨w.1, w.2.1⟩) H (y_st e hH (by repeat (first | exact w_nil | refine w_cons (Or.inl (y_m rfl)) ?_ | refine w_cons (Or.inr (by assumption)) ?_)) (by repeat (first | exact w_nil | refine w_cons (Or.inl (y_m rfl)) ?_ | refine w_cons (Or.inr (by assumption)) ?_)))⟩, fun q => absurd q (by decide)⟩
  refine w_go z_hl [] [19] 30 hr ?_
  intro H hH
  have e : y_fr h H [] [] := y_st (y_rf hr) hH (by repeat (first | exact w_nil | refine w_cons (Or.inl (y_m rfl)) ?_ | refine w_cons (Or.inr (by assumption)) ?_)) (by repeat (first | exact w_nil | refine w_cons (Or.inl (y_m rfl)) ?_ | refine w_cons (Or.inr (by assumption)) ?_))
  refine c_hasN (v := a) e.1 ((y_fe e rfl).trans g0) (fun v1 v2 H2 h2 => ⟨fun n e => (by cases e), ?_⟩) (fun nv H2 h2 => ⟨fun n e => (by cases e), ?_⟩)
  · exact T5 v1 v2 (y_sq e h2 rfl rfl)
  · exact T5n nv (y_sq e h2 rfl rfl)
theorem c_set {h : aH} (hr : w_hr z_D h) {a b v nd : Int32} {le lc de T : List Int32} (g0 : w_f h 128 = some (.int nd)) (n10 : nd.toInt ≤ 10) (a3 : w_a h 3 = some (0, .inl lc)) (a5 : w_a h 5 = some (0, .inl de)) (a6 : w_a h 6 = some (0, .inl T)) (hlc : ∀ i : Nat, (i : Int) < nd.toInt → (lc.getD i 0).toInt = (y_pl (y_Nn le i) 10 : Nat)) (pl3 : ∀ i : Nat, (i : Int) < nd.toInt → y_pl (y_Nn le i) 10 ≤ 3) (yes : n_stV a b v nd le de → ∀ H, y_fr h H [143] [6] → w_a H 6 = some (0, .inl (T.set (8 * a.toInt.toNat + b.toInt.toNat) v)) → w_f H 143 = some (.int (Int32.ofInt 0)) → K0 (some (.int (T.getD (8 * a.toInt.toNat + b.toInt.toNat) 0))) H C S) (no : ¬ n_stV a b v nd le de → ∀ H, y_fr h H [] [] → K0 (some (.int (Int32.ofInt (-1)))) H C S) : aOK s_P X (d + 2) a_m17 0 [some (.ref 2), some (.int a), some (.int b), some (.int v)] [] h C S K0 := by
  have ec : ∀ (q : 0 ≤ a.toInt ∧ a.toInt < nd.toInt), (lc.getD a.toInt.toNat 0).toInt.toNat = y_pl (y_Nn le a.toInt.toNat) 10 := fun q => by
    have := hlc a.toInt.toNat (by omega)
    omega
  have T41 : ∀ {G : aH}, n_stV a b v nd le de → y_fr h G [143] [6] → w_a G 6 = some (0, .inl (T.set (8 * a.toInt.toNat + b.toInt.toNat) v)) → w_f G 143 = some (.int (Int32.ofInt 0)) → aOK s_P X (d + 2) a_m17 41 [some (.ref 2), some (.int a), some (.int b), some (.int v)] [.int (T.getD (8 * a.toInt.toNat + b.toInt.toNat) 0)] G C S K0 := by
    intro G q e w6 z6
    refine w_go z_hl [] [] 30 e.1 ?_
    intro H hH
    have f : y_fr G H [] [] := y_st (y_rf e.1) hH (by repeat (first | exact w_nil | refine w_cons (Or.inl (y_m rfl)) ?_ | refine w_cons (Or.inr (by assumption)) ?_)) (by repeat (first | exact w_nil | refine w_cons (Or.inl (y_m rfl)) ?_ | refine w_cons (Or.inr (by assumption)) ?_))
    exact yes q H (y_sq e f rfl rfl) ((y_ae f rfl).trans w6) ((y_fe f rfl).trans z6)
  have T9 : ∀ {G : aH}, 0 ≤ a.toInt → a.toInt < nd.toInt → 0 ≤ b.toInt → b.toInt < ((2 ^ y_pl (y_Nn le a.toInt.toNat) 10 : Nat) : Int) → y_fr h G [] [] → aOK s_P X (d + 2) a_m17 9 [some (.ref 2), some (.int a), some (.int b), some (.int v)] [.int (y_01 true)] G C S K0 := by
    intro G v1 v2 v3 v4 e
    have p8 : 2 ^ y_pl (y_Nn le a.toInt.toNat) 10 ≤ 2 ^ 3 := Nat.pow_le_pow_right (by decide) (pl3 a.toInt.toNat (by omega))
    refine w_go z_hl [] [20] 60 e.1 ?_
    refine ⟨fun q => absurd q (by decide), fun _ => ⟨fun q => fun H hH => ?_, fun q => ⟨⟨by omega, by omega⟩, fun l hl len bb => ?_⟩⟩⟩
    · have z : v.toInt < (0 : Int32).toInt := (y_ci .lt _ _).mp q
      have z2 : v.toInt < 0 := z
      exact no (fun w => by have := w.2.2.2.2.1; omega) H (y_st e hH (by repeat (first | exact w_nil | refine w_cons (Or.inl (y_m rfl)) ?_ | refine w_cons (Or.inr (by assumption)) ?_)) (by repeat (first | exact w_nil | refine w_cons (Or.inl (y_m rfl)) ?_ | refine w_cons (Or.inr (by assumption)) ?_)))
    · have z : ¬ (v.toInt < (0 : Int32).toInt) := y_cif q
      have z2 : ¬ (v.toInt < 0) := z
      obtain rfl := y_ai ((y_ae e rfl).trans a5) hl
      have ca : a.toNatClampNeg = a.toInt.toNat := rfl
      refine ⟨fun q2 => fun H hH => ?_, fun q2 => fun H hH => ?_⟩
      · have g : v.toInt ≤ (de.getD a.toNatClampNeg 0).toInt := (y_ci .le _ _).mp q2
        rw [ca] at g
        have e2 : y_fr h H [] [] := y_st e hH (by repeat (first | exact w_nil | refine w_cons (Or.inl (y_m rfl)) ?_ | refine w_cons (Or.inr (by assumption)) ?_)) (by repeat (first | exact w_nil | refine w_cons (Or.inl (y_m rfl)) ?_ | refine w_cons (Or.inr (by assumption)) ?_))
        refine c_exch (na := a.toInt.toNat) (nb := b.toInt.toNat) e2.1 (by omega) (by omega) (by omega) (by omega) ((y_ae e2 rfl).trans a6) (fun H3 h3 w3 z3 => ⟨fun n e => (by cases e), ?_⟩)
        exact T41 ⟨v1, v2, v3, v4, by omega, g⟩ (y_sq (y_mo e2 rfl rfl) h3 rfl rfl) w3 z3
      · have g : ¬ (v.toInt ≤ (de.getD a.toNatClampNeg 0).toInt) := y_cif q2
        rw [ca] at g
        exact no (fun w => g w.2.2.2.2.2) H (y_st e hH (by repeat (first | exact w_nil | refine w_cons (Or.inl (y_m rfl)) ?_ | refine w_cons (Or.inr (by assumption)) ?_)) (by repeat (first | exact w_nil | refine w_cons (Or.inl (y_m rfl)) ?_ | refine w_cons (Or.inr (by assumption)) ?_)))
  have T9n : ∀ {G : aH}, ¬ n_stV a b v nd le de → y_fr h G [] [] → aOK s_P X (d + 2) a_m17 9 [some (.ref 2), some (.int a), some (.int b), some (.int v)] [.int (y_01 false)] G C S K0 := by
    intro G nv e
    refine w_go z_hl [] [] 40 e.1 ?_
    exact ⟨fun _ => fun H hH => no nv H (y_st e hH (by repeat (first | exact w_nil | refine w_cons (Or.inl (y_m rfl)) ?_ | refine w_cons (Or.inr (by assumption)) ?_)) (by repeat (first | exact w_nil | refine w_cons (Or.inl (y_m rfl)) ?_ | refine w_cons (Or.inr (by assumption)) ?_))), fun q => absurd q (by decide)⟩
  refine w_go z_hl [] [18] 30 hr ?_
  intro H hH
  have e : y_fr h H [] [] := y_st (y_rf hr) hH (by repeat (first | exact w_nil | refine w_cons (Or.inl (y_m rfl)) ?_ | refine w_cons (Or.inr (by assumption)) ?_)) (by repeat (first | exact w_nil | refine w_cons (Or.inl (y_m rfl)) ?_ | refine w_cons (Or.inr (by assumption)) ?_))
  refine c_hasCaseN (d := d) e.1 ((y_fe e rfl).trans g0) n10 ((y_ae e rfl).trans a3) (fun q H2 h2 => ⟨fun n e => (by cases e), ?_⟩) (fun q H2 h2 => ⟨fun n e => (by cases e), ?_⟩)
  · have q4 := q.2.2.2
    rw [ec ⟨q.1, q.2.1⟩] at q4
    exact T9 q.1 q.2.1 q.2.2.1 q4 (y_sq e h2 rfl rfl)
  · refine T9n (fun w => q ⟨w.1, w.2.1, w.2.2.1, ?_⟩) (y_sq e h2 rfl rfl)
    rw [ec ⟨w.1, w.2.1⟩]
    exact w.2.2.2.1
theorem f_set {h : aH} (hr : w_hr z_D h) (hJ : y_J h) {node at' v nd : Int32} {le de ta : List Int32} (n1 : w_f h 19591 = some (.int nd)) (n2 : w_a h 156 = some (0, .inl le)) (n3 : w_a h 157 = some (0, .inl de)) (n4 : w_a h 158 = some (0, .inl ta)) (yes : n_stV node at' v nd le de → ∀ H, y_fr h H [19584] [158] → y_J H → w_a H 158 = some (0, .inl (ta.set (8 * node.toInt.toNat + at'.toInt.toNat) v)) → K0 (some (.int (ta.getD (8 * node.toInt.toNat + at'.toInt.toNat) 0))) H C S) (no : ¬ n_stV node at' v nd le de → ∀ H, y_fr h H [19584] [] → K0 (some (.int (Int32.ofInt (-1)))) H C S) : aOK s_P X (d + 2) a_m177 0 [some (.ref 155), some (.int node), some (.int at'), some (.int v), none] [] h C S K0 := by
  obtain ⟨⟨nd0, le0, de0, ta0, m1, m2, m3, m4, c1, c2, c3, c4, c5⟩, q2, q3, q4, q5, q6, q7⟩ := id hJ
  obtain rfl := y_fi n1 m1
  obtain rfl := y_ai n2 m2
  obtain rfl := y_ai n3 m3
  obtain rfl := y_ai n4 m4
  obtain ⟨b1, b2⟩ := y_ndb hr n1
  have T43 : ∀ {G : aH} {vv aa : Nat}, node.toInt = vv → (vv : Int) < nd.toInt → at'.toInt = aa → aa < 8 → n_stV node at' v nd le de → y_fr h G [19584] [] → aOK s_P X (d + 2) a_m177 43 [some (.ref 155), some (.int node), some (.int at'), some (.int v), none] [.int (y_01 true)] G C S K0 := by
    intro G vv aa hv hv2 ha ha2 q e
    have ev : node.toInt.toNat = vv := by omega
    have ea : at'.toInt.toNat = aa := by omega
    have hidx := y_idx8 hv ha (by omega) (by omega)
    have hic := (y_ofNat hidx (by omega)).2
    have hidxb : 0 ≤ ((Int8.ofInt 8).toInt32 * node + at').toInt ∧ ((Int8.ofInt 8).toInt32 * node + at').toInt < ((80 : Nat) : Int) := by omega
    have hb7 : (de.getD vv 0).toInt ≤ 10000000 := by
      obtain ⟨l, p1, p2, p3⟩ := c_arr hr (ob := 157) (n := 10) (lo := 0) (hi := 10000000) rfl
      rw [y_ai n3 p1]
      exact (p3 _ (z_gd (0 : Int32) (by omega))).2
    have q6' := q.2.2.2.2.2
    rw [ev] at q6'
    refine w_go z_hl [] [] 40 e.1 ?_
    refine ⟨fun _ => ⟨hidxb, fun l2 hl2 len2 bb2 => ⟨hidxb, ⟨by have := q.2.2.2.2.1; omega, by omega⟩, fun H hH => ?_⟩⟩, fun q => absurd q (by decide)⟩
    obtain rfl := y_ai ((y_ae e rfl).trans n4) hl2
    have f : y_fr G H [] [158] := y_st (y_mo (y_rf e.1) rfl rfl) hH (by repeat (first | exact w_nil | refine w_cons (Or.inl (y_m rfl)) ?_ | refine w_cons (Or.inr (by assumption)) ?_)) (by repeat (first | exact w_nil | refine w_cons (Or.inl (y_m rfl)) ?_ | refine w_cons (Or.inr (by assumption)) ?_))
    have e9 : y_fr h H [19584] [158] := y_sq (y_mo e rfl rfl) f rfl rfl
    have A : w_a H 158 = some (0, .inl (ta.set (8 * vv + aa) v)) := by rw [← hic]; exact hH.2.2.1 158 _ rfl
    have w := yes q H e9 ⟨⟨nd, le, de, _, (y_fe e9 rfl).trans n1, (y_ae e9 rfl).trans n2, (y_ae e9 rfl).trans n3, A, c1, fun i hi => ?_, c3, c4, c5⟩, j_dp_e (y_fe e9 rfl) (y_fe e9 rfl) (y_ae e9 rfl) q2, j_old_e (y_ae e9 rfl) (y_ae e9 rfl) (y_ae e9 rfl) (y_ae e9 rfl) (y_ae e9 rfl) (y_ae e9 rfl) q3, j_w_e (y_fe e9 rfl) (y_ae e9 rfl) q4, j_seen_e (y_fe e9 rfl) (y_fe e9 rfl) (y_ae e9 rfl) (y_ae e9 rfl) q5, j_kept_e (y_fe e9 rfl) (y_ae e9 rfl) (y_ae e9 rfl) (y_ae e9 rfl) (y_ae e9 rfl) q6, j_land_e (y_fe e9 rfl) (y_ae e9 rfl) q7⟩ (by rw [ev, ea]; exact A)
    · rw [ev, ea, ← hic] at w
      exact w
    · show (List.getD (ta.set (8 * vv + aa) v) i 0).toInt ≤ _
      rw [y_gset (by omega)]
      split
      · rename_i ei
        subst ei
        rw [show (8 * vv + aa) / 8 = vv by omega]
        exact q6'
      · exact c2 i hi
  have T43n : ∀ {G : aH}, ¬ n_stV node at' v nd le de → y_fr h G [19584] [] → aOK s_P X (d + 2) a_m177 43 [some (.ref 155), some (.int node), some (.int at'), some (.int v), none] [.int (y_01 false)] G C S K0 := by
    intro G nv e
    refine w_go z_hl [] [] 40 e.1 ?_
    exact ⟨fun q => absurd q (by decide), fun _ => fun H hH => no nv H (y_st e hH (by repeat (first | exact w_nil | refine w_cons (Or.inl (y_m rfl)) ?_ | refine w_cons (Or.inr (by assumption)) ?_)) (by repeat (first | exact w_nil | refine w_cons (Or.inl (y_m rfl)) ?_ | refine w_cons (Or.inr (by assumption)) ?_)))⟩
  have T27 : ∀ {G : aH} {vv aa : Nat}, node.toInt = vv → (vv : Int) < nd.toInt → at'.toInt = aa → aa < 8 → at'.toInt < ((2 ^ y_pl (y_Nn le node.toInt.toNat) 10 : Nat) : Int) → y_fr h G [19584] [] → aOK s_P X (d + 2) a_m177 27 [some (.ref 155), some (.int node), some (.int at'), some (.int v), none] [.int (y_01 true)] G C S K0 := by
    intro G vv aa hv hv2 ha ha2 hp e
    have ev : node.toNatClampNeg = node.toInt.toNat := rfl
    refine w_go z_hl [] [176] 40 e.1 ?_
    refine ⟨fun q => absurd q (by decide), fun _ => ⟨⟨by omega, by omega⟩, fun l hl len bb => fun H hH => ?_⟩⟩
    obtain rfl := y_ai ((y_ae e rfl).trans n3) hl
    have e2 : y_fr h H [19584] [] := y_st e hH (by repeat (first | exact w_nil | refine w_cons (Or.inl (y_m rfl)) ?_ | refine w_cons (Or.inr (by assumption)) ?_)) (by repeat (first | exact w_nil | refine w_cons (Or.inl (y_m rfl)) ?_ | refine w_cons (Or.inr (by assumption)) ?_))
    refine q_in (v := v.toInt64) (lo := Int64.ofNat 0) (hi := (de.getD node.toNatClampNeg 0).toInt64) e2.1 (fun H3 h3 l1 l2 => ⟨fun n e => (by cases e), ?_⟩) (fun H3 h3 l => ⟨fun n e => (by cases e), ?_⟩)
    · rw [y_i2l] at l1
      rw [y_i2l, y_i2l, ev] at l2
      exact T43 hv hv2 ha ha2 ⟨by omega, by omega, by omega, hp, l1, l2⟩ (y_sq e2 h3 rfl rfl)
    · rw [y_i2l, y_i2l, ev] at l
      exact T43n (fun w => l w.2.2.2.2.1 w.2.2.2.2.2) (y_sq e2 h3 rfl rfl)
  have T27n : ∀ {G : aH}, ¬ n_stV node at' v nd le de → y_fr h G [19584] [] → aOK s_P X (d + 2) a_m177 27 [some (.ref 155), some (.int node), some (.int at'), some (.int v), none] [.int (y_01 false)] G C S K0 := by
    intro G nv e
    refine w_go z_hl [] [] 40 e.1 ?_
    exact ⟨fun _ => fun H hH => no nv H (y_st e hH (by repeat (first | exact w_nil | refine w_cons (Or.inl (y_m rfl)) ?_ | refine w_cons (Or.inr (by assumption)) ?_)) (by repeat (first | exact w_nil | refine w_cons (Or.inl (y_m rfl)) ?_ | refine w_cons (Or.inr (by assumption)) ?_))), fun q => absurd q (by decide)⟩
  have T21 : ∀ {G : aH} {vv : Nat} {cs : Int32}, node.toInt = vv → (vv : Int) < nd.toInt → cs.toInt = ((2 ^ y_pl (y_Nn le vv) 10 : Nat) : Int) → y_fr h G [19584] [] → aOK s_P X (d + 2) a_m177 21 [some (.ref 155), some (.int node), some (.int at'), some (.int v), none] [.int cs, .long (Int64.ofNat 0), .long at'.toInt64] G C S K0 := by
    intro G vv cs hv hv2 hcs e
    have ev : node.toInt.toNat = vv := by omega
    have h5 : 2 ^ y_pl (y_Nn le vv) 10 ≤ 2 ^ 3 := Nat.pow_le_pow_right (by decide) (c1 vv (by omega)).1
    have h6 : 0 < 2 ^ y_pl (y_Nn le vv) 10 := Nat.pow_pos (by decide)
    refine w_go z_hl [] [176] 40 e.1 ?_
    intro H hH
    have e2 : y_fr h H [19584] [] := y_st e hH (by repeat (first | exact w_nil | refine w_cons (Or.inl (y_m rfl)) ?_ | refine w_cons (Or.inr (by assumption)) ?_)) (by repeat (first | exact w_nil | refine w_cons (Or.inl (y_m rfl)) ?_ | refine w_cons (Or.inr (by assumption)) ?_))
    refine q_in (v := at'.toInt64) (lo := Int64.ofNat 0) (hi := (cs - Int32.ofInt 1).toInt64) e2.1 (fun H3 h3 l1 l2 => ⟨fun n e => (by cases e), ?_⟩) (fun H3 h3 l => ⟨fun n e => (by cases e), ?_⟩)
    · rw [y_i2l] at l1
      rw [y_i2l, y_i2l, y_sub1 (by omega)] at l2
      have l1 : 0 ≤ at'.toInt := l1
      exact T27 (aa := at'.toInt.toNat) hv hv2 (by omega) (by omega) (by rw [ev]; omega) (y_sq e2 h3 rfl rfl)
    · rw [y_i2l, y_i2l, y_sub1 (by omega)] at l
      refine T27n (fun w => l w.2.2.1 ?_) (y_sq e2 h3 rfl rfl)
      have := w.2.2.2.1
      rw [ev] at this
      omega
  have T10 : ∀ {G : aH} {vv : Nat}, node.toInt = vv → (vv : Int) < nd.toInt → y_fr h G [19584] [] → aOK s_P X (d + 2) a_m177 10 [some (.ref 155), some (.int node), some (.int at'), some (.int v), none] [.int (y_01 true)] G C S K0 := by
    intro G vv hv hv2 e
    refine w_go z_hl [] [179] 40 e.1 ?_
    refine ⟨fun q => absurd q (by decide), fun _ => fun H hH => ?_⟩
    have e2 : y_fr h H [19584] [] := y_st e hH (by repeat (first | exact w_nil | refine w_cons (Or.inl (y_m rfl)) ?_ | refine w_cons (Or.inr (by assumption)) ?_)) (by repeat (first | exact w_nil | refine w_cons (Or.inl (y_m rfl)) ?_ | refine w_cons (Or.inr (by assumption)) ?_))
    refine y_cases (d := d) (v := node) e2.1 hv (by omega) ((y_ae e2 rfl).trans n2) (c1 vv (by omega)).1 (fun cs H3 h3 hcs => ⟨fun n e => (by cases e), ?_⟩)
    exact T21 hv hv2 hcs (y_sq e2 h3 rfl rfl)
  have T10n : ∀ {G : aH}, ¬ n_stV node at' v nd le de → y_fr h G [19584] [] → aOK s_P X (d + 2) a_m177 10 [some (.ref 155), some (.int node), some (.int at'), some (.int v), none] [.int (y_01 false)] G C S K0 := by
    intro G nv e
    refine w_go z_hl [] [] 40 e.1 ?_
    exact ⟨fun _ => fun H hH => no nv H (y_st e hH (by repeat (first | exact w_nil | refine w_cons (Or.inl (y_m rfl)) ?_ | refine w_cons (Or.inr (by assumption)) ?_)) (by repeat (first | exact w_nil | refine w_cons (Or.inl (y_m rfl)) ?_ | refine w_cons (Or.inr (by assumption)) ?_))), fun q => absurd q (by decide)⟩
  refine w_go z_hl [] [178] 30 hr ?_
  refine ⟨rfl, y_zini (by decide) (by decide), fun H1 h1 => ?_⟩
  have e1 : y_fr h H1 [19584] [] := y_st (y_mo (y_rf hr) rfl rfl) h1 (by repeat (first | exact w_nil | refine w_cons (Or.inl (y_m rfl)) ?_ | refine w_cons (Or.inr (by assumption)) ?_)) (by repeat (first | exact w_nil | refine w_cons (Or.inl (y_m rfl)) ?_ | refine w_cons (Or.inr (by assumption)) ?_))
  refine q_isNode2 (v := node) e1.1 ((y_fe e1 rfl).trans n1) (fun H2 vv h2 hv hv2 hvc => ⟨fun n e => (by cases e), ?_⟩) (fun H2 h2 nv => ⟨fun n e => (by cases e), ?_⟩)
  · exact T10 hv hv2 (y_sq e1 h2 rfl rfl)
  · exact T10n (fun w => nv ⟨w.1, w.2.1⟩) (y_sq e1 h2 rfl rfl)
theorem f_node9 {h : aH} (hr : w_hr z_D h) (hJ : y_J h) (hC : j_cost h) {leans deep X0 D0 : Int32} (g1 : w_f h 19591 = some (.int X0)) (g2 : w_f h 19600 = some (.long D0.toInt64)) (hk : ∀ (r : Int32) (H : aH), y_fr h H [19584, 19591, 19600] [156, 157, 159, 160, 161] → y_J H → j_cost H → (n_nd leans deep X0 D0 → r = X0 ∧ w_f H 19591 = some (.int (X0 + Int32.ofInt 1)) ∧ w_f H 19600 = some (.long (D0.toInt64 * deep.toInt64)) ∧ (∀ l, w_a h 161 = some (0, .inl l) → w_a H 161 = some (0, .inl (l.set X0.toNatClampNeg (Int32.ofInt 1)))) ∧ (∀ l, w_a h 156 = some (0, .inl l) → w_a H 156 = some (0, .inl (l.set X0.toNatClampNeg leans))) ∧ (∀ l, w_a h 157 = some (0, .inl l) → w_a H 157 = some (0, .inl (l.set X0.toNatClampNeg deep))) ∧ (∀ l, w_a h 159 = some (0, .inl l) → w_a H 159 = some (0, .inl (l.set X0.toNatClampNeg (Int32.ofInt (-1))))) ∧ (∀ l, w_a h 160 = some (0, .inl l) → w_a H 160 = some (0, .inl (l.set X0.toNatClampNeg (Int32.ofInt (-1)))))) → (¬ n_nd leans deep X0 D0 → r = Int32.ofInt (-1) ∧ y_fr h H [19584] []) → K0 (some (.int r)) H C S) : aOK s_P X (d + 2) a_m173 0 [some (.ref 155), some (.int leans), some (.int deep), none] [] h C S K0 := by
  have hJ' := hJ
  obtain ⟨⟨nd, le, de, ta, n1, n2, n3, n4, c1, c2, c3, c4, c5⟩, ⟨nd', dp, de', d1, d2, d3, d4⟩, -⟩ := hJ'
  have e0 := d1.symm.trans n1
  cases e0
  have e0 : de = de' := by
    have := n3.symm.trans d3
    cases this
    rfl
  subst e0
  have hX : nd = X0 := y_fi n1 g1
  subst hX
  have hD0 : dp = D0.toInt64 := by
    have := d2.symm.trans g2
    injection this with this
    injection this
  obtain ⟨b1, b2⟩ := y_ndb hr n1
  obtain ⟨n, hn⟩ : ∃ n : Nat, nd.toInt = n := ⟨nd.toInt.toNat, by omega⟩
  have hnn : nd.toInt.toNat = n := by omega
  have hnc := (y_ofNat hn (by omega)).2
  refine w_go z_hl [] [174, 15, 176] 30 hr ?_
  refine ⟨rfl, y_zini (by decide) (by decide), ?_⟩
  intro H1 h1
  have e1 : y_fr h H1 [19584] [] := y_fr_rel h1 (w_cons (Or.inl (y_m rfl)) w_nil) w_nil
  have out : ∀ {G H : aH}, ¬ n_nd leans deep nd D0 → y_fr h G [19584] [] → w_rel z_D G [] [] H → K0 (some (.int (Int32.ofInt (-1)))) H C S := fun nv g1 g3 => by
    have g4 := y_fr_tr g1 (y_fr_rel g3 w_nil w_nil) (fun _ q => q) (fun _ q => q)
    exact hk _ _ (y_fr_mono g4 (fun x q => by rw [List.mem_singleton.mp q]; exact y_m rfl) (fun _ q => by cases q)) (y_J_fr g4 rfl rfl hJ) (j_cost_e g4 rfl rfl hC) (fun v => absurd v nv) (fun _ => ⟨rfl, g4⟩)
  refine y_isSet (v := leans) e1.1 ((y_fe e1 rfl).trans n1) b1 b2 (fun H2 h2 => ?_)
  refine ⟨fun n e => (by cases e), ?_⟩
  have e2 : y_fr h H2 [19584] [] := y_fr_tr e1 (y_fr_mono h2 (fun _ q => by cases q) (fun _ q => q)) (fun _ q => q) (fun _ q => q)
  cases hset : decide (0 ≤ leans.toInt ∧ leans.toInt < y_ways nd) with
  | false =>
    refine w_go z_hl [] [174, 15, 176] 30 h2.1 ?_
    refine ⟨fun q => ⟨fun q2 => ?_, fun q2 => absurd q2 (by decide)⟩, fun q => absurd q (by decide)⟩
    intro H3 h3
    exact out (fun v => of_decide_eq_false hset ⟨v.2.1, v.2.2.1⟩) e2 h3
  | true =>
    have hsv := of_decide_eq_true hset
    obtain ⟨-, l1, l2⟩ := y_all b1 b2
    obtain ⟨lb, hlb⟩ : ∃ lb : Nat, leans.toInt = lb := ⟨leans.toInt.toNat, by omega⟩
    refine w_go z_hl [] [174, 15, 176] 30 h2.1 ?_
    refine ⟨fun q => absurd q (by decide), fun q => ?_⟩
    intro H3 h3
    have e3 : y_fr h H3 [19584] [] := y_fr_tr e2 (y_fr_rel h3 w_nil w_nil) (fun _ q => q) (fun _ q => q)
    refine y_bitCount (x := leans) e3.1 (fun H4 h4 => ?_)
    refine ⟨fun n e => (by cases e), ?_⟩
    have e4 : y_fr h H4 [19584] [] := y_fr_tr e3 (y_fr_rel h4 w_nil w_nil) (fun _ q => q) (fun _ q => q)
    have hbc := y_bcN hlb (by omega)
    refine w_go z_hl [] [174, 15, 176] 30 e4.1 ?_
    refine ⟨fun q => ⟨fun q2 => ?_, fun q2 => absurd q2 (by decide)⟩, fun q => ?_⟩
    · intro H5 h5
      have z3 : (Int32.ofInt 3).toInt < (y_bc leans).toInt := (y_ci .gt _ _).mp q
      rw [show (Int32.ofInt 3).toInt = 3 by decide] at z3
      exact out (fun v => by have := v.2.2.2.1; omega) e4 h5
    · have h3b : ¬ ((Int32.ofInt 3).toInt < (y_bc leans).toInt) := y_cif q
      rw [show (Int32.ofInt 3).toInt = 3 by decide, hbc] at h3b
      intro H5 h5
      have e5 : y_fr h H5 [19584] [] := y_fr_tr e4 (y_fr_rel h5 w_nil w_nil) (fun _ q => q) (fun _ q => q)
      refine y_in h5.1 (fun H6 h6 => ?_)
      refine ⟨fun n e => (by cases e), ?_⟩
      have e6 : y_fr h H6 [19584] [] := y_fr_tr e5 (y_fr_rel h6 w_nil w_nil) (fun _ q => q) (fun _ q => q)
      cases hdp : decide ((Int64.ofNat 1).toInt ≤ deep.toInt64.toInt ∧ deep.toInt64.toInt ≤ (Int64.ofInt 10000000).toInt) with
      | false =>
        have go : aOK s_P X (d + 2) a_m173 30 [some (.ref 155), some (.int leans), some (.int deep), none] [.int (y_01 false)] H6 C S K0 := by
          refine w_go z_hl [] [174, 15, 176] 30 e6.1 ?_
          refine ⟨fun q => ⟨fun q2 => ?_, fun q2 => absurd q2 (by decide)⟩, fun q => absurd q (by decide)⟩
          intro H7 h7
          exact out (fun v => of_decide_eq_false hdp (by rw [y_i2l, y_i64 (by decide) (by decide), show (Int64.ofNat 1).toInt = 1 from rfl]; exact ⟨v.2.2.2.2.1, v.2.2.2.2.2.1⟩)) e6 h7
        rw [← hdp] at go
        exact go
      | true =>
        have hdv := of_decide_eq_true hdp
        rw [y_i2l, y_i64 (by decide) (by decide), show (Int64.ofNat 1).toInt = 1 from rfl] at hdv
        have n1' : w_f H6 19591 = some (.int nd) := (y_fe e6 rfl).trans n1
        have go : aOK s_P X (d + 2) a_m173 30 [some (.ref 155), some (.int leans), some (.int deep), none] [.int (y_01 true)] H6 C S K0 := by
          refine w_go z_hl [68] [174, 15, 176] 30 e6.1 ?_
          refine ⟨fun q => absurd q (by decide), fun q => ?_⟩
          intro x hx _ _
          have ex : x = nd := by
            have := hx.symm.trans n1'
            cases this
            rfl
          subst ex
          have fr7 : ∀ {H : aH} {hf : wF}, w_rel z_D H6 hf [] H → (∀ q ∈ hf, q.1 ∈ ([] : List Nat) ∨ w_f H6 q.1 = some q.2) → y_fr h H [19584] [] := fun g1 g2 => y_fr_tr e6 (y_fr_rel g1 g2 w_nil) (fun _ q => by cases q) (fun _ q => q)
          have out2 : ∀ {H : aH} {hf : wF}, ¬ n_nd leans deep x D0 → w_rel z_D H6 hf [] H → (∀ q ∈ hf, q.1 ∈ ([] : List Nat) ∨ w_f H6 q.1 = some q.2) → K0 (some (.int (Int32.ofInt (-1)))) H C S := fun nv g1 g2 => by
            have g4 := fr7 g1 g2
            exact hk _ _ (y_fr_mono g4 (fun x q => by rw [List.mem_singleton.mp q]; exact y_m rfl) (fun _ q => by cases q)) (y_J_fr g4 rfl rfl hJ) (j_cost_e g4 rfl rfl hC) (fun v => absurd v nv) (fun _ => ⟨rfl, g4⟩)
          refine ⟨fun q3 => ⟨fun q4 => fun H7 h7 => out2 (fun v => by have z : ((Int8.ofInt 10).toInt32).toInt ≤ x.toInt := (y_ci .ge _ _).mp q3; rw [show ((Int8.ofInt 10).toInt32).toInt = 10 by decide] at z; have := v.1; omega) h7 (w_cons (Or.inr n1') w_nil), fun q4 => absurd q4 (by decide)⟩, fun q3 => ⟨fun q4 => absurd q4 (by decide), fun q4 => ?_⟩⟩
          have hlt : ¬ (((Int8.ofInt 10).toInt32).toInt ≤ x.toInt) := y_cif q3
          rw [show ((Int8.ofInt 10).toInt32).toInt = 10 by decide] at hlt
          intro y hy by1 by2
          have d2' : w_f H6 19600 = some (.long dp) := (y_fe e6 rfl).trans d2
          have ey : y = dp := by
            have := hy.symm.trans d2'
            cases this
            rfl
          subst ey
          have hmul : (y * deep.toInt64).toInt = y.toInt * deep.toInt := by
            have p1 : 0 ≤ y.toInt * deep.toInt := Int.mul_nonneg (by omega) (by omega)
            have p2 : y.toInt * deep.toInt ≤ 100000000 * 10000000 := Int.mul_le_mul (by omega) (by omega) (by omega) (by decide)
            rw [y_mul (by rw [y_i2l]; omega) (by rw [y_i2l]; omega), y_i2l]
          refine ⟨fun q5 => ?_, fun q5 => fun H7 h7 => out2 (fun v => (y_clf q5 : ¬ ((y * deep.toInt64).toInt ≤ (Int64.ofInt 100000000).toInt)) (by rw [y_i64 (by decide) (by decide), hmul, hD0, y_i2l]; exact v.2.2.2.2.2.2)) h7 (w_cons (Or.inr d2') (w_cons (Or.inr n1') w_nil))⟩
          have hle8 : (y * deep.toInt64).toInt ≤ (Int64.ofInt 100000000).toInt := (y_cl .le _ _).mp q5
          rw [y_i64 (by decide) (by decide), hmul] at hle8
          have pos8 : 1 * 1 ≤ y.toInt * deep.toInt := Int.mul_le_mul by1 (by omega) (by decide) (by omega)
          intro H7 h7
          have e7 := fr7 h7 (w_cons (Or.inr d2') (w_cons (Or.inr n1') w_nil))
          have n7 : w_f H7 19591 = some (.int x) := (y_fe e7 rfl).trans n1
          have d7 : w_f H7 19600 = some (.long y) := (y_fe e7 rfl).trans d2
          refine w_go z_hl [] [] 80 e7.1 ?_
          intro z hz _ _
          have ez : z = x := by
            have := hz.symm.trans n7
            cases this
            rfl
          subst ez
          refine ⟨⟨by omega, by omega⟩, ⟨by omega, by omega⟩, fun a1 ha1 la1 ba1 => ?_⟩
          have q1 : a1 = le := by
            have := ha1.symm.trans ((y_ae e7 rfl).trans n2)
            cases this
            rfl
          subst q1
          refine ⟨⟨by omega, by omega⟩, ⟨by omega, by omega⟩, fun a2 ha2 la2 ba2 => ?_⟩
          have q1 : a2 = de := by
            have := ha2.symm.trans ((y_ae e7 rfl).trans n3)
            cases this
            rfl
          subst q1
          intro z2 hz2 _ _
          have ez : z2 = y := by
            have := hz2.symm.trans d7
            cases this
            rfl
          subst ez
          refine ⟨rfl, y_zin (by show 1 ≤ (z2 * deep.toInt64).toInt; omega) (by show (z2 * deep.toInt64).toInt ≤ 100000000; omega), ?_⟩
          refine ⟨⟨by omega, by omega⟩, by decide, fun a3 ha3 la3 ba3 => ?_⟩
          refine ⟨⟨by omega, by omega⟩, by decide, fun a4 ha4 la4 ba4 => ?_⟩
          refine ⟨⟨by omega, by omega⟩, by decide, fun a5 ha5 la5 ba5 => ?_⟩
          have hinc : (z + Int32.ofInt 1).toInt = z.toInt + 1 := y_inc (by omega)
          refine ⟨rfl, y_zini (by show 0 ≤ (z + Int32.ofInt 1).toInt; omega) (by show (z + Int32.ofInt 1).toInt ≤ 10; omega), ?_⟩
          intro H8 h8
          have f8 : y_fr H7 H8 [19584, 19591, 19600] [156, 157, 159, 160, 161] := y_fr_rel h8 (w_cons (Or.inl (y_m rfl)) (w_cons (Or.inl (y_m rfl)) (w_cons (Or.inl (y_m rfl)) (w_cons (Or.inl (y_m rfl)) w_nil)))) (w_cons (Or.inl (y_m rfl)) (w_cons (Or.inl (y_m rfl)) (w_cons (Or.inl (y_m rfl)) (w_cons (Or.inl (y_m rfl)) (w_cons (Or.inl (y_m rfl)) (w_cons (Or.inl (y_m rfl)) (w_cons (Or.inl (y_m rfl)) (w_cons (Or.inl (y_m rfl)) (w_cons (Or.inl (y_m rfl)) (w_cons (Or.inl (y_m rfl)) w_nil))))))))))
          have e8 : y_fr h H8 [19584, 19591, 19600] [156, 157, 159, 160, 161] := y_fr_tr (y_fr_mono e7 (fun x q => by rw [List.mem_singleton.mp q]; exact y_m rfl) (fun _ q => by cases q)) f8 (fun _ q => q) (fun _ q => q)
          have HC8 : j_cost H8 := by
            obtain ⟨ndc, co, kn', kc, x1, x2, x3, x4, x5, x6⟩ := hC
            have q1 := x1.symm.trans n1
            cases q1
            have q1 : a5 = co := by
              have := ha5.symm.trans ((y_ae e7 rfl).trans x2)
              cases this
              rfl
            subst q1
            have A5 : w_a H8 161 = some (0, .inl (a5.set z.toNatClampNeg (Int32.ofInt 1))) := h8.2.2.1 161 _ rfl
            refine ⟨_, _, kn', kc, h8.2.1 19591 _ rfl, A5, (y_ae e8 rfl).trans x3, (y_ae e8 rfl).trans x4, fun v hv => ?_, x6⟩
            have hv2 : (v : Int) < (z + Int32.ofInt 1).toInt := hv
            rw [hnc, y_Nset (by omega)]
            split
            · decide
            · exact x5 v (by omega)
          refine hk _ H8 e8 ?_ HC8 (fun _ => ⟨Int32.add_sub_cancel _ _, h8.2.1 19591 _ rfl, (by rw [← hD0]; exact h8.2.1 19600 _ rfl), fun co hco => (by obtain rfl := y_ai ((y_ae e7 rfl).trans hco) ha5; exact h8.2.2.1 161 _ rfl), fun co hco => (by obtain rfl := y_ai ((y_ae e7 rfl).trans hco) ha1; exact h8.2.2.1 156 _ rfl), fun co hco => (by obtain rfl := y_ai ((y_ae e7 rfl).trans hco) ha2; exact h8.2.2.1 157 _ rfl), fun co hco => (by obtain rfl := y_ai ((y_ae e7 rfl).trans hco) ha3; exact h8.2.2.1 159 _ rfl), fun co hco => (by obtain rfl := y_ai ((y_ae e7 rfl).trans hco) ha4; exact h8.2.2.1 160 _ rfl)⟩) (fun nv => absurd ⟨by omega, hsv.1, hsv.2, by rw [hbc]; omega, hdv.1, hdv.2, by have := hle8; rw [hD0, y_i2l] at this; exact this⟩ nv)
          obtain ⟨-, -, ⟨de2, to, kt, sn, sl, sh, o1, o2, o3, o4, o5, o6, o7, o8, o9⟩, ⟨nd2, wl, w1, w2, w3, w4, w5⟩, ⟨nd3, sm, so, sa, s1, s2, s3, s4, s5⟩, ⟨nd4, kn, km, ko, ks, k1, k2, k3, k4, k5, k6⟩, hland⟩ := hJ
          have q1 : a2 = de2 := by
            have := n3.symm.trans o1
            cases this
            rfl
          subst q1
          have q1 := w1.symm.trans n1
          cases q1
          have q1 := s1.symm.trans n1
          cases q1
          have q1 := k1.symm.trans n1
          cases q1
          have q1 : a4 = sa := by
            have := ha4.symm.trans ((y_ae e7 rfl).trans s4)
            cases this
            rfl
          subst q1
          have N8 : w_f H8 19591 = some (.int (z + Int32.ofInt 1)) := h8.2.1 19591 _ rfl
          have A1 : w_a H8 156 = some (0, .inl (a1.set z.toNatClampNeg leans)) := h8.2.2.1 156 _ rfl
          have A2 : w_a H8 157 = some (0, .inl (a2.set z.toNatClampNeg deep)) := h8.2.2.1 157 _ rfl
          have A4 : w_a H8 160 = some (0, .inl (a4.set z.toNatClampNeg (Int32.ofInt (-1)))) := h8.2.2.1 160 _ rfl
          have D8 : w_f H8 19600 = some (.long (z2 * deep.toInt64)) := h8.2.1 19600 _ rfl
          rw [hnc] at A1 A2 A4
          have tn : (z + Int32.ofInt 1).toInt.toNat = n + 1 := by omega
          have dset : ∀ i, y_N (a2.set n deep) i = if i = n then deep.toInt else y_N a2 i := fun i => y_Nset (by omega)
          have dn0 : y_N a2 n = 0 := c5 n (by omega)
          have dmono : ∀ i, y_N a2 i ≤ y_N (a2.set n deep) i := fun i => by
            rw [dset]
            split
            · rename_i e; rw [e, dn0]; omega
            · exact Int.le_refl _
          have epr : y_pr (y_N (a2.set n deep)) (n + 1) = z2.toInt * deep.toInt := by
            show y_pr (y_N (a2.set n deep)) n * y_N (a2.set n deep) n = _
            rw [y_pr_c (g := y_N a2) (fun v hv => by rw [dset, if_neg (by omega)]), dset, if_pos rfl, d4, hnn]
          have ways : y_ways z ≤ y_ways (z + Int32.ofInt 1) := by
            unfold y_ways
            exact Nat.pow_le_pow_right (by decide) (by omega)
          refine ⟨⟨_, _, _, ta, N8, A1, A2, (y_ae e8 rfl).trans n4, fun v hv => ?_, fun i hi => Int.le_trans (c2 i hi) (dmono _), fun v hv => ?_, ?_, fun v hv => ?_⟩, ⟨_, _, _, N8, D8, A2, ?_⟩, ⟨_, to, kt, sn, sl, sh, A2, (y_ae e8 rfl).trans o2, (y_ae e8 rfl).trans o3, (y_ae e8 rfl).trans o4, (y_ae e8 rfl).trans o5, (y_ae e8 rfl).trans o6, fun i hi => Int.le_trans (o7 i hi) (dmono _), fun i hi => Int.le_trans (o8 i hi) (dmono _), fun k hk6 => ⟨Int.le_trans (o9 k hk6).1 (dmono _), Int.le_trans (o9 k hk6).2 (dmono _)⟩⟩, ⟨_, wl, N8, (y_ae e8 rfl).trans w2, w3, w4, fun i hi => w5 i (Nat.le_trans ways hi)⟩, ⟨_, sm, so, _, N8, (y_fe e8 rfl).trans s2, (y_ae e8 rfl).trans s3, A4, ?_⟩, ⟨_, kn, km, ko, ks, N8, (y_ae e8 rfl).trans k2, (y_ae e8 rfl).trans k3, (y_ae e8 rfl).trans k4, (y_ae e8 rfl).trans k5, fun i hi => ⟨by have := (k6 i hi).1; omega, (k6 i hi).2⟩⟩, j_land_e (y_fe e8 rfl) (y_ae e8 rfl) hland⟩
          · rw [y_Nnset (by omega)]
            split
            · rename_i e
              subst e
              have hl2 : leans.toInt.toNat = lb := by omega
              rw [hl2]
              refine ⟨by omega, ?_⟩
              have : y_ways z = 2 ^ v := by unfold y_ways; rw [hnn]
              omega
            · exact c1 v hv
          · rw [dset]
            split
            · omega
            · exact c3 v (by omega)
          · rw [tn, epr]
            omega
          · rw [dset, if_neg (by omega)]
            exact c5 v (by omega)
          · rw [tn, epr, hmul]
          · rw [tn]
            rw [hnn] at s5
            obtain ⟨t1, t2, t3, t4⟩ := s5
            have aset : ∀ i, y_N (a4.set n (Int32.ofInt (-1))) i = if i = n then (Int32.ofInt (-1)).toInt else y_N a4 i := fun i => y_Nset (by omega)
            refine ⟨by omega, fun k hk' => ?_, t3, fun v hv hs => ?_⟩
            · obtain ⟨u1, u2, u3⟩ := t2 k hk'
              refine ⟨u1, by omega, ?_⟩
              rw [aset, if_neg (by omega)]
              exact u3
            · rw [aset] at hs
              split at hs
              · rw [show (Int32.ofInt (-1)).toInt = -1 by decide] at hs
                omega
              · exact t4 v (by omega) hs
        rw [← hdp] at go
        exact go
end NNE
end PT33h6
section PT33h7
/-! ===== v9: the reference's keep and again with all that they copy (laid by wip/tools/mk33d9.py) ===== -/
/-- a kept table: the first m numbers of the row i as they are, the others as they were -/
def y_kx (i m : Nat) (ta kt0 kt : List Int32) : Prop := ∀ j, y_N kt j = if 80 * i ≤ j ∧ j < 80 * i + m then y_N ta (j - 80 * i) else y_N kt0 j
def y_k9 (de : List Int32) (i m : Nat) (ta kt0 kt : List Int32) : Prop := y_kt de kt ∧ y_kx i m ta kt0 kt
/-- a table that is given back: the first m numbers as they were kept, the others as they were -/
def y_tx9 (i m : Nat) (kt ta0 ta : List Int32) : Prop := ∀ j, y_N ta j = if j < m then y_N kt (80 * i + j) else y_N ta0 j
def y_t9 (de : List Int32) (i m : Nat) (kt ta0 ta : List Int32) : Prop := y_tb de ta ∧ y_tx9 i m kt ta0 ta
/-- what was forced, up to v -/
def y_bf9 (i p v : Nat) (kf fo : List Int32) : Prop := ∀ u, u < v → y_N fo u = if u < p then y_N kf (10 * i + u) else -1
theorem y_bf9_s {i p v : Nat} {kf fo : List Int32} {x : Int32} (h : y_bf9 i p v kf fo) (l1 : v < fo.length) (hx : x.toInt = if v < p then y_N kf (10 * i + v) else -1) : y_bf9 i p (v + 1) kf (fo.set v x) := by
  intro u hu
  rw [y_Nset l1]
  by_cases q : u = v
  · subst q
    rw [if_pos rfl]
    exact hx
  · rw [if_neg q]
    exact h u (by omega)
section WG9
variable {X : aX} {C S d : Nat} {K0 : Option Value → aH → Nat → Nat → Prop}
theorem f_keep_in9 {iI vI : Int32} {i v : Nat} {ta de kt0 : List Int32} (hi : iI.toInt = i) (hv : vI.toInt = v) (hi3 : i < 3) (hv10 : v < 10) (c2 : ∀ i, i < 80 → y_N ta i ≤ y_N de (i / 8)) : ∀ (t : Nat) (h : aH) (kI : Int32) (k : Nat) (kt : List Int32), w_hr z_D h → w_a h 194 = some (0, .inl kt) → w_a h 158 = some (0, .inl ta) → kI.toInt = k → k + t = 8 → y_k9 de i (8 * v + k) ta kt0 kt →
    (∀ (H : aH) (kt' : List Int32) (kI' : Int32), y_fr h H [] [194] → w_a H 194 = some (0, .inl kt') → y_k9 de i (8 * v + 8) ta kt0 kt' → aOK s_P X d a_m279 163 [some (.ref 155), some (.int iI), some (.int vI), some (.int kI')] [] H C S K0) →
    aOK s_P X d a_m279 124 [some (.ref 155), some (.int iI), some (.int vI), some (.int kI)] [] h C S K0 := by
  intro t
  induction t with
  | zero =>
    intro h kI k kt hr g1 g2 hk hkt hq hK
    refine w_go z_hl [124, 163] [] 40 hr ?_
    refine ⟨fun q => ?_, fun q => ?_⟩
    · intro H hH
      have e : y_fr h H [] [194] := y_st (y_mo (y_rf hr) rfl rfl) hH (by repeat (first | exact w_nil | refine w_cons (Or.inl (y_m rfl)) ?_ | refine w_cons (Or.inr (by assumption)) ?_)) (by repeat (first | exact w_nil | refine w_cons (Or.inl (y_m rfl)) ?_ | refine w_cons (Or.inr (by assumption)) ?_))
      have e0 : y_fr h H [] [] := y_st (y_mo (y_rf hr) rfl rfl) hH (by repeat (first | exact w_nil | refine w_cons (Or.inl (y_m rfl)) ?_ | refine w_cons (Or.inr (by assumption)) ?_)) (by repeat (first | exact w_nil | refine w_cons (Or.inl (y_m rfl)) ?_ | refine w_cons (Or.inr (by assumption)) ?_))
      have ek : k = 8 := by omega
      subst ek
      exact hK H kt kI e ((y_ae e0 rfl).trans g1) hq
    · have : ¬ (((Int8.ofInt 8).toInt32).toInt ≤ kI.toInt) := y_cif q
      rw [y_c8] at this
      omega
  | succ t ih =>
    intro h kI k kt hr g1 g2 hk hkt hq hK
    refine w_go z_hl [124, 163] [] 40 hr ?_
    refine ⟨fun q => ?_, fun q => ?_⟩
    · have : ((Int8.ofInt 8).toInt32).toInt ≤ kI.toInt := (y_ci .ge _ _).mp q
      rw [y_c8] at this
      omega
    · have i1 := y_i8 (y_i10 hi hv (by omega) (by omega)) hk (by omega) (by omega)
      have i2 := y_i8 hv hk (by omega) (by omega)
      have c1 := y_cl1 i1
      have c3 := y_cl1 i2
      have hik : (kI + Int32.ofInt 1).toInt = ((k + 1 : Nat) : Int) := by rw [y_inc (by omega), hk]; rfl
      have b1 : 0 ≤ ((Int8.ofInt 8).toInt32 * ((Int8.ofInt 10).toInt32 * iI + vI) + kI).toInt ∧ ((Int8.ofInt 8).toInt32 * ((Int8.ofInt 10).toInt32 * iI + vI) + kI).toInt < ((240 : Nat) : Int) := by omega
      have b2 : 0 ≤ ((Int8.ofInt 8).toInt32 * vI + kI).toInt ∧ ((Int8.ofInt 8).toInt32 * vI + kI).toInt < ((80 : Nat) : Int) := by omega
      refine ⟨b2, fun l hl hlen hbb => ?_⟩
      obtain rfl := y_ai g2 hl
      have hm := hbb _ (z_gd (0 : Int32) (show ((Int8.ofInt 8).toInt32 * vI + kI).toNatClampNeg < ta.length by omega))
      refine ⟨b1, hm, fun l2 hl2 hlen2 hbb2 => ?_⟩
      obtain rfl := y_ai g1 hl2
      intro H hH
      have e : y_fr h H [] [194] := y_st (y_mo (y_rf hr) rfl rfl) hH (by repeat (first | exact w_nil | refine w_cons (Or.inl (y_m rfl)) ?_ | refine w_cons (Or.inr (by assumption)) ?_)) (by repeat (first | exact w_nil | refine w_cons (Or.inl (y_m rfl)) ?_ | refine w_cons (Or.inr (by assumption)) ?_))
      refine ih H _ (k + 1) _ e.1 (hH.2.2.1 194 _ rfl) ((y_ae e rfl).trans g2) hik (by omega) ⟨fun j hj => ?_, fun j => ?_⟩ (fun H' kt' kI' f1 f2 f3 => hK H' kt' kI' (y_sq e f1 rfl rfl) f2 f3)
      · rw [c1, y_Nset (by omega)]
        split
        · rename_i ej
          subst ej
          rw [c3, show (8 * (10 * i + v) + k) % 80 / 8 = v by omega]
          have := c2 (8 * v + k) (by omega)
          rw [show (8 * v + k) / 8 = v by omega] at this
          exact this
        · exact hq.1 j hj
      · rw [c1, y_Nset (by omega)]
        by_cases ej : j = 8 * (10 * i + v) + k
        · subst ej
          rw [if_pos rfl, c3, if_pos (by omega), show 8 * (10 * i + v) + k - 80 * i = 8 * v + k by omega]
          rfl
        · rw [if_neg ej, hq.2 j]
          by_cases z : 80 * i ≤ j ∧ j < 80 * i + (8 * v + k)
          · rw [if_pos z, if_pos (by omega)]
          · rw [if_neg z, if_neg (by omega)]
theorem f_keep_out9 {iI : Int32} {i : Nat} {ta de so sa fo co ks0 ko0 kc0 kt0 kf0 : List Int32} (hi : iI.toInt = i) (hi3 : i < 3) (c2 : ∀ i, i < 80 → y_N ta i ≤ y_N de (i / 8)) : ∀ (t : Nat) (h : aH) (vI : Int32) (v : Nat) (o3 : Option Value) (kf ks kc ko kt : List Int32), w_hr z_D h → w_a h 189 = some (0, .inl kf) → w_a h 190 = some (0, .inl ks) → w_a h 191 = some (0, .inl kc) → w_a h 192 = some (0, .inl ko) → w_a h 194 = some (0, .inl kt) → w_a h 158 = some (0, .inl ta) → w_a h 159 = some (0, .inl fo) → w_a h 160 = some (0, .inl sa) → w_a h 161 = some (0, .inl co) → w_a h 162 = some (0, .inl so) → vI.toInt = v → v + t = 10 → y_k9 de i (8 * v) ta kt0 kt → y_row i v fo kf0 kf → y_row i v sa ks0 ks → y_row i v so ko0 ko → y_row i v co kc0 kc →
    (∀ (H : aH) (ks' ko' kt' kc' kf' : List Int32), y_fr h H [] [189, 190, 191, 192, 194] → w_a H 190 = some (0, .inl ks') → w_a H 192 = some (0, .inl ko') → w_a H 194 = some (0, .inl kt') → y_k9 de i 80 ta kt0 kt' → w_a H 189 = some (0, .inl kf') → y_row i 10 fo kf0 kf' → y_row i 10 sa ks0 ks' → y_row i 10 so ko0 ko' → w_a H 191 = some (0, .inl kc') → y_row i 10 co kc0 kc' → K0 (some (.int (Int32.ofInt 1))) H C S) →
    aOK s_P X d a_m279 48 [some (.ref 155), some (.int iI), some (.int vI), o3] [] h C S K0 := by
  intro t
  induction t with
  | zero =>
    intro h vI v o3 kf ks kc ko kt hr a1 a2 a3 a4 a5 a6 a7 a8 a9 a10 hv hvt r1 r0 r2 r3 r4 hK
    refine w_go z_hl [48, 124] [] 80 hr ?_
    refine ⟨fun q => ?_, fun q => ?_⟩
    · refine ⟨by decide, fun H hH => ?_⟩
      have e : y_fr h H [] [189, 190, 191, 192, 194] := y_st (y_mo (y_rf hr) rfl rfl) hH (by repeat (first | exact w_nil | refine w_cons (Or.inl (y_m rfl)) ?_ | refine w_cons (Or.inr (by assumption)) ?_)) (by repeat (first | exact w_nil | refine w_cons (Or.inl (y_m rfl)) ?_ | refine w_cons (Or.inr (by assumption)) ?_))
      have e0 : y_fr h H [] [] := y_st (y_mo (y_rf hr) rfl rfl) hH (by repeat (first | exact w_nil | refine w_cons (Or.inl (y_m rfl)) ?_ | refine w_cons (Or.inr (by assumption)) ?_)) (by repeat (first | exact w_nil | refine w_cons (Or.inl (y_m rfl)) ?_ | refine w_cons (Or.inr (by assumption)) ?_))
      have ev : v = 10 := by omega
      subst ev
      exact hK H ks ko kt kc kf e ((y_ae e0 rfl).trans a2) ((y_ae e0 rfl).trans a4) ((y_ae e0 rfl).trans a5) r1 ((y_ae e0 rfl).trans a1) r0 r2 r3 ((y_ae e0 rfl).trans a3) r4
    · have : ¬ (((Int8.ofInt 10).toInt32).toInt ≤ vI.toInt) := y_cif q
      rw [y_c10] at this
      omega
  | succ t ih =>
    intro h vI v o3 kf ks kc ko kt hr a1 a2 a3 a4 a5 a6 a7 a8 a9 a10 hv hvt r1 r0 r2 r3 r4 hK
    have i1 := y_i10 hi hv (by omega) (by omega)
    have c1 := y_cl1 i1
    have cv := y_cl1 hv
    have hiv : (vI + Int32.ofInt 1).toInt = ((v + 1 : Nat) : Int) := by rw [y_inc (by omega), hv]; rfl
    have b1 : 0 ≤ ((Int8.ofInt 10).toInt32 * iI + vI).toInt ∧ ((Int8.ofInt 10).toInt32 * iI + vI).toInt < ((30 : Nat) : Int) := by omega
    have bv : 0 ≤ vI.toInt ∧ vI.toInt < ((10 : Nat) : Int) := by omega
    refine w_go z_hl [48, 124] [] 80 hr ?_
    refine ⟨fun q => ?_, fun q => ?_⟩
    · have : ((Int8.ofInt 10).toInt32).toInt ≤ vI.toInt := (y_ci .ge _ _).mp q
      rw [y_c10] at this
      omega
    · refine ⟨bv, fun l hl len bb => ⟨b1, bb _ (z_gd (0 : Int32) (by omega)), fun l2 hl2 len2 bb2 => ?_⟩⟩
      obtain rfl := y_ai a7 hl
      obtain rfl := y_ai a1 hl2
      refine ⟨bv, fun l hl len bb => ⟨b1, bb _ (z_gd (0 : Int32) (by omega)), fun l2 hl2 len2 bb2 => ?_⟩⟩
      obtain rfl := y_ai a8 hl
      obtain rfl := y_ai a2 hl2
      refine ⟨bv, fun l hl len bb => ⟨b1, bb _ (z_gd (0 : Int32) (by omega)), fun l2 hl2 len2 bb2 => ?_⟩⟩
      obtain rfl := y_ai a9 hl
      obtain rfl := y_ai a3 hl2
      refine ⟨bv, fun l hl len bb => ⟨b1, bb _ (z_gd (0 : Int32) (by omega)), fun l2 hl2 len2 bb2 => ?_⟩⟩
      obtain rfl := y_ai a10 hl
      obtain rfl := y_ai a4 hl2
      intro H hH
      have e : y_fr h H [] [189, 190, 191, 192, 194] := y_st (y_mo (y_rf hr) rfl rfl) hH (by repeat (first | exact w_nil | refine w_cons (Or.inl (y_m rfl)) ?_ | refine w_cons (Or.inr (by assumption)) ?_)) (by repeat (first | exact w_nil | refine w_cons (Or.inl (y_m rfl)) ?_ | refine w_cons (Or.inr (by assumption)) ?_))
      have e2 : y_fr h H [] [189, 190, 191, 192] := y_st (y_mo (y_rf hr) rfl rfl) hH (by repeat (first | exact w_nil | refine w_cons (Or.inl (y_m rfl)) ?_ | refine w_cons (Or.inr (by assumption)) ?_)) (by repeat (first | exact w_nil | refine w_cons (Or.inl (y_m rfl)) ?_ | refine w_cons (Or.inr (by assumption)) ?_))
      have A1 := hH.2.2.1 189 _ rfl
      have A2 := hH.2.2.1 190 _ rfl
      have A3 := hH.2.2.1 191 _ rfl
      have A4 := hH.2.2.1 192 _ rfl
      refine f_keep_in9 (kt0 := kt0) hi hv hi3 (by omega) c2 8 H _ 0 kt e.1 ((y_ae e2 rfl).trans a5) ((y_ae e2 rfl).trans a6) rfl rfl r1 (fun H2 kt' kI' f1 f2 f3 => ?_)
      refine w_go z_hl [48, 124] [] 80 f1.1 ?_
      intro H3 h3
      have g3 : y_fr H2 H3 [] [] := y_st (y_rf f1.1) h3 (by repeat (first | exact w_nil | refine w_cons (Or.inl (y_m rfl)) ?_ | refine w_cons (Or.inr (by assumption)) ?_)) (by repeat (first | exact w_nil | refine w_cons (Or.inl (y_m rfl)) ?_ | refine w_cons (Or.inr (by assumption)) ?_))
      have g4 : y_fr H H3 [] [194] := y_sq f1 g3 rfl rfl
      have g5 : y_fr h H3 [] [189, 190, 191, 192, 194] := y_sq e g4 rfl rfl
      refine ih H3 _ (v + 1) _ _ _ _ _ kt' g3.1 ((y_ae g4 rfl).trans A1) ((y_ae g4 rfl).trans A2) ((y_ae g4 rfl).trans A3) ((y_ae g4 rfl).trans A4) ((y_ae g3 rfl).trans f2) ((y_ae g5 rfl).trans a6) ((y_ae g5 rfl).trans a7) ((y_ae g5 rfl).trans a8) ((y_ae g5 rfl).trans a9) ((y_ae g5 rfl).trans a10) hiv (by omega) (by rw [Nat.mul_succ]; exact f3) ?_ ?_ ?_ ?_ (fun H' ks' ko' kt'' kc'' kf'' u1 u2 u3 u4 u5 ua ub u6 u7 u8 u9 => hK H' ks' ko' kt'' kc'' kf'' (y_sq g5 u1 rfl rfl) u2 u3 u4 u5 ua ub u6 u7 u8 u9)
      · rw [c1, cv]
        exact y_row_s r0 (by omega)
      · rw [c1, cv]
        exact y_row_s r2 (by omega)
      · rw [c1, cv]
        exact y_row_s r3 (by omega)
      · rw [c1, cv]
        exact y_row_s r4 (by omega)
theorem f_keep9 {h : aH} (hr : w_hr z_D h) (hJ : y_J h) (hC : j_cost h) {iI nd sm : Int32} {ta fo sa co so kn fl kf ks kc ko km kt : List Int32} (b0 : w_f h 19591 = some (.int nd)) (b1 : w_f h 19598 = some (.int sm)) (b2 : w_a h 158 = some (0, .inl ta)) (b3 : w_a h 159 = some (0, .inl fo)) (b4 : w_a h 160 = some (0, .inl sa)) (b5 : w_a h 161 = some (0, .inl co)) (b6 : w_a h 162 = some (0, .inl so)) (b7 : w_a h 187 = some (0, .inl kn)) (b8 : w_a h 188 = some (2, .inl fl)) (b9 : w_a h 189 = some (0, .inl kf)) (b10 : w_a h 190 = some (0, .inl ks)) (b11 : w_a h 191 = some (0, .inl kc)) (b12 : w_a h 192 = some (0, .inl ko)) (b13 : w_a h 193 = some (0, .inl km)) (b14 : w_a h 194 = some (0, .inl kt)) (yes : 0 ≤ iI.toInt → iI.toInt ≤ 2 → ∀ (H : aH) (kf' ks' kc' ko' kt' : List Int32), y_fr h H [19584] [187, 188, 189, 190, 191, 192, 193, 194] → y_J H → j_cost H → w_a H 187 = some (0, .inl (kn.set iI.toInt.toNat nd)) → w_a H 188 = some (2, .inl (fl.set iI.toInt.toNat (Int32.ofInt 1))) → w_a H 193 = some (0, .inl (km.set iI.toInt.toNat sm)) → w_a H 189 = some (0, .inl kf') → y_row iI.toInt.toNat 10 fo kf kf' → w_a H 190 = some (0, .inl ks') → y_row iI.toInt.toNat 10 sa ks ks' → w_a H 191 = some (0, .inl kc') → y_row iI.toInt.toNat 10 co kc kc' → w_a H 192 = some (0, .inl ko') → y_row iI.toInt.toNat 10 so ko ko' → w_a H 194 = some (0, .inl kt') → y_kx iI.toInt.toNat 80 ta kt kt' → K0 (some (.int (Int32.ofInt 1))) H C S) (no : ¬ (0 ≤ iI.toInt ∧ iI.toInt ≤ 2) → ∀ (H : aH), y_fr h H [19584] [] → K0 (some (.int (Int32.ofInt 0))) H C S) : aOK s_P X (d + 1) a_m279 0 [some (.ref 155), some (.int iI), none, none] [] h C S K0 := by
  have hJ' := hJ
  obtain ⟨q1, q2, q3, q4, q5, q6, q7⟩ := hJ'
  obtain ⟨nd0, le, de, ta0, n1, n2, n3, n4, c1, c2, c3, c4, c5⟩ := q1
  obtain rfl := y_fi b0 n1
  obtain rfl := y_ai b2 n4
  obtain ⟨nd', sm0, so0, sa0, s1, s2, s3, s4, s5⟩ := q5
  obtain rfl := y_fi n1 s1
  obtain rfl := y_fi b1 s2
  obtain rfl := y_ai b6 s3
  obtain rfl := y_ai b4 s4
  obtain ⟨nd', kn0, km0, ko0, ks0, k1, k2, k3, k4, k5, k6⟩ := q6
  obtain rfl := y_fi n1 k1
  obtain rfl := y_ai b7 k2
  obtain rfl := y_ai b13 k3
  obtain rfl := y_ai b12 k4
  obtain rfl := y_ai b10 k5
  obtain ⟨de', to, kt0, sn, sl, sh, o1, o2, o3, o4, o5, o6, o7, o8, o9⟩ := q3
  obtain rfl := y_ai n3 o1
  obtain rfl := y_ai b14 o3
  refine w_go z_hl [48] [176] 30 hr ?_
  refine ⟨rfl, y_zini (by decide) (by decide), fun H1 h1 => ?_⟩
  have e1 : y_fr h H1 [19584] [] := y_st (y_mo (y_rf hr) rfl rfl) h1 (by repeat (first | exact w_nil | refine w_cons (Or.inl (y_m rfl)) ?_ | refine w_cons (Or.inr (by assumption)) ?_)) (by repeat (first | exact w_nil | refine w_cons (Or.inl (y_m rfl)) ?_ | refine w_cons (Or.inr (by assumption)) ?_))
  refine q_in e1.1 (fun H2 h2 l1 l2 => ⟨fun n e => (by cases e), ?_⟩) (fun H2 h2 nl => ⟨fun n e => (by cases e), ?_⟩)
  · have l1 : 0 ≤ iI.toInt := by rw [y_i2l] at l1; exact l1
    have l2 : iI.toInt ≤ 2 := by rw [y_i2l] at l2; exact l2
    have lv : 0 ≤ iI.toInt ∧ iI.toInt ≤ 2 := ⟨l1, l2⟩
    obtain ⟨i, hi⟩ : ∃ i : Nat, iI.toInt = i := ⟨iI.toInt.toNat, by omega⟩
    have ci := y_cl1 hi
    have e2 := y_sq e1 h2 rfl rfl
    refine w_go z_hl [48] [176] 40 e2.1 ?_
    refine ⟨fun _ => ?_, fun q => absurd q (by decide)⟩
    refine ⟨⟨by omega, by omega⟩, by decide, fun l hl len bb => ?_⟩
    intro x hx _ _
    obtain rfl := y_fi ((y_fe e2 rfl).trans n1) hx
    refine ⟨⟨by omega, by omega⟩, ⟨by omega, by omega⟩, fun l2 hl2 len2 bb2 => ?_⟩
    obtain rfl := y_ai ((y_ae e2 rfl).trans k2) hl2
    intro y hy _ _
    obtain rfl := y_fi ((y_fe e2 rfl).trans s2) hy
    refine ⟨⟨by omega, by omega⟩, ⟨by omega, by omega⟩, fun l3 hl3 len3 bb3 => ?_⟩
    obtain rfl := y_ai ((y_ae e2 rfl).trans k3) hl3
    intro H3 h3
    have e3 : y_fr h H3 [19584] [187, 188, 193] := y_st (y_mo e2 rfl rfl) h3 (by repeat (first | exact w_nil | refine w_cons (Or.inl (y_m rfl)) ?_ | refine w_cons (Or.inr (by assumption)) ?_)) (by repeat (first | exact w_nil | refine w_cons (Or.inl (y_m rfl)) ?_ | refine w_cons (Or.inr (by assumption)) ?_))
    have A1 := h3.2.2.1 187 _ rfl
    have A2 := h3.2.2.1 193 _ rfl
    have A0 := h3.2.2.1 188 _ rfl
    obtain ⟨ndc, co', knc, kcc, x1, x2, x3, x4, x5, x6⟩ := id hC
    obtain rfl := y_fi n1 x1
    obtain rfl := y_ai b5 x2
    obtain rfl := y_ai b11 x4
    obtain rfl := y_ai b7 x3
    refine f_keep_out9 (de := de) (ks0 := ks) (ko0 := ko) (kc0 := kc) (kt0 := kt) (kf0 := kf) hi (by omega) c2 10 H3 _ 0 none kf ks kc ko kt e3.1 ((y_ae e3 rfl).trans b9) ((y_ae e3 rfl).trans b10) ((y_ae e3 rfl).trans b11) ((y_ae e3 rfl).trans b12) ((y_ae e3 rfl).trans b14) ((y_ae e3 rfl).trans b2) ((y_ae e3 rfl).trans b3) ((y_ae e3 rfl).trans b4) ((y_ae e3 rfl).trans b5) ((y_ae e3 rfl).trans b6) rfl rfl ⟨o8, fun j => by rw [if_neg (by omega)]⟩ (fun j => by rw [if_neg (by omega)]) (fun j => by rw [if_neg (by omega)]) (fun j => by rw [if_neg (by omega)]) (fun j => by rw [if_neg (by omega)]) (fun H4 ks' ko' kt' kc' kf' f1 f2 f3 f4 f5 fa fb f6 f7 f8 f9 => ?_)
    have e4 : y_fr h H4 [19584] [187, 188, 189, 190, 191, 192, 193, 194] := y_sq (y_mo e3 rfl rfl) f1 rfl rfl
    have HC4 : j_cost H4 := by
      refine ⟨nd, co, _, kc', (y_fe e4 rfl).trans n1, (y_ae e4 rfl).trans b5, (y_ae f1 rfl).trans A1, f8, x5, fun j v hj hv => ?_⟩
      rw [ci, y_Nnset (by omega)] at hv
      rw [f9]
      by_cases q : j = i
      · subst q
        rw [if_pos rfl] at hv
        rw [if_pos (by omega), show 10 * j + v - 10 * j = v by omega]
        exact x5 v (by omega)
      · rw [if_neg q] at hv
        have hb10 : y_Nn kn j ≤ 10 := by
          have := (k6 j hj).1
          unfold y_N at this
          unfold y_Nn
          omega
        rw [if_neg (by omega)]
        exact x6 j v hj hv
    have ei : iI.toInt.toNat = i := by omega
    have J4 : y_J H4 := by
      refine ⟨⟨nd, le, de, ta, (y_fe e4 rfl).trans n1, (y_ae e4 rfl).trans n2, (y_ae e4 rfl).trans n3, (y_ae e4 rfl).trans n4, c1, c2, c3, c4, c5⟩, j_dp_e (y_fe e4 rfl) (y_fe e4 rfl) (y_ae e4 rfl) q2, ⟨de, to, kt', sn, sl, sh, (y_ae e4 rfl).trans n3, (y_ae e4 rfl).trans o2, f4, (y_ae e4 rfl).trans o4, (y_ae e4 rfl).trans o5, (y_ae e4 rfl).trans o6, o7, f5.1, o9⟩, j_w_e (y_fe e4 rfl) (y_ae e4 rfl) q4, ⟨nd, sm, so, sa, (y_fe e4 rfl).trans n1, (y_fe e4 rfl).trans s2, (y_ae e4 rfl).trans s3, (y_ae e4 rfl).trans s4, s5⟩, ⟨nd, _, _, ko', ks', (y_fe e4 rfl).trans n1, (y_ae f1 rfl).trans A1, (y_ae f1 rfl).trans A2, f3, f2, fun j hj => ?_⟩, j_land_e (y_fe e4 rfl) (y_ae e4 rfl) q7⟩
      rw [ci]
      have en : y_Nn (kn.set i nd) j = if j = i then nd.toInt.toNat else y_Nn kn j := y_Nnset (by omega)
      have en2 : y_N (kn.set i nd) j = if j = i then nd.toInt else y_N kn j := y_Nset (by omega)
      have em : y_Nn (km.set i sm) j = if j = i then sm.toInt.toNat else y_Nn km j := y_Nnset (by omega)
      rw [en, en2, em]
      by_cases q : j = i
      · subst q
        rw [if_pos rfl, if_pos rfl, if_pos rfl]
        refine ⟨Int.le_refl _, y_ord_c s5 (fun k hk' => ?_) (fun k hk' => ?_)⟩
        · rw [f7, if_pos (by omega), show 10 * j + k - 10 * j = k by omega]
        · rw [f6, if_pos (by omega), show 10 * j + k - 10 * j = k by omega]
      · rw [if_neg q, if_neg q, if_neg q]
        have kj := k6 j hj
        have hb10 : y_Nn kn j ≤ 10 := by
          unfold y_Nn
          have := kj.1
          unfold y_N at this
          omega
        refine ⟨kj.1, y_ord_c kj.2 (fun k hk' => ?_) (fun k hk' => ?_)⟩
        · rw [f7, if_neg (by omega)]
        · rw [f6, if_neg (by omega)]
    refine yes l1 l2 H4 kf' ks' kc' ko' kt' e4 J4 HC4 ?_ ?_ ?_ fa ?_ f2 ?_ f8 ?_ f3 ?_ f4 ?_
    · have w := (y_ae f1 rfl).trans A1
      rw [ci] at w
      rw [ei]
      exact w
    · obtain rfl := y_ai ((y_ae e2 rfl).trans b8) hl
      have w := (y_ae f1 rfl).trans A0
      rw [ci] at w
      rw [ei]
      exact w
    · have w := (y_ae f1 rfl).trans A2
      rw [ci] at w
      rw [ei]
      exact w
    · rw [ei]; exact fb
    · rw [ei]; exact f6
    · rw [ei]; exact f9
    · rw [ei]; exact f7
    · rw [ei]; exact f5.2
  · refine w_go z_hl [48] [176] 30 h2.1 ?_
    refine ⟨fun q => absurd q (by decide), fun _ => ⟨by decide, fun H3 h3 => ?_⟩⟩
    have g := y_st (y_sq e1 h2 rfl rfl) h3 (by repeat (first | exact w_nil | refine w_cons (Or.inl (y_m rfl)) ?_ | refine w_cons (Or.inr (by assumption)) ?_)) (by repeat (first | exact w_nil | refine w_cons (Or.inl (y_m rfl)) ?_ | refine w_cons (Or.inr (by assumption)) ?_))
    exact no (fun q => nl (by rw [y_i2l]; exact q.1) (by rw [y_i2l]; exact q.2)) H3 g
theorem f_again_in9 {iI vI : Int32} {i v : Nat} {kt de ta0 : List Int32} (hi : iI.toInt = i) (hv : vI.toInt = v) (hi3 : i < 3) (hv10 : v < 10) (c2 : y_kt de kt) : ∀ (t : Nat) (h : aH) (kI : Int32) (k : Nat) (ta : List Int32), w_hr z_D h → w_a h 194 = some (0, .inl kt) → w_a h 158 = some (0, .inl ta) → kI.toInt = k → k + t = 8 → y_t9 de i (8 * v + k) kt ta0 ta →
    (∀ (H : aH) (ta' : List Int32) (kI' : Int32), y_fr h H [] [158] → w_a H 158 = some (0, .inl ta') → y_t9 de i (8 * v + 8) kt ta0 ta' → aOK s_P X d a_m280 40 [some (.ref 155), some (.int iI), some (.int (vI + Int32.ofInt 1)), some (.int (Int32.ofInt 1)), some (.int kI')] [] H C S K0) →
    aOK s_P X d a_m280 164 [some (.ref 155), some (.int iI), some (.int vI), some (.int (Int32.ofInt 1)), some (.int kI)] [] h C S K0 := by
  intro t
  induction t with
  | zero =>
    intro h kI k ta hr g1 g2 hk hkt hq hK
    refine w_go z_hl [164, 40] [] 40 hr ?_
    refine ⟨fun q => ?_, fun q => ?_⟩
    · intro H hH
      have e : y_fr h H [] [158] := y_st (y_mo (y_rf hr) rfl rfl) hH (by repeat (first | exact w_nil | refine w_cons (Or.inl (y_m rfl)) ?_ | refine w_cons (Or.inr (by assumption)) ?_)) (by repeat (first | exact w_nil | refine w_cons (Or.inl (y_m rfl)) ?_ | refine w_cons (Or.inr (by assumption)) ?_))
      have e0 : y_fr h H [] [] := y_st (y_mo (y_rf hr) rfl rfl) hH (by repeat (first | exact w_nil | refine w_cons (Or.inl (y_m rfl)) ?_ | refine w_cons (Or.inr (by assumption)) ?_)) (by repeat (first | exact w_nil | refine w_cons (Or.inl (y_m rfl)) ?_ | refine w_cons (Or.inr (by assumption)) ?_))
      have ek : k = 8 := by omega
      subst ek
      exact hK H ta kI e ((y_ae e0 rfl).trans g2) hq
    · have : ¬ (((Int8.ofInt 8).toInt32).toInt ≤ kI.toInt) := y_cif q
      rw [y_c8] at this
      omega
  | succ t ih =>
    intro h kI k ta hr g1 g2 hk hkt hq hK
    refine w_go z_hl [164, 40] [] 40 hr ?_
    refine ⟨fun q => ?_, fun q => ⟨fun q2 => absurd q2 (by decide), fun _ => ?_⟩⟩
    · have : ((Int8.ofInt 8).toInt32).toInt ≤ kI.toInt := (y_ci .ge _ _).mp q
      rw [y_c8] at this
      omega
    · have i1 := y_i8 (y_i10 hi hv (by omega) (by omega)) hk (by omega) (by omega)
      have i2 := y_i8 hv hk (by omega) (by omega)
      have c1 := y_cl1 i1
      have c3 := y_cl1 i2
      have hik : (kI + Int32.ofInt 1).toInt = ((k + 1 : Nat) : Int) := by rw [y_inc (by omega), hk]; rfl
      have b1 : 0 ≤ ((Int8.ofInt 8).toInt32 * ((Int8.ofInt 10).toInt32 * iI + vI) + kI).toInt ∧ ((Int8.ofInt 8).toInt32 * ((Int8.ofInt 10).toInt32 * iI + vI) + kI).toInt < ((240 : Nat) : Int) := by omega
      have b2 : 0 ≤ ((Int8.ofInt 8).toInt32 * vI + kI).toInt ∧ ((Int8.ofInt 8).toInt32 * vI + kI).toInt < ((80 : Nat) : Int) := by omega
      refine ⟨b1, fun l hl hlen hbb => ?_⟩
      obtain rfl := y_ai g1 hl
      have hm := hbb _ (z_gd (0 : Int32) (show ((Int8.ofInt 8).toInt32 * ((Int8.ofInt 10).toInt32 * iI + vI) + kI).toNatClampNeg < kt.length by omega))
      refine ⟨b2, hm, fun l2 hl2 hlen2 hbb2 => ?_⟩
      obtain rfl := y_ai g2 hl2
      intro H hH
      have e : y_fr h H [] [158] := y_st (y_mo (y_rf hr) rfl rfl) hH (by repeat (first | exact w_nil | refine w_cons (Or.inl (y_m rfl)) ?_ | refine w_cons (Or.inr (by assumption)) ?_)) (by repeat (first | exact w_nil | refine w_cons (Or.inl (y_m rfl)) ?_ | refine w_cons (Or.inr (by assumption)) ?_))
      refine ih H _ (k + 1) _ e.1 ((y_ae e rfl).trans g1) (hH.2.2.1 158 _ rfl) hik (by omega) ⟨fun j hj => ?_, fun j => ?_⟩ (fun H' kt' kI' f1 f2 f3 => hK H' kt' kI' (y_sq e f1 rfl rfl) f2 f3)
      · rw [c3, y_Nset (by omega)]
        split
        · rename_i ej
          subst ej
          rw [c1, show (8 * v + k) / 8 = v by omega]
          have := c2 (8 * (10 * i + v) + k) (by omega)
          rw [show (8 * (10 * i + v) + k) % 80 / 8 = v by omega] at this
          exact this
        · exact hq.1 j hj
      · rw [c3, y_Nset (by omega)]
        by_cases ej : j = 8 * v + k
        · subst ej
          rw [if_pos rfl, c1, if_pos (by omega), show 80 * i + (8 * v + k) = 8 * (10 * i + v) + k by omega]
          rfl
        · rw [if_neg ej, hq.2 j]
          by_cases z : j < 8 * v + k
          · rw [if_pos z, if_pos (by omega)]
          · rw [if_neg z, if_neg (by omega)]
theorem f_again_out9 {iI nd : Int32} {i : Nat} {co0 ta0 : List Int32} {de kn kf ks kc ko kt : List Int32} (kc1 : ∀ v, v < y_Nn kn i → 1 ≤ y_N kc (10 * i + v)) (hi : iI.toInt = i) (hi3 : i < 3) (c2 : y_kt de kt) (n0 : 0 ≤ nd.toInt) (n10 : nd.toInt ≤ 10) (pn : y_N kn i = y_Nn kn i) : ∀ (t : Nat) (h : aH) (vI : Int32) (v : Nat) (o3 o4 : Option Value) (fo sa co so ta : List Int32), w_hr z_D h → w_f h 19591 = some (.int nd) → w_a h 187 = some (0, .inl kn) → w_a h 189 = some (0, .inl kf) → w_a h 190 = some (0, .inl ks) → w_a h 191 = some (0, .inl kc) → w_a h 192 = some (0, .inl ko) → w_a h 194 = some (0, .inl kt) → w_a h 158 = some (0, .inl ta) → w_a h 159 = some (0, .inl fo) → w_a h 160 = some (0, .inl sa) → w_a h 161 = some (0, .inl co) → w_a h 162 = some (0, .inl so) → vI.toInt = v → (v : Int) + t = nd.toInt → y_t9 de i (8 * (if v < y_Nn kn i then v else y_Nn kn i)) kt ta0 ta → y_bf9 i (y_Nn kn i) v kf fo → y_bk i (y_Nn kn i) v ks ko sa so → y_c1 nd co → y_cc i (y_Nn kn i) v kc co0 co →
    (∀ (H : aH) (sa' so' ta' co' fo' : List Int32), w_a H 161 = some (0, .inl co') → y_c1 nd co' → y_cc i (y_Nn kn i) nd.toInt.toNat kc co0 co' → y_fr h H [] [158, 159, 160, 161, 162] → w_a H 160 = some (0, .inl sa') → w_a H 162 = some (0, .inl so') → w_a H 158 = some (0, .inl ta') → y_t9 de i (8 * (if nd.toInt.toNat < y_Nn kn i then nd.toInt.toNat else y_Nn kn i)) kt ta0 ta' → w_a H 159 = some (0, .inl fo') → y_bf9 i (y_Nn kn i) nd.toInt.toNat kf fo' → y_bk i (y_Nn kn i) nd.toInt.toNat ks ko sa' so' → K0 (some (.int (Int32.ofInt 1))) H C S) →
    aOK s_P X d a_m280 40 [some (.ref 155), some (.int iI), some (.int vI), o3, o4] [] h C S K0 := by
  intro t
  induction t with
  | zero =>
    intro h vI v o3 o4 fo sa co so ta hr a0 a1 a2 a3 a4 a5 a6 a7 a8 a9 a10 a11 hv hvt r1 r0 r2 r3 r4 hK
    refine w_go z_hl [40] [] 80 hr ?_
    intro x hx b1 b2
    obtain rfl := y_fi a0 hx
    refine ⟨fun q => ?_, fun q => ?_⟩
    · refine ⟨by decide, fun H hH => ?_⟩
      have e : y_fr h H [] [158, 159, 160, 161, 162] := y_st (y_mo (y_rf hr) rfl rfl) hH (by repeat (first | exact w_nil | refine w_cons (Or.inl (y_m rfl)) ?_ | refine w_cons (Or.inr (by assumption)) ?_)) (by repeat (first | exact w_nil | refine w_cons (Or.inl (y_m rfl)) ?_ | refine w_cons (Or.inr (by assumption)) ?_))
      have e0 : y_fr h H [] [] := y_st (y_mo (y_rf hr) rfl rfl) hH (by repeat (first | exact w_nil | refine w_cons (Or.inl (y_m rfl)) ?_ | refine w_cons (Or.inr (by assumption)) ?_)) (by repeat (first | exact w_nil | refine w_cons (Or.inl (y_m rfl)) ?_ | refine w_cons (Or.inr (by assumption)) ?_))
      refine hK H sa so ta co fo ((y_ae e0 rfl).trans a10) r3 (by rw [show nd.toInt.toNat = v by omega]; exact r4) e ((y_ae e0 rfl).trans a9) ((y_ae e0 rfl).trans a11) ((y_ae e0 rfl).trans a7) (by rw [show nd.toInt.toNat = v by omega]; exact r1) ((y_ae e0 rfl).trans a8) (by rw [show nd.toInt.toNat = v by omega]; exact r0) ?_
      rw [show nd.toInt.toNat = v by omega]
      exact r2
    · have : ¬ (nd.toInt ≤ vI.toInt) := y_cif q
      omega
  | succ t ih =>
    intro h vI v o3 o4 fo sa co so ta hr a0 a1 a2 a3 a4 a5 a6 a7 a8 a9 a10 a11 hv hvt r1 r0 r2 r3 r4 hK
    have i1 := y_i10 hi hv (by omega) (by omega)
    have c1 := y_cl1 i1
    have cv := y_cl1 hv
    have ci := y_cl1 hi
    have hiv : (vI + Int32.ofInt 1).toInt = ((v + 1 : Nat) : Int) := by rw [y_inc (by omega), hv]; rfl
    have b1 : 0 ≤ ((Int8.ofInt 10).toInt32 * iI + vI).toInt ∧ ((Int8.ofInt 10).toInt32 * iI + vI).toInt < ((30 : Nat) : Int) := by omega
    have bv : 0 ≤ vI.toInt ∧ vI.toInt < ((10 : Nat) : Int) := by omega
    have c30 : ((Int8.ofInt 10).toInt32 * iI + vI).toNatClampNeg < 30 := by omega
    refine w_go z_hl [40, 64] [] 80 hr ?_
    intro x hx x1 x2
    obtain rfl := y_fi a0 hx
    refine ⟨fun q => ?_, fun q => ?_⟩
    · have : nd.toInt ≤ vI.toInt := (y_ci .ge _ _).mp q
      omega
    · refine ⟨⟨by omega, by omega⟩, fun l hl len bb => ?_⟩
      obtain rfl := y_ai a1 hl
      have hkn : (kn.getD iI.toNatClampNeg 0).toInt = y_Nn kn i := by
        rw [ci]
        exact pn
      refine ⟨fun q2 => ?_, fun q2 => ?_⟩
      · -- not kept
        have q3 : (kn.getD iI.toNatClampNeg 0).toInt ≤ vI.toInt := (y_ci .ge _ _).mp q2
        intro H hH
        have e : y_fr h H [] [] := y_st (y_mo (y_rf hr) rfl rfl) hH (by repeat (first | exact w_nil | refine w_cons (Or.inl (y_m rfl)) ?_ | refine w_cons (Or.inr (by assumption)) ?_)) (by repeat (first | exact w_nil | refine w_cons (Or.inl (y_m rfl)) ?_ | refine w_cons (Or.inr (by assumption)) ?_))
        have A6 := (y_ae e (k := 159) rfl).trans a8
        have A7 := (y_ae e (k := 160) rfl).trans a9
        have A8 := (y_ae e (k := 162) rfl).trans a11
        have A9 := (y_ae e (k := 192) rfl).trans a5
        have A10 := (y_ae e (k := 161) rfl).trans a10
        refine w_go z_hl [40] [] 80 e.1 ?_
        refine ⟨fun _ => ?_, fun q => absurd q (by decide)⟩
        refine ⟨bv, by decide, fun l1 hl1 len1 bb1 => ?_⟩
        obtain rfl := y_ai A6 hl1
        refine ⟨fun _ => ?_, fun q => absurd q (by decide)⟩
        refine ⟨bv, by decide, fun l2 hl2 len2 bb2 => ?_⟩
        obtain rfl := y_ai A7 hl2
        refine ⟨b1, fun l3 hl3 len3 bb3 => ⟨bv, bb3 _ (z_gd (0 : Int32) (Nat.lt_of_lt_of_eq c30 len3.symm)), fun l4 hl4 len4 bb4 => ?_⟩⟩
        obtain rfl := y_ai A9 hl3
        obtain rfl := y_ai A8 hl4
        refine ⟨fun _ => ?_, fun q => absurd q (by decide)⟩
        refine ⟨bv, fun l5 hl5 len5 bb5 => ⟨bv, bb5 _ (z_gd (0 : Int32) (by omega)), ?_⟩⟩
        obtain rfl := y_ai A10 hl5
        refine ⟨fun q => absurd q (by decide), fun _ => ⟨fun _ => ?_, fun q => absurd q (by decide)⟩⟩
        intro H2 h2
        have f2 : y_fr H H2 [] [159, 160, 161, 162] := y_st (y_mo (y_rf e.1) rfl rfl) h2 (by repeat (first | exact w_nil | refine w_cons (Or.inl (y_m rfl)) ?_ | refine w_cons (Or.inr (by assumption)) ?_)) (by repeat (first | exact w_nil | refine w_cons (Or.inl (y_m rfl)) ?_ | refine w_cons (Or.inr (by assumption)) ?_))
        have e2 : y_fr h H2 [] [159, 160, 161, 162] := y_sq (y_mo e rfl rfl) f2 rfl rfl
        refine ih H2 _ (v + 1) _ _ _ _ _ _ ta f2.1 ((y_fe e2 rfl).trans a0) ((y_ae e2 rfl).trans a1) ((y_ae e2 rfl).trans a2) ((y_ae e2 rfl).trans a3) ((y_ae e2 rfl).trans a4) ((y_ae e2 rfl).trans a5) ((y_ae e2 rfl).trans a6) ((y_ae e2 rfl).trans a7) (h2.2.2.1 159 _ rfl) (h2.2.2.1 160 _ rfl) (h2.2.2.1 161 _ rfl) (h2.2.2.1 162 _ rfl) hiv (by omega) (by rw [if_neg (by omega)]; rw [if_neg (by omega)] at r1; exact r1) ?_ ?_ ?_ ?_ (fun H' sa' so' ta' co' fo' v1 v2 v3 u1 u2 u3 u4 u5 ua ub u6 => hK H' sa' so' ta' co' fo' v1 v2 v3 (y_sq (y_mo e2 rfl rfl) u1 rfl rfl) u2 u3 u4 u5 ua ub u6)
        · rw [cv]
          refine y_bf9_s r0 (by omega) ?_
          rw [if_neg (by omega)]
          decide
        · rw [cv]
          refine y_bk_s r2 (by omega) (by omega) ?_ ?_
          · rw [if_neg (by omega)]
            decide
          · rw [c1]
            rfl
        · rw [cv]
          intro u hu
          rw [y_Nset (by omega)]
          split
          · exact r3 v (by omega)
          · exact r3 u hu
        · rw [cv]
          intro u
          rw [y_Nset (by omega)]
          by_cases q : u = v
          · subst q
            rw [if_pos rfl, if_neg (by omega)]
            have := r4 u
            rw [if_neg (by omega)] at this
            exact this
          · rw [if_neg q, r4 u]
            by_cases z : u < v ∧ u < y_Nn kn i
            · rw [if_pos z, if_pos ⟨by omega, z.2⟩]
            · rw [if_neg z, if_neg (fun w => z ⟨by omega, w.2⟩)]
      · -- kept
        have q3 : ¬ ((kn.getD iI.toNatClampNeg 0).toInt ≤ vI.toInt) := y_cif q2
        intro H hH
        have e : y_fr h H [] [] := y_st (y_mo (y_rf hr) rfl rfl) hH (by repeat (first | exact w_nil | refine w_cons (Or.inl (y_m rfl)) ?_ | refine w_cons (Or.inr (by assumption)) ?_)) (by repeat (first | exact w_nil | refine w_cons (Or.inl (y_m rfl)) ?_ | refine w_cons (Or.inr (by assumption)) ?_))
        have A4 := (y_ae e (k := 189) rfl).trans a2
        have A5 := (y_ae e (k := 190) rfl).trans a3
        have A6 := (y_ae e (k := 159) rfl).trans a8
        have A7 := (y_ae e (k := 160) rfl).trans a9
        have A8 := (y_ae e (k := 162) rfl).trans a11
        have A9 := (y_ae e (k := 192) rfl).trans a5
        have A10 := (y_ae e (k := 161) rfl).trans a10
        have A11 := (y_ae e (k := 191) rfl).trans a4
        refine w_go z_hl [40, 164] [] 80 e.1 ?_
        refine ⟨fun q => absurd q (by decide), fun _ => ?_⟩
        refine ⟨b1, fun l0 hl0 len0 bb0 => ⟨bv, bb0 _ (z_gd (0 : Int32) (Nat.lt_of_lt_of_eq c30 len0.symm)), fun l1 hl1 len1 bb1 => ?_⟩⟩
        obtain rfl := y_ai A4 hl0
        obtain rfl := y_ai A6 hl1
        refine ⟨fun q => absurd q (by decide), fun _ => ?_⟩
        refine ⟨b1, fun l0 hl0 len0 bb0 => ⟨bv, bb0 _ (z_gd (0 : Int32) (Nat.lt_of_lt_of_eq c30 len0.symm)), fun l2 hl2 len2 bb2 => ?_⟩⟩
        obtain rfl := y_ai A5 hl0
        obtain rfl := y_ai A7 hl2
        refine ⟨b1, fun l3 hl3 len3 bb3 => ⟨bv, bb3 _ (z_gd (0 : Int32) (Nat.lt_of_lt_of_eq c30 len3.symm)), fun l4 hl4 len4 bb4 => ?_⟩⟩
        obtain rfl := y_ai A9 hl3
        obtain rfl := y_ai A8 hl4
        refine ⟨fun q => absurd q (by decide), fun _ => ?_⟩
        refine ⟨b1, fun l5 hl5 len5 bb5 => ⟨bv, bb5 _ (z_gd (0 : Int32) (Nat.lt_of_lt_of_eq c30 len5.symm)), fun l6 hl6 len6 bb6 => ?_⟩⟩
        obtain rfl := y_ai A11 hl5
        obtain rfl := y_ai A10 hl6
        intro H2 h2
        have f2 : y_fr H H2 [] [159, 160, 161, 162] := y_st (y_mo (y_rf e.1) rfl rfl) h2 (by repeat (first | exact w_nil | refine w_cons (Or.inl (y_m rfl)) ?_ | refine w_cons (Or.inr (by assumption)) ?_)) (by repeat (first | exact w_nil | refine w_cons (Or.inl (y_m rfl)) ?_ | refine w_cons (Or.inr (by assumption)) ?_))
        have e2 : y_fr h H2 [] [159, 160, 161, 162] := y_sq (y_mo e rfl rfl) f2 rfl rfl
        refine f_again_in9 (ta0 := ta0) hi hv hi3 (by omega) c2 8 H2 _ 0 ta f2.1 ((y_ae e2 rfl).trans a6) ((y_ae e2 rfl).trans a7) rfl rfl (by rw [if_pos (by omega)] at r1; exact r1) (fun H3 ta' kI' u1 u2 u3 => ?_)
        have e3 : y_fr h H3 [] [158, 159, 160, 161, 162] := y_sq (y_mo e2 rfl rfl) u1 rfl rfl
        refine ih H3 _ (v + 1) _ _ _ _ _ _ ta' u1.1 ((y_fe e3 rfl).trans a0) ((y_ae e3 rfl).trans a1) ((y_ae e3 rfl).trans a2) ((y_ae e3 rfl).trans a3) ((y_ae e3 rfl).trans a4) ((y_ae e3 rfl).trans a5) ((y_ae e3 rfl).trans a6) u2 ((y_ae u1 rfl).trans (h2.2.2.1 159 _ rfl)) ((y_ae u1 rfl).trans (h2.2.2.1 160 _ rfl)) ((y_ae u1 rfl).trans (h2.2.2.1 161 _ rfl)) ((y_ae u1 rfl).trans (h2.2.2.1 162 _ rfl)) hiv (by omega) ?_ ?_ ?_ ?_ ?_ (fun H' sa' so' ta' co' fo' v1 v2 v3 u1 u2 u3 u4 u5 ua ub u6 => hK H' sa' so' ta' co' fo' v1 v2 v3 (y_sq e3 u1 rfl rfl) u2 u3 u4 u5 ua ub u6)
        · have eq8 : 8 * (if v + 1 < y_Nn kn i then v + 1 else y_Nn kn i) = 8 * v + 8 := by
            by_cases z : v + 1 < y_Nn kn i
            · rw [if_pos z]
              omega
            · rw [if_neg z]
              omega
          rw [eq8]
          exact u3
        · rw [cv]
          refine y_bf9_s r0 (by omega) ?_
          rw [if_pos (by omega), c1]
          rfl
        · rw [cv]
          refine y_bk_s r2 (by omega) (by omega) ?_ ?_
          · rw [if_pos (by omega), c1]
            rfl
          · rw [c1]
            rfl
        · rw [cv, c1]
          intro u hu
          rw [y_Nset (by omega)]
          split
          · exact kc1 v (by omega)
          · exact r3 u hu
        · rw [cv, c1]
          intro u
          rw [y_Nset (by omega)]
          by_cases q : u = v
          · subst q
            rw [if_pos rfl, if_pos ⟨by omega, by omega⟩]
            rfl
          · rw [if_neg q, r4 u]
            by_cases z : u < v ∧ u < y_Nn kn i
            · rw [if_pos z, if_pos ⟨by omega, z.2⟩]
            · rw [if_neg z, if_neg (fun w => z ⟨by omega, w.2⟩)]
theorem f_again9 {h : aH} (hr : w_hr z_D h) (hJ : y_J h) (hC : j_cost h) {iI nd sm j0 j1 j2 : Int32} {ta fo sa co so kn kf ks kc ko km kt : List Int32} (b0 : w_f h 19591 = some (.int nd)) (b1 : w_f h 19598 = some (.int sm)) (b2 : w_a h 158 = some (0, .inl ta)) (b3 : w_a h 159 = some (0, .inl fo)) (b4 : w_a h 160 = some (0, .inl sa)) (b5 : w_a h 161 = some (0, .inl co)) (b6 : w_a h 162 = some (0, .inl so)) (b7 : w_a h 187 = some (0, .inl kn)) (g0 : w_a h 188 = some (2, .inl [j0, j1, j2])) (b9 : w_a h 189 = some (0, .inl kf)) (b10 : w_a h 190 = some (0, .inl ks)) (b11 : w_a h 191 = some (0, .inl kc)) (b12 : w_a h 192 = some (0, .inl ko)) (b13 : w_a h 193 = some (0, .inl km)) (b14 : w_a h 194 = some (0, .inl kt)) (yes : n_agV iI j0 j1 j2 → ∀ (H : aH) (fo' sa' co' so' ta' : List Int32), y_fr h H [19584, 19598] [158, 159, 160, 161, 162] → y_J H → j_cost H → w_f H 19598 = some (.int (km.getD iI.toInt.toNat 0)) → w_a H 159 = some (0, .inl fo') → y_bf9 iI.toInt.toNat (y_Nn kn iI.toInt.toNat) nd.toInt.toNat kf fo' → w_a H 160 = some (0, .inl sa') → w_a H 162 = some (0, .inl so') → y_bk iI.toInt.toNat (y_Nn kn iI.toInt.toNat) nd.toInt.toNat ks ko sa' so' → w_a H 161 = some (0, .inl co') → (∀ u, y_N co' u = if u < y_Nn kn iI.toInt.toNat then y_N kc (10 * iI.toInt.toNat + u) else y_N co u) → w_a H 158 = some (0, .inl ta') → (∀ j, y_N ta' j = if j < 8 * y_Nn kn iI.toInt.toNat then y_N kt (80 * iI.toInt.toNat + j) else y_N ta j) → K0 (some (.int (Int32.ofInt 1))) H C S) (no : ¬ n_agV iI j0 j1 j2 → ∀ (H : aH), y_fr h H [19584] [] → K0 (some (.int (Int32.ofInt 0))) H C S) : aOK s_P X (d + 1) a_m280 0 [some (.ref 155), some (.int iI), none, none, none] [] h C S K0 := by
  have hJ' := hJ
  obtain ⟨q1, q2, q3, q4, q5, q6, q7⟩ := hJ'
  obtain ⟨nd0, le, de, ta0, n1, n2, n3, n4, c1, c2, c3, c4, c5⟩ := q1
  obtain rfl := y_fi b0 n1
  obtain rfl := y_ai b2 n4
  obtain ⟨nd', sm0, so0, sa0, s1, s2, s3, s4, s5⟩ := q5
  obtain rfl := y_fi n1 s1
  obtain rfl := y_fi b1 s2
  obtain rfl := y_ai b6 s3
  obtain rfl := y_ai b4 s4
  obtain ⟨nd', kn0, km0, ko0, ks0, k1, k2, k3, k4, k5, k6⟩ := id q6
  obtain rfl := y_fi n1 k1
  obtain rfl := y_ai b7 k2
  obtain rfl := y_ai b13 k3
  obtain rfl := y_ai b12 k4
  obtain rfl := y_ai b10 k5
  obtain ⟨de', to, kt0, sn, sl, sh, o1, o2, o3, o4, o5, o6, o7, o8, o9⟩ := id q3
  obtain rfl := y_ai n3 o1
  obtain rfl := y_ai b14 o3
  obtain ⟨ndb1, ndb2⟩ := y_ndb hr n1
  refine w_go z_hl [40] [176] 30 hr ?_
  refine ⟨rfl, y_zini (by decide) (by decide), fun H1 h1 => ?_⟩
  have e1 : y_fr h H1 [19584] [] := y_st (y_mo (y_rf hr) rfl rfl) h1 (by repeat (first | exact w_nil | refine w_cons (Or.inl (y_m rfl)) ?_ | refine w_cons (Or.inr (by assumption)) ?_)) (by repeat (first | exact w_nil | refine w_cons (Or.inl (y_m rfl)) ?_ | refine w_cons (Or.inr (by assumption)) ?_))
  have out : ∀ {G : aH}, ¬ n_agV iI j0 j1 j2 → y_fr h G [19584] [] → K0 (some (.int (Int32.ofInt 0))) G C S := fun nv g => no nv _ g
  refine q_in e1.1 (fun H2 h2 l1 l2 => ⟨fun n e => (by cases e), ?_⟩) (fun H2 h2 nl => ⟨fun n e => (by cases e), ?_⟩)
  · have l1 : 0 ≤ iI.toInt := by rw [y_i2l] at l1; exact l1
    have l2 : iI.toInt ≤ 2 := by rw [y_i2l] at l2; exact l2
    obtain ⟨i, hi⟩ : ∃ i : Nat, iI.toInt = i := ⟨iI.toInt.toNat, by omega⟩
    have ci := y_cl1 hi
    have e2 := y_sq e1 h2 rfl rfl
    refine w_go z_hl [40] [176] 40 e2.1 ?_
    refine ⟨fun q => absurd q (by decide), fun _ => ?_⟩
    refine ⟨⟨by omega, by omega⟩, fun l hl len bb => ?_⟩
    obtain rfl := y_ai ((y_ae e2 rfl).trans g0) hl
    have hix : iI.toNatClampNeg = iI.toInt.toNat := rfl
    refine ⟨fun qz => ?_, fun qz => ⟨by decide, fun H3 h3 => out (fun v => (y_cif qz) v.2.2) (y_st e2 h3 (by repeat (first | exact w_nil | refine w_cons (Or.inl (y_m rfl)) ?_ | refine w_cons (Or.inr (by assumption)) ?_)) (by repeat (first | exact w_nil | refine w_cons (Or.inl (y_m rfl)) ?_ | refine w_cons (Or.inr (by assumption)) ?_)))⟩⟩
    have hv : n_agV iI j0 j1 j2 := ⟨l1, l2, (y_ci .ne _ _).mp qz⟩
    refine ⟨⟨by omega, by omega⟩, fun l2 hl2 len2 bb2 => ?_⟩
    obtain rfl := y_ai ((y_ae e2 rfl).trans k3) hl2
    have hm := bb2 _ (z_gd (0 : Int32) (show iI.toNatClampNeg < km.length by omega))
    refine ⟨rfl, y_zini hm.1 hm.2, ?_⟩
    intro H3 h3
    have e3 : y_fr h H3 [19584, 19598] [] := y_st (y_mo e2 rfl rfl) h3 (by repeat (first | exact w_nil | refine w_cons (Or.inl (y_m rfl)) ?_ | refine w_cons (Or.inr (by assumption)) ?_)) (by repeat (first | exact w_nil | refine w_cons (Or.inl (y_m rfl)) ?_ | refine w_cons (Or.inr (by assumption)) ?_))
    have F := h3.2.1 19598 _ rfl
    obtain ⟨kn', z9, z10, z11⟩ := w_arrI e3.1 (o := 187) (t := 0) (n := 3) (lo := 0) (hi := 10) (by decide) rfl
    obtain rfl := y_ai ((y_ae e3 rfl).trans k2) (w_a_at z9)
    have pn : y_N kn i = y_Nn kn i := by
      have := z11 _ (z_gd (0 : Int32) (show i < kn.length by omega))
      unfold y_N y_Nn
      omega
    obtain ⟨ndc, co', knc, kcc, x1, x2, x3, x4, x5, x6⟩ := id hC
    obtain rfl := y_fi n1 x1
    obtain rfl := y_ai b5 x2
    obtain rfl := y_ai b11 x4
    obtain rfl := y_ai b7 x3
    have kj := k6 i (by omega)
    have kle : y_Nn kn i ≤ nd.toInt.toNat := by
      have := kj.1
      omega
    have z0 : (if 0 < y_Nn kn i then 0 else y_Nn kn i) = 0 := by
      by_cases z : 0 < y_Nn kn i
      · rw [if_pos z]
      · rw [if_neg z]
        omega
    have ze : (if nd.toInt.toNat < y_Nn kn i then nd.toInt.toNat else y_Nn kn i) = y_Nn kn i := if_neg (by omega)
    refine f_again_out9 (co0 := co) (ta0 := ta) (de := de) (ks := ks) (ko := ko) (fun v hv => x6 i v (by omega) hv) hi (by omega) o8 ndb1 ndb2 pn nd.toInt.toNat H3 _ 0 none none fo sa co so ta e3.1 ((y_fe e3 rfl).trans n1) ((y_ae e3 rfl).trans b7) ((y_ae e3 rfl).trans b9) ((y_ae e3 rfl).trans b10) ((y_ae e3 rfl).trans b11) ((y_ae e3 rfl).trans b12) ((y_ae e3 rfl).trans b14) ((y_ae e3 rfl).trans b2) ((y_ae e3 rfl).trans b3) ((y_ae e3 rfl).trans b4) ((y_ae e3 rfl).trans b5) ((y_ae e3 rfl).trans b6) rfl (by omega) (by rw [z0]; exact ⟨c2, fun j => by rw [if_neg (by omega)]⟩) (fun u hu => absurd hu (by omega)) (fun u hu => absurd hu (by omega)) x5 (fun u => by rw [if_neg (by omega)]) (fun H4 sa' so' ta' co'' fo' w1 w2 w3 f1 f2 f3 f4 f5 fa fb f6 => ?_)
    rw [ze] at f5
    have ei : iI.toInt.toNat = i := by omega
    have e4 : y_fr h H4 [19584, 19598] [158, 159, 160, 161, 162] := y_sq (y_mo e3 rfl rfl) f1 rfl rfl
    refine yes hv H4 fo' sa' co'' so' ta' e4 ⟨⟨nd, le, de, ta', (y_fe e4 rfl).trans n1, (y_ae e4 rfl).trans n2, (y_ae e4 rfl).trans n3, f4, c1, f5.1, c3, c4, c5⟩, j_dp_e (y_fe e4 rfl) (y_fe e4 rfl) (y_ae e4 rfl) q2, j_old_e (y_ae e4 rfl) (y_ae e4 rfl) (y_ae e4 rfl) (y_ae e4 rfl) (y_ae e4 rfl) (y_ae e4 rfl) q3, j_w_e (y_fe e4 rfl) (y_ae e4 rfl) q4, ⟨nd, _, so', sa', (y_fe e4 rfl).trans n1, (y_fe f1 rfl).trans F, f3, f2, ?_⟩, j_kept_e (y_fe e4 rfl) (y_ae e4 rfl) (y_ae e4 rfl) (y_ae e4 rfl) (y_ae e4 rfl) q6, j_land_e (y_fe e4 rfl) (y_ae e4 rfl) q7⟩ ⟨nd, co'', kn, kc, (y_fe e4 rfl).trans n1, w1, (y_ae e4 rfl).trans b7, (y_ae e4 rfl).trans b11, w2, x6⟩ ?_ fa ?_ f2 f3 ?_ w1 (fun u => ?_) f4 ?_
    · rw [ci]
      exact y_ord_x (p := y_Nn kn i) kj.2 (by omega) (fun k hk' => (f6 k hk').2) (fun k hk' => (f6 k hk').1)
    · exact (y_fe f1 rfl).trans F
    · rw [ei]
      exact fb
    · rw [ei]
      exact f6
    · rw [ei]
      have z := w3 u
      by_cases q : u < y_Nn kn i
      · rw [if_pos ⟨by omega, q⟩] at z
        rw [if_pos q]
        exact z
      · rw [if_neg (fun w => q w.2)] at z
        rw [if_neg q]
        exact z
    · rw [ei]
      exact f5.2
  · refine w_go z_hl [40] [176] 30 h2.1 ?_
    refine ⟨fun _ => ⟨by decide, fun H3 h3 => ?_⟩, fun q => absurd q (by decide)⟩
    exact out (fun v => nl (by rw [y_i2l]; exact v.1) (by rw [y_i2l]; exact v.2.1)) (y_st (y_sq e1 h2 rfl rfl) h3 (by repeat (first | exact w_nil | refine w_cons (Or.inl (y_m rfl)) ?_ | refine w_cons (Or.inr (by assumption)) ?_)) (by repeat (first | exact w_nil | refine w_cons (Or.inl (y_m rfl)) ?_ | refine w_cons (Or.inr (by assumption)) ?_)))
end WG9
end PT33h7
section PT33h8
/-! ===== v10: the class's weights (laid by wip/tools/mk10a.py) ===== -/
/-- a node's number in a way, as the class reads it -/
def c_nu (le de ta fo : List Int32) (k w : Nat) : Int := if 0 ≤ y_N fo k then (if y_N fo k = 1 then y_N de k else 0) else y_N ta (8 * k + (y_ap (y_Nn le k) w k).1)
/-- what the net's rows say of one another -/
def c_nok (nd F G : Int32) (le lc lo de ta fo : List Int32) : Prop := (0 ≤ nd.toInt ∧ nd.toInt ≤ 10) ∧ (0 ≤ F.toInt ∧ F.toInt < 1024 ∧ 0 ≤ G.toInt ∧ G.toInt < 1024) ∧
  (∀ k : Nat, (k : Int) < nd.toInt → F.toInt.toNat.testBit k = decide (0 ≤ y_N fo k) ∧ G.toInt.toNat.testBit k = decide (y_N fo k = 1)) ∧
  (∀ k : Nat, (k : Int) < nd.toInt → y_Nn le k < 2 ^ k ∧ y_pl (y_Nn le k) 10 ≤ 3 ∧ (lc.getD k 0).toInt = (y_pl (y_Nn le k) 10 : Nat) ∧ ∀ o, o < k → (y_Nn le k).testBit o = true → (lo.getD (3 * k + y_pl (y_Nn le k) o) 0).toInt = (o : Int)) ∧
  (∀ i, i < 80 → 0 ≤ y_N ta i ∧ y_N ta i ≤ y_N de (i / 8)) ∧ (∀ k : Nat, (k : Int) < nd.toInt → 1 ≤ y_N de k ∧ y_N de k ≤ 10000000) ∧ y_pr (y_N de) nd.toInt.toNat ≤ 100000000
def c_net (h : aH) (nd F G : Int32) (le lc lo de ta fo : List Int32) : Prop := (w_f h 128 = some (.int nd) ∧ w_f h 136 = some (.int F) ∧ w_f h 137 = some (.int G)) ∧ (w_a h 3 = some (0, .inl lc) ∧ w_a h 4 = some (0, .inl lo) ∧ w_a h 5 = some (0, .inl de) ∧ w_a h 6 = some (0, .inl ta)) ∧ c_nok nd F G le lc lo de ta fo
/-- weights up to the node k -/
abbrev c_wt (nd : Int32) (le de ta fo : List Int32) (w k : Nat) : Int := y_W nd le de ta fo w k
theorem c_nth {lb : Nat} : ∀ {k i : Nat}, i < y_pl lb k → ∃ o, o < k ∧ lb.testBit o = true ∧ y_pl lb o = i := by
  intro k
  induction k with
  | zero => intro i hi; exact absurd hi (Nat.not_lt_zero i)
  | succ k ih =>
    intro i hi
    by_cases q : i < y_pl lb k
    · obtain ⟨o, h1, h2, h3⟩ := ih q
      exact ⟨o, by omega, h2, h3⟩
    · cases hb : lb.testBit k with
      | false => rw [c_pl0 hb] at hi; exact absurd hi q
      | true =>
        rw [c_pl1 hb] at hi
        exact ⟨k, by omega, hb, by omega⟩
theorem c_ap_s {lb w o p : Nat} (h : o ≤ p) (hp : y_pl lb p = y_pl lb o) : y_ap lb w p = y_ap lb w o := by
  induction h with
  | refl => rfl
  | @step q hq ih =>
    have m1 : y_pl lb o ≤ y_pl lb q := y_pl_m hq
    cases hb : lb.testBit q with
    | true =>
      rw [c_pl1 hb] at hp
      omega
    | false =>
      rw [c_pl0 hb] at hp
      show (if lb.testBit q then _ else y_ap lb w q) = _
      rw [hb]
      exact ih hp
set_option maxRecDepth 100000 in
theorem c_or0 : (List.range 3).all (fun i => (List.range 8).all (fun a => !decide (a < 2 ^ i) || (List.range 2).all (fun b => decide ((Int32.ofNat a ||| (Int32.ofNat b <<< (Int32.ofNat i &&& 31))).toInt = ((a + b * 2 ^ i : Nat) : Int))))) = true := by decide +kernel
theorem c_or {a b i : Nat} {aI bI iI : Int32} (ha : aI.toInt = a) (hb : bI.toInt = b) (hi : iI.toInt = i) (i3 : i < 3) (a2 : a < 2 ^ i) (b2 : b < 2) : (aI ||| (bI <<< (iI &&& 31))).toInt = ((a + b * 2 ^ i : Nat) : Int) := by
  have a8 : a < 8 := Nat.lt_of_lt_of_le a2 (Nat.le_trans (Nat.pow_le_pow_right (by decide) (show i ≤ 3 by omega)) (by decide))
  have h1 := List.all_eq_true.mp (List.all_eq_true.mp c_or0 i (List.mem_range.mpr i3)) a (List.mem_range.mpr a8)
  rw [decide_eq_true a2, Bool.not_true, Bool.false_or] at h1
  have h2 := of_decide_eq_true (List.all_eq_true.mp h1 b (List.mem_range.mpr b2))
  rw [(y_ofNat ha (by omega)).1, (y_ofNat hb (by omega)).1, (y_ofNat hi (by omega)).1]
  exact h2
theorem c_b01 {bits k : Int32} {b o : Nat} (hb : bits.toInt = b) (hb2 : b < 1024) (ho : k.toInt = o) (ho2 : o < 10) : ((bits >>> (k &&& 31)) &&& Int32.ofInt 1).toInt = (if b.testBit o then 1 else 0 : Nat) := by
  cases hq : b.testBit o with
  | false =>
    rw [(c_bit hb hb2 ho ho2).mpr hq]
    decide
  | true =>
    have h1 := y_hasN hb hb2 ho ho2
    rw [hq] at h1
    rw [of_decide_eq_true h1]
    decide
theorem c_fa0 {n : Nat} {le de ta fo : List Int32} {k w : Nat} (hk : k < n) (hl : y_Nn le k < 2 ^ k) (hf : -1 ≤ y_N fo k ∧ y_N fo k ≤ 1) (hw : w < 2 ^ k) : y_fa n (y_Nn le) (y_N de) (y_N ta) (y_N fo) k w = y_N de k - c_nu le de ta fo k w := by
  have hb : w.testBit k = false := Nat.testBit_lt_two_pow hw
  unfold y_fa c_nu
  rw [hb, y_ap_e hl (show k ≤ n by omega)]
  by_cases q : 0 ≤ y_N fo k
  · rw [if_pos q, if_pos q]
    by_cases q1 : y_N fo k = 1
    · rw [if_pos q1, q1]
      show (if (1 : Int) = 0 then y_N de k else 0) = _
      rw [if_neg (by decide)]
      omega
    · rw [if_neg q1, show y_N fo k = 0 by omega]
      show (if (0 : Int) = 0 then y_N de k else 0) = _
      rw [if_pos rfl]
      omega
  · rw [if_neg q, if_neg q]
    rfl
theorem c_fa1 {n : Nat} {le de ta fo : List Int32} {k w : Nat} (hk : k < n) (hl : y_Nn le k < 2 ^ k) (hf : -1 ≤ y_N fo k ∧ y_N fo k ≤ 1) (hw : w < 2 ^ k) : y_fa n (y_Nn le) (y_N de) (y_N ta) (y_N fo) k (2 ^ k + w) = c_nu le de ta fo k w := by
  have hb : (2 ^ k + w).testBit k = true := by
    rw [Nat.testBit_two_pow_add_eq, Nat.testBit_lt_two_pow hw]
    rfl
  have ha : y_ap (y_Nn le k) (2 ^ k + w) k = y_ap (y_Nn le k) w k := y_ap_c (fun o ho => Nat.testBit_two_pow_add_gt ho w)
  unfold y_fa c_nu
  rw [hb, y_ap_e hl (show k ≤ n by omega), ha]
  by_cases q : 0 ≤ y_N fo k
  · rw [if_pos q, if_pos q]
    rfl
  · rw [if_neg q, if_neg q]
    rfl
section NWE
variable {X : aX} {C S d : Nat} {K0 : Option Value → aH → Nat → Nat → Prop}
theorem c_net_y {h H : aH} {nd F G : Int32} {le lc lo de ta fo : List Int32} {fs as : List Nat} (q : c_net h nd F G le lc lo de ta fo) (f : y_fr h H fs as) (h1 : fs.all (fun x => !([128, 136, 137] : List Nat).elem x) = true) (h2 : as.all (fun x => !([3, 4, 5, 6] : List Nat).elem x) = true) : c_net H nd F G le lc lo de ta fo := by
  obtain ⟨⟨q1, q2, q3⟩, ⟨q4, q5, q6, q7⟩, q8⟩ := q
  have n1 : ∀ k, ([128, 136, 137] : List Nat).elem k = true → k ∉ fs := by
    intro k hk w
    have := List.all_eq_true.mp h1 k w
    rw [hk] at this
    cases this
  have n2 : ∀ k, ([3, 4, 5, 6] : List Nat).elem k = true → k ∉ as := by
    intro k hk w
    have := List.all_eq_true.mp h2 k w
    rw [hk] at this
    cases this
  exact ⟨⟨(f.2.1 _ (n1 128 rfl)).trans q1, (f.2.1 _ (n1 136 rfl)).trans q2, (f.2.1 _ (n1 137 rfl)).trans q3⟩, ⟨(f.2.2 _ (n2 3 rfl)).trans q4, (f.2.2 _ (n2 4 rfl)).trans q5, (f.2.2 _ (n2 5 rfl)).trans q6, (f.2.2 _ (n2 6 rfl)).trans q7⟩, q8⟩
theorem c_num_loop {nd F G node way : Int32} {le lc lo de ta fo : List Int32} {k wN : Nat} (hk : node.toInt = k) (kn : (k : Int) < nd.toInt) (hw : way.toInt = wN) (w10 : wN < 1024) : ∀ (m : Nat) (h : aH) (aI iI : Int32) (a i o : Nat), w_hr z_D h → c_net h nd F G le lc lo de ta fo → aI.toInt = a → iI.toInt = i → i + m = y_pl (y_Nn le k) 10 → o ≤ k → y_pl (y_Nn le k) o = i → (y_ap (y_Nn le k) wN o).1 = a → (∀ (H : aH) (r : Int32), y_fr h H [] [] → r.toInt = y_N ta (8 * k + (y_ap (y_Nn le k) wN k).1) → K0 (some (.int r)) H C S) → aOK s_P X d a_m31 32 [some (.ref 3), some (.int node), some (.int way), some (.int aI), some (.int iI)] [] h C S K0 := by
  intro m
  induction m with
  | zero =>
    intro h aI iI a i o hr hn ha hi hm ho hp hap hK
    obtain ⟨⟨g1, g2, g3⟩, ⟨b3, b4, b5, b6⟩, x1, x2, x3, x4, x5, x6, x7⟩ := id hn
    obtain ⟨u1, u2, u3, u4⟩ := x4 k kn
    have ck := y_cl1 hk
    have top := c_pl_top u1 10 (by omega)
    have e1 : y_ap (y_Nn le k) wN k = y_ap (y_Nn le k) wN o := c_ap_s ho (by omega)
    have a8 : a < 8 := by
      have h1 := y_ap_1 (lb := y_Nn le k) (w := wN) o
      rw [y_ap_2, hap] at h1
      exact Nat.lt_of_lt_of_le h1 (Nat.le_trans (Nat.pow_le_pow_right (by decide) (show y_pl (y_Nn le k) o ≤ 3 by omega)) (by decide))
    have ix := c_ix hk ha (by omega) (by omega)
    have cx := y_cl1 ix
    have bx : 0 ≤ (node * (Int8.ofInt 8).toInt32 + aI).toInt ∧ (node * (Int8.ofInt 8).toInt32 + aI).toInt < ((80 : Nat) : Int) := by omega
    refine w_go z_hl [32] [] 60 hr ?_
    refine ⟨⟨by omega, by omega⟩, fun l hl len bb => ?_⟩
    obtain rfl := y_ai b3 hl
    rw [ck]
    refine ⟨fun q => ⟨bx, fun l2 hl2 len2 bb2 => fun H hH => ?_⟩, fun q => ?_⟩
    · obtain rfl := y_ai b6 hl2
      refine hK H _ (y_st (y_rf hr) hH (by repeat (first | exact w_nil | refine w_cons (Or.inl (y_m rfl)) ?_ | refine w_cons (Or.inr (by assumption)) ?_)) (by repeat (first | exact w_nil | refine w_cons (Or.inl (y_m rfl)) ?_ | refine w_cons (Or.inr (by assumption)) ?_))) ?_
      rw [cx, e1, hap]
      rfl
    · have g : ¬ ((lc.getD k 0).toInt ≤ iI.toInt) := y_cif q
      omega
  | succ m ih =>
    intro h aI iI a i o hr hn ha hi hm ho hp hap hK
    obtain ⟨⟨g1, g2, g3⟩, ⟨b3, b4, b5, b6⟩, x1, x2, x3, x4, x5, x6, x7⟩ := id hn
    obtain ⟨u1, u2, u3, u4⟩ := x4 k kn
    have ck := y_cl1 hk
    have top := c_pl_top u1 10 (by omega)
    obtain ⟨p, p1, p2, p3⟩ := c_nth (lb := y_Nn le k) (k := k) (i := i) (by omega)
    have op : o ≤ p := by
      by_cases z : o ≤ p
      · exact z
      · have p4 := c_pl1 p2
        have p5 : y_pl (y_Nn le k) (p + 1) ≤ y_pl (y_Nn le k) o := y_pl_m (by omega)
        omega
    have e1 : y_ap (y_Nn le k) wN p = y_ap (y_Nn le k) wN o := c_ap_s op (by omega)
    have hlo := u4 p p1 p2
    rw [p3] at hlo
    have ink : (iI + Int32.ofInt 1).toInt = ((i + 1 : Nat) : Int) := by rw [y_inc (by omega), hi]; rfl
    have ix : (node * Int32.ofInt 3 + iI).toInt = ((3 * k + i : Nat) : Int) := by
      have e3 : (node * Int32.ofInt 3).toInt = node.toInt * 3 := by
        rw [Int32.toInt_mul, show (Int32.ofInt 3).toInt = 3 by decide]
        exact Int.bmod_eq_of_le (by omega) (by omega)
      rw [Int32.toInt_add, e3, Int.bmod_eq_of_le (by omega) (by omega)]
      omega
    have cx := y_cl1 ix
    have bx : 0 ≤ (node * Int32.ofInt 3 + iI).toInt ∧ (node * Int32.ofInt 3 + iI).toInt < ((30 : Nat) : Int) := by omega
    refine w_go z_hl [32] [] 60 hr ?_
    refine ⟨⟨by omega, by omega⟩, fun l hl len bb => ?_⟩
    obtain rfl := y_ai b3 hl
    rw [ck]
    refine ⟨fun q => ?_, fun q => ⟨bx, fun l2 hl2 len2 bb2 => fun H hH => ?_⟩⟩
    · have g : (lc.getD k 0).toInt ≤ iI.toInt := (y_ci .ge _ _).mp q
      omega
    · obtain rfl := y_ai b4 hl2
      rw [cx]
      have f : y_fr h H [] [] := y_st (y_rf hr) hH (by repeat (first | exact w_nil | refine w_cons (Or.inl (y_m rfl)) ?_ | refine w_cons (Or.inr (by assumption)) ?_)) (by repeat (first | exact w_nil | refine w_cons (Or.inl (y_m rfl)) ?_ | refine w_cons (Or.inr (by assumption)) ?_))
      have b01 := c_b01 hw w10 hlo (by omega)
      have a2 : a < 2 ^ i := by
        have h1 := y_ap_1 (lb := y_Nn le k) (w := wN) o
        rw [y_ap_2, hap, hp] at h1
        exact h1
      have orr := c_or ha b01 hi (by omega) a2 (by split <;> decide)
      refine ih H _ _ _ (i + 1) (p + 1) f.1 (c_net_y hn f rfl rfl) orr ink (by omega) (by omega) (by rw [c_pl1 p2, p3]) ?_ (fun H' r f' hr' => hK H' r (y_sq f f' rfl rfl) hr')
      show (if (y_Nn le k).testBit p then (if wN.testBit p then (y_ap (y_Nn le k) wN p).1 + 2 ^ (y_ap (y_Nn le k) wN p).2 else (y_ap (y_Nn le k) wN p).1, (y_ap (y_Nn le k) wN p).2 + 1) else y_ap (y_Nn le k) wN p).1 = _
      rw [p2, if_pos rfl]
      show (if wN.testBit p then (y_ap (y_Nn le k) wN p).1 + 2 ^ (y_ap (y_Nn le k) wN p).2 else (y_ap (y_Nn le k) wN p).1) = _
      rw [y_ap_2, p3, e1, hap]
      cases wN.testBit p with
      | true => show a + 2 ^ i = a + 1 * 2 ^ i; omega
      | false => show a = a + 0 * 2 ^ i; omega
theorem c_numberIn {h : aH} (hr : w_hr z_D h) {nd F G node way : Int32} {le lc lo de ta fo : List Int32} {k wN : Nat} (hn : c_net h nd F G le lc lo de ta fo) (hf : ∀ k : Nat, (k : Int) < nd.toInt → -1 ≤ y_N fo k ∧ y_N fo k ≤ 1) (hk : node.toInt = k) (kn : (k : Int) < nd.toInt) (hw : way.toInt = wN) (w10 : wN < 1024) (hK : ∀ (H : aH) (r : Int32), y_fr h H [] [] → r.toInt = c_nu le de ta fo k wN → K0 (some (.int r)) H C S) : aOK s_P X d a_m31 0 [some (.ref 3), some (.int node), some (.int way), none, none] [] h C S K0 := by
  obtain ⟨⟨g1, g2, g3⟩, ⟨b3, b4, b5, b6⟩, x1, x2, x3, x4, x5, x6, x7⟩ := id hn
  obtain ⟨y1, y2⟩ := x3 k kn
  have ck := y_cl1 hk
  have hF : F.toInt = (F.toInt.toNat : Nat) := by omega
  have hG : G.toInt = (G.toInt.toNat : Nat) := by omega
  have hfk := hf k kn
  refine w_go z_hl [32] [] 60 hr ?_
  intro x hx _ _
  obtain rfl := y_fi g2 hx
  refine ⟨fun q => fun H hH => ?_, fun q => ?_⟩
  · have z : ((F >>> (node &&& 31)) &&& Int32.ofInt 1).toInt = (0 : Int32).toInt := (y_ci .eq _ _).mp q
    have z2 := (c_bit hF (by omega) hk (by omega)).mp (Int32.toInt_inj.mp z)
    rw [y1] at z2
    have z3 := of_decide_eq_false z2
    have f : y_fr h H [] [] := y_st (y_rf hr) hH (by repeat (first | exact w_nil | refine w_cons (Or.inl (y_m rfl)) ?_ | refine w_cons (Or.inr (by assumption)) ?_)) (by repeat (first | exact w_nil | refine w_cons (Or.inl (y_m rfl)) ?_ | refine w_cons (Or.inr (by assumption)) ?_))
    refine c_num_loop hk kn hw w10 (y_pl (y_Nn le k) 10) H _ _ 0 0 0 f.1 (c_net_y hn f rfl rfl) (by decide) (by decide) (by omega) (Nat.zero_le k) rfl rfl (fun H' r f' hr' => hK H' r (y_sq f f' rfl rfl) ?_)
    rw [hr']
    unfold c_nu
    rw [if_neg z3]
  · have z : ¬ (((F >>> (node &&& 31)) &&& Int32.ofInt 1).toInt = (0 : Int32).toInt) := y_cif q
    have z3 : 0 ≤ y_N fo k := by
      by_cases w : 0 ≤ y_N fo k
      · exact w
      · refine absurd (congrArg Int32.toInt ((c_bit hF (by omega) hk (by omega)).mpr ?_)) z
        rw [y1]
        exact decide_eq_false w
    intro y hy _ _
    obtain rfl := y_fi g3 hy
    refine ⟨⟨by omega, by omega⟩, fun l hl len bb => fun H hH => ?_⟩
    obtain rfl := y_ai b5 hl
    refine hK H _ (y_st (y_rf hr) hH (by repeat (first | exact w_nil | refine w_cons (Or.inl (y_m rfl)) ?_ | refine w_cons (Or.inr (by assumption)) ?_)) (by repeat (first | exact w_nil | refine w_cons (Or.inl (y_m rfl)) ?_ | refine w_cons (Or.inr (by assumption)) ?_))) ?_
    have b01 := c_b01 hG (by omega) hk (by omega)
    have d0 := (x6 k kn)
    unfold y_N at d0
    rw [ck, Int32.toInt_mul, b01, y2]
    unfold c_nu
    rw [if_pos z3]
    by_cases w : y_N fo k = 1
    · rw [decide_eq_true w, if_pos w]
      show Int.bmod (1 * _) _ = _
      rw [Int.one_mul]
      exact Int.bmod_eq_of_le (by omega) (by omega)
    · rw [decide_eq_false w, if_neg w]
      show Int.bmod (0 * _) _ = _
      rw [Int.zero_mul]
      decide
theorem c_nu_b {nd F G : Int32} {le lc lo de ta fo : List Int32} (q : c_nok nd F G le lc lo de ta fo) {k w : Nat} (kn : (k : Int) < nd.toInt) : 0 ≤ c_nu le de ta fo k w ∧ c_nu le de ta fo k w ≤ y_N de k := by
  obtain ⟨x1, x2, x3, x4, x5, x6, x7⟩ := q
  obtain ⟨u1, u2, u3, u4⟩ := x4 k kn
  have d1 := (x6 k kn).1
  have a8 : (y_ap (y_Nn le k) w k).1 < 8 := by
    have h1 := y_ap_1 (lb := y_Nn le k) (w := w) k
    rw [y_ap_2] at h1
    have h2 : y_pl (y_Nn le k) k ≤ y_pl (y_Nn le k) 10 := y_pl_m (by omega)
    exact Nat.lt_of_lt_of_le h1 (Nat.le_trans (Nat.pow_le_pow_right (by decide) (show y_pl (y_Nn le k) k ≤ 3 by omega)) (by decide))
  have t := x5 (8 * k + (y_ap (y_Nn le k) w k).1) (by omega)
  rw [show (8 * k + (y_ap (y_Nn le k) w k).1) / 8 = k by omega] at t
  unfold c_nu
  split
  · split <;> omega
  · exact t
theorem c_W_hi {nd F G : Int32} {le lc lo de ta fo : List Int32} (q : c_nok nd F G le lc lo de ta fo) {k w : Nat} (kn : (k : Int) ≤ nd.toInt) : y_W nd le de ta fo (2 ^ k + w) k = y_W nd le de ta fo w k := by
  obtain ⟨x1, x2, x3, x4, x5, x6, x7⟩ := q
  refine y_wt_c (fun v hv => ?_)
  have u1 := (x4 v (by omega)).1
  have hb : ∀ o, o ≤ v → (2 ^ k + w).testBit o = w.testBit o := fun o ho => Nat.testBit_two_pow_add_gt (by omega) w
  have e : y_ap (y_Nn le v) (2 ^ k + w) nd.toInt.toNat = y_ap (y_Nn le v) w nd.toInt.toNat := by
    rw [y_ap_e u1 (show v ≤ nd.toInt.toNat by omega), y_ap_e u1 (show v ≤ nd.toInt.toNat by omega)]
    exact y_ap_c (fun o ho => hb o (by omega))
  unfold y_fa
  rw [e, hb v (Nat.le_refl v)]
theorem c_W_b {nd F G : Int32} {le lc lo de ta fo : List Int32} (q : c_nok nd F G le lc lo de ta fo) {k w : Nat} (kn : (k : Int) ≤ nd.toInt) : 0 ≤ y_W nd le de ta fo w k ∧ y_W nd le de ta fo w k ≤ 100000000 := by
  obtain ⟨x1, x2, x3, x4, x5, x6, x7⟩ := q
  have hb : ∀ v, v < nd.toInt.toNat → 0 ≤ y_fa nd.toInt.toNat (y_Nn le) (y_N de) (y_N ta) (y_N fo) v w ∧ y_fa nd.toInt.toNat (y_Nn le) (y_N de) (y_N ta) (y_N fo) v w ≤ y_N de v := fun v hv => y_fa_b (fun v hv => Nat.le_trans (y_pl_m (show nd.toInt.toNat ≤ 10 by omega)) (x4 v (by omega)).2.1) (fun v c hv hc => by
    have h1 := x5 (8 * v + c) (by omega)
    rw [show (8 * v + c) / 8 = v by omega] at h1
    exact h1) (fun v hv => Int.le_trans (by decide) (x6 v (by omega)).1) hv
  refine ⟨y_wt_0 (fun v hv => (hb v (by omega)).1), ?_⟩
  exact Int.le_trans (y_wt_le (de := y_N de) (fun v hv => hb v (by omega))) (Int.le_trans (y_pr_m (show k ≤ nd.toInt.toNat by omega) (fun v hv => (x6 v (by omega)).1)) x7)
theorem c_mul {a b : Int32} {x y z : Int} (ha : a.toInt = x) (hb : b.toInt = y) (hz : x * y = z) (h0 : 0 ≤ z) (h1 : z ≤ 100000000) : (a * b).toInt = z := by
  rw [Int32.toInt_mul, ha, hb, hz]
  exact Int.bmod_eq_of_le (by omega) (by omega)
/-- weights in the midst of widening by the node k -/
def c_wi (nd : Int32) (le de ta fo : List Int32) (k i : Nat) (wl : List Int32) : Prop := wl.length = 1024 ∧ (∀ w, w < 2 ^ k → (wl.getD w 0).toInt = if w < i then y_W nd le de ta fo w (k + 1) else y_W nd le de ta fo w k) ∧ ∀ w, w < i → (wl.getD (2 ^ k + w) 0).toInt = y_W nd le de ta fo (2 ^ k + w) (k + 1)
theorem c_widen_loop {nd F G node half deep : Int32} {le lc lo de ta fo : List Int32} {k : Nat} (hf : ∀ k : Nat, (k : Int) < nd.toInt → -1 ≤ y_N fo k ∧ y_N fo k ≤ 1) (hk : node.toInt = k) (kn : (k : Int) < nd.toInt) (hh : half.toInt = ((2 ^ k : Nat) : Int)) (hd : deep.toInt = y_N de k) : ∀ (m : Nat) (h : aH) (iI : Int32) (i : Nat) (wl : List Int32) (o5 : Option Value), w_hr z_D h → c_net h nd F G le lc lo de ta fo → w_a h 9 = some (0, .inl wl) → iI.toInt = i → i + m = 2 ^ k → c_wi nd le de ta fo k i wl → (∀ (H : aH) (wl' : List Int32), y_fr h H [] [9] → w_a H 9 = some (0, .inl wl') → c_wi nd le de ta fo k (2 ^ k) wl' → K0 none H C S) → aOK s_P X (d + 1) a_m30 14 [some (.ref 3), some (.int node), some (.int half), some (.int deep), some (.int iI), o5] [] h C S K0 := by
  intro m
  induction m with
  | zero =>
    intro h iI i wl o5 hr hn a9 hi hm cw hK
    refine w_go z_hl [14] [31] 60 hr ?_
    refine ⟨fun _ => fun H hH => ?_, fun q => ?_⟩
    · have f : y_fr h H [] [] := y_st (y_rf hr) hH (by repeat (first | exact w_nil | refine w_cons (Or.inl (y_m rfl)) ?_ | refine w_cons (Or.inr (by assumption)) ?_)) (by repeat (first | exact w_nil | refine w_cons (Or.inl (y_m rfl)) ?_ | refine w_cons (Or.inr (by assumption)) ?_))
      have ei : i = 2 ^ k := by omega
      rw [ei] at cw
      exact hK H wl (y_mo f rfl rfl) ((y_ae f rfl).trans a9) cw
    · have : ¬ (half.toInt ≤ iI.toInt) := y_cif q
      omega
  | succ m ih =>
    intro h iI i wl o5 hr hn a9 hi hm cw hK
    have nok := hn.2.2
    have k512 : 2 ^ k ≤ 2 ^ 9 := Nat.pow_le_pow_right (by decide) (by have := nok.1; omega)
    have hik : (iI + Int32.ofInt 1).toInt = ((i + 1 : Nat) : Int) := by rw [y_inc (by omega), hi]; rfl
    have ci := y_cl1 hi
    have ix : (half + iI).toInt = ((2 ^ k + i : Nat) : Int) := by
      rw [Int32.toInt_add, hh, hi, Int.bmod_eq_of_le (by omega) (by omega)]
      omega
    have cx := y_cl1 ix
    have u1 := (nok.2.2.2.1 k kn).1
    have nb := c_nu_b nok (w := i) kn
    have ib : i < 2 ^ k := by omega
    have wi := cw.2.1 i ib
    rw [if_neg (Nat.lt_irrefl i)] at wi
    have T27 : ∀ {J : aH} {so : Int32}, so.toInt = c_nu le de ta fo k i → y_fr h J [] [] → aOK s_P X (d + 1) a_m30 27 [some (.ref 3), some (.int node), some (.int half), some (.int deep), some (.int iI), o5] [.int so] J C S K0 := by
      intro J so hso e
      have ds : (deep - so).toInt = y_N de k - c_nu le de ta fo k i := by
        rw [y_sub32 (by omega) (by omega), hd, hso]
      have e1 : y_W nd le de ta fo i k * c_nu le de ta fo k i = y_W nd le de ta fo (2 ^ k + i) (k + 1) := by
        show _ = y_W nd le de ta fo (2 ^ k + i) k * y_fa nd.toInt.toNat (y_Nn le) (y_N de) (y_N ta) (y_N fo) k (2 ^ k + i)
        rw [c_W_hi nok (by omega), c_fa1 (by omega) u1 (hf k kn) ib]
      have e2 : y_W nd le de ta fo i k * (y_N de k - c_nu le de ta fo k i) = y_W nd le de ta fo i (k + 1) := by
        show _ = y_W nd le de ta fo i k * y_fa nd.toInt.toNat (y_Nn le) (y_N de) (y_N ta) (y_N fo) k i
        rw [c_fa0 (by omega) u1 (hf k kn) ib]
      have m1 := c_W_b nok (k := k + 1) (w := 2 ^ k + i) (by omega)
      have m2 := c_W_b nok (k := k + 1) (w := i) (by omega)
      have v1 := c_mul wi hso e1 m1.1 m1.2
      have v2 := c_mul wi ds e2 m2.1 m2.2
      have bi : 0 ≤ iI.toInt ∧ iI.toInt < ((1024 : Nat) : Int) := by omega
      have bx : 0 ≤ (half + iI).toInt ∧ (half + iI).toInt < ((1024 : Nat) : Int) := by omega
      refine w_go z_hl [14] [] 80 e.1 ?_
      refine ⟨bi, fun l hl len bb => ⟨bx, ⟨(s_i32 _).1, (s_i32 _).2⟩, ⟨bi, ⟨bi, ⟨(s_i32 _).1, (s_i32 _).2⟩, fun H hH => ?_⟩⟩⟩⟩
      obtain rfl := y_ai ((y_ae e rfl).trans a9) hl
      have f : y_fr J H [] [9] := y_st (y_mo (y_rf e.1) rfl rfl) hH (by repeat (first | exact w_nil | refine w_cons (Or.inl (y_m rfl)) ?_ | refine w_cons (Or.inr (by assumption)) ?_)) (by repeat (first | exact w_nil | refine w_cons (Or.inl (y_m rfl)) ?_ | refine w_cons (Or.inr (by assumption)) ?_))
      have f2 : y_fr h H [] [9] := y_sq (y_mo e rfl rfl) f rfl rfl
      have A := hH.2.2.1 9 _ rfl
      rw [ci] at A
      rw [show ((fun x y => x + y) half iI : Int32).toNatClampNeg = 2 ^ k + i from cx] at A
      have g1 : (wl.set (2 ^ k + i) (wl.getD i 0 * so)).getD i 0 = wl.getD i 0 := c_gne (by omega)
      rw [g1] at A
      refine ih H _ (i + 1) _ _ f2.1 (c_net_y hn f2 rfl rfl) A hik (by omega) ⟨by rw [List.length_set, List.length_set]; exact cw.1, fun w hw => ?_, fun w hw => ?_⟩ (fun H' wl' f' z1 z2 => hK H' wl' (y_sq f2 f' rfl rfl) z1 z2)
      · by_cases q : w = i
        · rw [q, c_gset (by rw [List.length_set, cw.1]; omega), if_pos rfl, if_pos (by omega)]
          exact v2
        · rw [c_gne q, c_gne (by omega), cw.2.1 w hw]
          by_cases q2 : w < i
          · rw [if_pos q2, if_pos (by omega)]
          · rw [if_neg q2, if_neg (by omega)]
      · rw [c_gne (by omega)]
        by_cases q : w = i
        · rw [q, c_gset (by rw [cw.1]; omega), if_pos rfl]
          exact v1
        · rw [c_gne (by omega)]
          exact cw.2.2 w (by omega)
    refine w_go z_hl [14] [31] 60 hr ?_
    refine ⟨fun q => ?_, fun _ => fun H hH => ?_⟩
    · have : half.toInt ≤ iI.toInt := (y_ci .ge _ _).mp q
      omega
    · have e : y_fr h H [] [] := y_st (y_rf hr) hH (by repeat (first | exact w_nil | refine w_cons (Or.inl (y_m rfl)) ?_ | refine w_cons (Or.inr (by assumption)) ?_)) (by repeat (first | exact w_nil | refine w_cons (Or.inl (y_m rfl)) ?_ | refine w_cons (Or.inr (by assumption)) ?_))
      refine c_numberIn (wN := i) e.1 (c_net_y hn e rfl rfl) hf hk kn hi (by omega) (fun H3 so h3 hso => ⟨fun n e => (by cases e), ?_⟩)
      exact T27 hso (y_sq e h3 rfl rfl)
theorem c_widen {h : aH} (hr : w_hr z_D h) {nd F G node : Int32} {le lc lo de ta fo wl : List Int32} {k : Nat} (hn : c_net h nd F G le lc lo de ta fo) (hf : ∀ k : Nat, (k : Int) < nd.toInt → -1 ≤ y_N fo k ∧ y_N fo k ≤ 1) (hk : node.toInt = k) (kn : (k : Int) < nd.toInt) (a9 : w_a h 9 = some (0, .inl wl)) (cw : c_wk nd le de ta fo k wl) (hK : ∀ (H : aH) (wl' : List Int32), y_fr h H [] [9] → w_a H 9 = some (0, .inl wl') → c_wk nd le de ta fo (k + 1) wl' → K0 none H C S) : aOK s_P X (d + 1) a_m30 0 [some (.ref 3), some (.int node), none, none, none, none] [] h C S K0 := by
  have nok := hn.2.2
  have ck := y_cl1 hk
  have b10 := nok.1
  have sh := y_shl6 (sp := node) (by omega) (by omega)
  have ew : y_ways node = 2 ^ k := by
    unfold y_ways
    rw [show node.toInt.toNat = k by omega]
  rw [ew] at sh
  refine w_go z_hl [14] [31] 60 hr ?_
  refine ⟨⟨by omega, by omega⟩, fun l hl len bb => fun H hH => ?_⟩
  obtain rfl := y_ai hn.2.1.2.2.1 hl
  have e : y_fr h H [] [] := y_st (y_rf hr) hH (by repeat (first | exact w_nil | refine w_cons (Or.inl (y_m rfl)) ?_ | refine w_cons (Or.inr (by assumption)) ?_)) (by repeat (first | exact w_nil | refine w_cons (Or.inl (y_m rfl)) ?_ | refine w_cons (Or.inr (by assumption)) ?_))
  refine c_widen_loop hf hk kn sh (by rw [ck]; rfl) (2 ^ k) H _ 0 wl none e.1 (c_net_y hn e rfl rfl) ((y_ae e rfl).trans a9) (by decide) (by omega) ⟨cw.1, fun w hw => by rw [if_neg (Nat.not_lt_zero w)]; exact cw.2 w hw, fun w hw => absurd hw (Nat.not_lt_zero w)⟩ (fun H' wl' f' z1 z2 => hK H' wl' (y_sq (y_mo e rfl rfl) f' rfl rfl) z1 ⟨z2.1, fun w hw => ?_⟩)
  by_cases q : w < 2 ^ k
  · rw [z2.2.1 w q, if_pos q]
  · have e2 : w = 2 ^ k + (w - 2 ^ k) := by omega
    have e3 : 2 ^ (k + 1) = 2 ^ k + 2 ^ k := by rw [Nat.pow_succ]; omega
    rw [e2]
    exact z2.2.2 (w - 2 ^ k) (by omega)
theorem c_refresh_loop {nd F G : Int32} {le lc lo de ta fo : List Int32} (hf : ∀ k : Nat, (k : Int) < nd.toInt → -1 ≤ y_N fo k ∧ y_N fo k ≤ 1) : ∀ (m : Nat) (h : aH) (iI : Int32) (k : Nat) (wl : List Int32), w_hr z_D h → c_net h nd F G le lc lo de ta fo → w_a h 9 = some (0, .inl wl) → iI.toInt = k → (k : Int) + m = nd.toInt → c_wk nd le de ta fo k wl → (∀ (H : aH) (wl' : List Int32), y_fr h H [143] [9] → w_f H 143 = some (.int (Int32.ofInt 1)) → w_a H 9 = some (0, .inl wl') → c_wk nd le de ta fo nd.toInt.toNat wl' → K0 none H C S) → aOK s_P X (d + 2) a_m29 17 [some (.ref 3), some (.int iI)] [] h C S K0 := by
  intro m
  induction m with
  | zero =>
    intro h iI k wl hr hn a9 hi hm cw hK
    refine w_go z_hl [17] [30] 60 hr ?_
    intro x hx _ _
    obtain rfl := y_fi hn.1.1 hx
    refine ⟨fun _ => ⟨rfl, y_zini (by decide) (by decide), fun H hH => ?_⟩, fun q => ?_⟩
    · have f : y_fr h H [143] [] := y_st (y_mo (y_rf hr) rfl rfl) hH (by repeat (first | exact w_nil | refine w_cons (Or.inl (y_m rfl)) ?_ | refine w_cons (Or.inr (by assumption)) ?_)) (by repeat (first | exact w_nil | refine w_cons (Or.inl (y_m rfl)) ?_ | refine w_cons (Or.inr (by assumption)) ?_))
      exact hK H wl (y_mo f rfl rfl) (hH.2.1 143 _ rfl) ((y_ae f rfl).trans a9) (by rw [show nd.toInt.toNat = k by omega]; exact cw)
    · have : ¬ (nd.toInt ≤ iI.toInt) := y_cif q
      omega
  | succ m ih =>
    intro h iI k wl hr hn a9 hi hm cw hK
    have hik : (iI + Int32.ofInt 1).toInt = ((k + 1 : Nat) : Int) := by rw [y_inc (by have := hn.2.2.1; omega), hi]; rfl
    have T30 : ∀ {J : aH} {wl2 : List Int32}, y_fr h J [] [9] → w_a J 9 = some (0, .inl wl2) → c_wk nd le de ta fo (k + 1) wl2 → aOK s_P X (d + 2) a_m29 30 [some (.ref 3), some (.int iI)] [] J C S K0 := by
      intro J wl2 e z1 z2
      refine w_go z_hl [17] [] 30 e.1 ?_
      intro H hH
      have f : y_fr J H [] [] := y_st (y_rf e.1) hH (by repeat (first | exact w_nil | refine w_cons (Or.inl (y_m rfl)) ?_ | refine w_cons (Or.inr (by assumption)) ?_)) (by repeat (first | exact w_nil | refine w_cons (Or.inl (y_m rfl)) ?_ | refine w_cons (Or.inr (by assumption)) ?_))
      have f2 : y_fr h H [] [9] := y_sq e f rfl rfl
      exact ih H _ (k + 1) wl2 f2.1 (c_net_y hn f2 rfl rfl) ((y_ae f rfl).trans z1) hik (by omega) z2 (fun H' wl' f' u1 u2 u3 => hK H' wl' (y_sq (y_mo f2 rfl rfl) f' rfl rfl) u1 u2 u3)
    refine w_go z_hl [17] [30] 60 hr ?_
    intro x hx _ _
    obtain rfl := y_fi hn.1.1 hx
    refine ⟨fun q => ?_, fun _ => fun H hH => ?_⟩
    · have : nd.toInt ≤ iI.toInt := (y_ci .ge _ _).mp q
      omega
    · have e : y_fr h H [] [] := y_st (y_rf hr) hH (by repeat (first | exact w_nil | refine w_cons (Or.inl (y_m rfl)) ?_ | refine w_cons (Or.inr (by assumption)) ?_)) (by repeat (first | exact w_nil | refine w_cons (Or.inl (y_m rfl)) ?_ | refine w_cons (Or.inr (by assumption)) ?_))
      refine c_widen (d := d) e.1 (c_net_y hn e rfl rfl) hf hi (by omega) ((y_ae e rfl).trans a9) cw (fun H3 wl3 h3 z1 z2 => ⟨fun n e => (by cases e), ?_⟩)
      exact T30 (y_sq (y_mo e rfl rfl) h3 rfl rfl) z1 z2
theorem c_refresh {h : aH} (hr : w_hr z_D h) {nd F G fr : Int32} {le lc lo de ta fo wl : List Int32} (hn : c_net h nd F G le lc lo de ta fo) (hf : ∀ k : Nat, (k : Int) < nd.toInt → -1 ≤ y_N fo k ∧ y_N fo k ≤ 1) (gf : w_f h 143 = some (.int fr)) (a9 : w_a h 9 = some (0, .inl wl)) (l9 : wl.length = 1024) (hw : fr.toInt ≠ 0 → c_wk nd le de ta fo nd.toInt.toNat wl) (hK : ∀ (H : aH) (wl' : List Int32), y_fr h H [143] [9] → w_f H 143 = some (.int (Int32.ofInt 1)) → w_a H 9 = some (0, .inl wl') → c_wk nd le de ta fo nd.toInt.toNat wl' → K0 none H C S) : aOK s_P X (d + 2) a_m29 0 [some (.ref 3), none] [] h C S K0 := by
  have b10 := hn.2.2.1
  refine w_go z_hl [17] [30] 60 hr ?_
  intro x hx x0 x1
  obtain rfl := y_fi gf hx
  refine ⟨fun q => ⟨⟨by decide, by decide⟩, ⟨by decide, by decide⟩, fun l hl len bb => fun H hH => ?_⟩, fun q => fun H hH => ?_⟩
  · obtain rfl := y_ai a9 hl
    have f : y_fr h H [] [9] := y_st (y_mo (y_rf hr) rfl rfl) hH (by repeat (first | exact w_nil | refine w_cons (Or.inl (y_m rfl)) ?_ | refine w_cons (Or.inr (by assumption)) ?_)) (by repeat (first | exact w_nil | refine w_cons (Or.inl (y_m rfl)) ?_ | refine w_cons (Or.inr (by assumption)) ?_))
    refine c_refresh_loop hf nd.toInt.toNat H _ 0 _ f.1 (c_net_y hn f rfl rfl) (hH.2.2.1 9 _ rfl) (by decide) (by omega) ⟨by rw [List.length_set]; exact l9, fun w h1 => ?_⟩ (fun H' wl' f' u1 u2 u3 => hK H' wl' (y_sq (y_mo f rfl rfl) f' rfl rfl) u1 u2 u3)
    have w0 : w = 0 := by
      have : 2 ^ 0 = 1 := rfl
      omega
    rw [w0, show (Int32.ofInt 0).toNatClampNeg = 0 by decide, c_gset (by rw [l9]; decide), if_pos rfl]
    show (Int32.ofInt 1).toInt = 1
    decide
  · have z : ¬ (fr.toInt = (0 : Int32).toInt) := y_cif q
    have z2 : fr.toInt ≠ 0 := z
    have x1' : fr.toInt ≤ 1 := x1
    have x0' : 0 ≤ fr.toInt := x0
    have e1 : fr = Int32.ofInt 1 := Int32.toInt_inj.mp (by rw [show (Int32.ofInt 1).toInt = 1 by decide]; omega)
    have f : y_fr h H [] [] := y_st (y_rf hr) hH (by repeat (first | exact w_nil | refine w_cons (Or.inl (y_m rfl)) ?_ | refine w_cons (Or.inr (by assumption)) ?_)) (by repeat (first | exact w_nil | refine w_cons (Or.inl (y_m rfl)) ?_ | refine w_cons (Or.inr (by assumption)) ?_))
    refine hK H wl (y_mo f rfl rfl) ?_ ((y_ae f rfl).trans a9) (hw z2)
    rw [← e1]
    exact (y_fe f rfl).trans gf
end NWE
end PT33h8
section PT33h9
/-! ===== v10: force with what it writes (laid by wip/tools/mk10b.py) ===== -/
set_option maxRecDepth 100000 in
theorem c_bs0 : (List.range 1024).all (fun b => (List.range 10).all (fun o => decide ((Int32.ofNat b ||| (Int32.ofInt 1 <<< (Int32.ofNat o &&& 31))).toInt = ((b ||| 2 ^ o : Nat) : Int)) && decide ((Int32.ofNat b &&& ((Int32.ofInt 1 <<< (Int32.ofNat o &&& 31)) ^^^ Int32.ofInt (-1))).toInt = ((b &&& (1023 ^^^ 2 ^ o) : Nat) : Int)))) = true := by decide +kernel
theorem c_bs {F k : Int32} {b o : Nat} (hb : F.toInt = b) (b10 : b < 1024) (ho : k.toInt = o) (o10 : o < 10) : (F ||| (Int32.ofInt 1 <<< (k &&& 31))).toInt = ((b ||| 2 ^ o : Nat) : Int) ∧ (F &&& ((Int32.ofInt 1 <<< (k &&& 31)) ^^^ Int32.ofInt (-1))).toInt = ((b &&& (1023 ^^^ 2 ^ o) : Nat) : Int) := by
  have h1 := List.all_eq_true.mp (List.all_eq_true.mp c_bs0 b (List.mem_range.mpr b10)) o (List.mem_range.mpr o10)
  rw [Bool.and_eq_true, decide_eq_true_eq, decide_eq_true_eq] at h1
  rw [(y_ofNat hb (by omega)).1, (y_ofNat ho (by omega)).1]
  exact h1
/-- bits, one of them set anew -/
def c_fb (F F' : Int32) (a : Nat) (p : Bool) : Prop := (0 ≤ F'.toInt ∧ F'.toInt < 1024) ∧ ∀ k, k < 10 → F'.toInt.toNat.testBit k = if k = a then p else F.toInt.toNat.testBit k
theorem c_fb1 {F k : Int32} {o : Nat} (h0 : 0 ≤ F.toInt) (h1 : F.toInt < 1024) (ho : k.toInt = o) (o10 : o < 10) : c_fb F (F ||| (Int32.ofInt 1 <<< (k &&& 31))) o true := by
  have e := (c_bs (F := F) (b := F.toInt.toNat) (by omega) (by omega) ho o10).1
  have lt : F.toInt.toNat ||| 2 ^ o < 2 ^ 10 := Nat.or_lt_two_pow (by omega) (Nat.pow_lt_pow_right (by decide) o10)
  refine ⟨by omega, fun i hi => ?_⟩
  rw [e, Int.toNat_natCast, Nat.testBit_or, Nat.testBit_two_pow]
  by_cases q : i = o
  · rw [if_pos q, decide_eq_true q.symm, Bool.or_true]
  · rw [if_neg q, decide_eq_false (fun w => q w.symm), Bool.or_false]
theorem c_fb0 {F k : Int32} {o : Nat} (h0 : 0 ≤ F.toInt) (h1 : F.toInt < 1024) (ho : k.toInt = o) (o10 : o < 10) : c_fb F (F &&& ((Int32.ofInt 1 <<< (k &&& 31)) ^^^ Int32.ofInt (-1))) o false := by
  have e := (c_bs (F := F) (b := F.toInt.toNat) (by omega) (by omega) ho o10).2
  have le : F.toInt.toNat &&& (1023 ^^^ 2 ^ o) ≤ F.toInt.toNat := Nat.and_le_left
  refine ⟨by omega, fun i hi => ?_⟩
  rw [e, Int.toNat_natCast, Nat.testBit_and, Nat.testBit_xor, Nat.testBit_two_pow, show (1023 : Nat) = 2 ^ 10 - 1 by decide, Nat.testBit_two_pow_sub_one, decide_eq_true hi]
  by_cases q : i = o
  · rw [if_pos q, decide_eq_true q.symm]
    exact Bool.and_false _
  · rw [if_neg q, decide_eq_false (fun w => q w.symm)]
    exact Bool.and_true _
def c_fF (F a b : Int32) : Int32 := if b.toInt = -1 then F &&& ((Int32.ofInt 1 <<< (a &&& 31)) ^^^ Int32.ofInt (-1)) else F ||| (Int32.ofInt 1 <<< (a &&& 31))
def c_fG (F a b : Int32) : Int32 := if b.toInt = 1 then F ||| (Int32.ofInt 1 <<< (a &&& 31)) else F &&& ((Int32.ofInt 1 <<< (a &&& 31)) ^^^ Int32.ofInt (-1))
theorem c_fF_b {F a b : Int32} {o : Nat} (h0 : 0 ≤ F.toInt) (h1 : F.toInt < 1024) (ho : a.toInt = o) (o10 : o < 10) : c_fb F (c_fF F a b) o (decide (b.toInt ≠ -1)) := by
  unfold c_fF
  by_cases q : b.toInt = -1
  · rw [if_pos q, decide_eq_false (fun w => w q)]
    exact c_fb0 h0 h1 ho o10
  · rw [if_neg q, decide_eq_true q]
    exact c_fb1 h0 h1 ho o10
theorem c_fG_b {F a b : Int32} {o : Nat} (h0 : 0 ≤ F.toInt) (h1 : F.toInt < 1024) (ho : a.toInt = o) (o10 : o < 10) : c_fb F (c_fG F a b) o (decide (b.toInt = 1)) := by
  unfold c_fG
  by_cases q : b.toInt = 1
  · rw [if_pos q, decide_eq_true q]
    exact c_fb1 h0 h1 ho o10
  · rw [if_neg q, decide_eq_false q]
    exact c_fb0 h0 h1 ho o10
theorem c_fb_hi {F' : Int32} {k : Nat} (h : 0 ≤ F'.toInt ∧ F'.toInt < 1024) (hk : 10 ≤ k) : F'.toInt.toNat.testBit k = false := Nat.testBit_lt_two_pow (Nat.lt_of_lt_of_le (show F'.toInt.toNat < 2 ^ 10 by omega) (Nat.pow_le_pow_right (by decide) hk))
theorem c_fb_u {F A B : Int32} {o : Nat} {p : Bool} (ha : c_fb F A o p) (hb : c_fb F B o p) : A = B := by
  have e : A.toInt.toNat = B.toInt.toNat := Nat.eq_of_testBit_eq (fun k => by
    by_cases q : k < 10
    · rw [ha.2 k q, hb.2 k q]
    · rw [c_fb_hi ha.1 (by omega), c_fb_hi hb.1 (by omega)])
  have h1 := ha.1
  have h2 := hb.1
  exact Int32.toInt_inj.mp (by omega)
section NFO
variable {X : aX} {C S d : Nat} {K0 : Option Value → aH → Nat → Nat → Prop}
theorem c_forceTo {h : aH} (hr : w_hr z_D h) {a b F G : Int32} {o : Nat} (g1 : w_f h 136 = some (.int F)) (g2 : w_f h 137 = some (.int G)) (f0 : 0 ≤ F.toInt ∧ F.toInt < 1024) (k0 : 0 ≤ G.toInt ∧ G.toInt < 1024) (ho : a.toInt = o) (o10 : o < 10) (hk : ∀ (H : aH) (F' G' : Int32), y_fr h H [136, 137, 143] [] → w_f H 136 = some (.int F') → w_f H 137 = some (.int G') → w_f H 143 = some (.int (Int32.ofInt 0)) → c_fb F F' o (decide (b.toInt ≠ -1)) → c_fb G G' o (decide (b.toInt = 1)) → K0 none H C S) : aOK s_P X d a_m23 0 [some (.ref 3), some (.int a), some (.int b), none] [] h C S K0 := by
  have T53 : ∀ {J : aH} {F' y : Int32}, y_fr h J [136] [] → w_f J 136 = some (.int F') → c_fb F F' o (decide (b.toInt ≠ -1)) → c_fb G y o (decide (b.toInt = 1)) → aOK s_P X d a_m23 53 [some (.ref 3), some (.int a), some (.int b), some (.int (Int32.ofInt 1 <<< (a &&& 31)))] [.int y, .ref 3] J C S K0 := by
    intro J F' y e u1 c1 c2
    have b2 := c2.1
    refine w_go z_hl [] [] 40 e.1 ?_
    refine ⟨rfl, y_zini b2.1 (by show y.toInt ≤ 1023; omega), ⟨rfl, y_zini (by decide) (by decide), fun H hH => ?_⟩⟩
    have f : y_fr J H [137, 143] [] := y_st (y_mo (y_rf e.1) rfl rfl) hH (by repeat (first | exact w_nil | refine w_cons (Or.inl (y_m rfl)) ?_ | refine w_cons (Or.inr (by assumption)) ?_)) (by repeat (first | exact w_nil | refine w_cons (Or.inl (y_m rfl)) ?_ | refine w_cons (Or.inr (by assumption)) ?_))
    exact hk H F' y (y_sq (y_mo e rfl rfl) f rfl rfl) ((y_fe f rfl).trans u1) (hH.2.1 137 _ rfl) (hH.2.1 143 _ rfl) c1 c2
  have T27 : ∀ {J : aH} {x : Int32}, y_fr h J [] [] → c_fb F x o (decide (b.toInt ≠ -1)) → aOK s_P X d a_m23 27 [some (.ref 3), some (.int a), some (.int b), some (.int (Int32.ofInt 1 <<< (a &&& 31)))] [.int x, .ref 3] J C S K0 := by
    intro J x e c1
    have b1 := c1.1
    refine w_go z_hl [53] [] 40 e.1 ?_
    refine ⟨rfl, y_zini b1.1 (by show x.toInt ≤ 1023; omega), ⟨fun q => ?_, fun q => ?_⟩⟩
    · have z : b.toInt ≠ (Int32.ofInt 1).toInt := (y_ci .ne _ _).mp q
      have z2 : b.toInt ≠ 1 := z
      intro y hy _ _
      obtain rfl := y_fi ((y_fe e rfl).trans g2) hy
      intro H hH
      have f : y_fr J H [136] [] := y_st (y_mo (y_rf e.1) rfl rfl) hH (by repeat (first | exact w_nil | refine w_cons (Or.inl (y_m rfl)) ?_ | refine w_cons (Or.inr (by assumption)) ?_)) (by repeat (first | exact w_nil | refine w_cons (Or.inl (y_m rfl)) ?_ | refine w_cons (Or.inr (by assumption)) ?_))
      refine T53 (y_sq (y_mo e rfl rfl) f rfl rfl) (hH.2.1 136 _ rfl) c1 ?_
      rw [decide_eq_false z2]
      exact c_fb0 k0.1 k0.2 ho o10
    · have z : ¬ (b.toInt ≠ (Int32.ofInt 1).toInt) := y_cif q
      have z2 : b.toInt = 1 := Decidable.not_not.mp z
      intro y hy _ _
      obtain rfl := y_fi ((y_fe e rfl).trans g2) hy
      intro H hH
      have f : y_fr J H [136] [] := y_st (y_mo (y_rf e.1) rfl rfl) hH (by repeat (first | exact w_nil | refine w_cons (Or.inl (y_m rfl)) ?_ | refine w_cons (Or.inr (by assumption)) ?_)) (by repeat (first | exact w_nil | refine w_cons (Or.inl (y_m rfl)) ?_ | refine w_cons (Or.inr (by assumption)) ?_))
      refine T53 (y_sq (y_mo e rfl rfl) f rfl rfl) (hH.2.1 136 _ rfl) c1 ?_
      rw [decide_eq_true z2]
      exact c_fb1 k0.1 k0.2 ho o10
  refine w_go z_hl [27] [] 40 hr ?_
  refine ⟨fun q => ?_, fun q => ?_⟩
  · have z : b.toInt ≠ (Int32.ofInt (-1)).toInt := (y_ci .ne _ _).mp q
    have z2 : b.toInt ≠ -1 := z
    intro x hx _ _
    obtain rfl := y_fi g1 hx
    intro H hH
    refine T27 (y_st (y_rf hr) hH (by repeat (first | exact w_nil | refine w_cons (Or.inl (y_m rfl)) ?_ | refine w_cons (Or.inr (by assumption)) ?_)) (by repeat (first | exact w_nil | refine w_cons (Or.inl (y_m rfl)) ?_ | refine w_cons (Or.inr (by assumption)) ?_))) ?_
    rw [decide_eq_true z2]
    exact c_fb1 f0.1 f0.2 ho o10
  · have z : ¬ (b.toInt ≠ (Int32.ofInt (-1)).toInt) := y_cif q
    have z2 : b.toInt = -1 := Decidable.not_not.mp z
    intro x hx _ _
    obtain rfl := y_fi g1 hx
    intro H hH
    refine T27 (y_st (y_rf hr) hH (by repeat (first | exact w_nil | refine w_cons (Or.inl (y_m rfl)) ?_ | refine w_cons (Or.inr (by assumption)) ?_)) (by repeat (first | exact w_nil | refine w_cons (Or.inl (y_m rfl)) ?_ | refine w_cons (Or.inr (by assumption)) ?_))) ?_
    rw [decide_eq_false (fun w => w z2)]
    exact c_fb0 f0.1 f0.2 ho o10
theorem c_force {h : aH} (hr : w_hr z_D h) {a b nd F G : Int32} (g0 : w_f h 128 = some (.int nd)) (n10 : nd.toInt ≤ 10) (g1 : w_f h 136 = some (.int F)) (g2 : w_f h 137 = some (.int G)) (f0 : 0 ≤ F.toInt ∧ F.toInt < 1024) (k0 : 0 ≤ G.toInt ∧ G.toInt < 1024) (yes : n_fsV a b nd → ∀ (H : aH) (F' G' : Int32), y_fr h H [136, 137, 143] [] → w_f H 136 = some (.int F') → w_f H 137 = some (.int G') → w_f H 143 = some (.int (Int32.ofInt 0)) → c_fb F F' a.toInt.toNat (decide (b.toInt ≠ -1)) → c_fb G G' a.toInt.toNat (decide (b.toInt = 1)) → K0 (some (.int (Int32.ofInt 1))) H C S) (no : ¬ n_fsV a b nd → ∀ H, y_fr h H [] [] → K0 (some (.int (Int32.ofInt 0))) H C S) : aOK s_P X (d + 1) a_m21 0 [some (.ref 2), some (.int a), some (.int b)] [] h C S K0 := by
  have T29 : ∀ {J : aH} {F' G' : Int32}, n_fsV a b nd → y_fr h J [136, 137, 143] [] → w_f J 136 = some (.int F') → w_f J 137 = some (.int G') → w_f J 143 = some (.int (Int32.ofInt 0)) → c_fb F F' a.toInt.toNat (decide (b.toInt ≠ -1)) → c_fb G G' a.toInt.toNat (decide (b.toInt = 1)) → aOK s_P X (d + 1) a_m21 29 [some (.ref 2), some (.int a), some (.int b)] [] J C S K0 := by
    intro J F' G' v e u1 u2 u3 c1 c2
    refine w_go z_hl [] [] 30 e.1 ?_
    refine ⟨by decide, fun H hH => ?_⟩
    have f : y_fr J H [] [] := y_st (y_rf e.1) hH (by repeat (first | exact w_nil | refine w_cons (Or.inl (y_m rfl)) ?_ | refine w_cons (Or.inr (by assumption)) ?_)) (by repeat (first | exact w_nil | refine w_cons (Or.inl (y_m rfl)) ?_ | refine w_cons (Or.inr (by assumption)) ?_))
    exact yes v H F' G' (y_sq e f rfl rfl) ((y_fe f rfl).trans u1) ((y_fe f rfl).trans u2) ((y_fe f rfl).trans u3) c1 c2
  have T20 : ∀ {J : aH}, n_fsV a b nd → y_fr h J [] [] → aOK s_P X (d + 1) a_m21 20 [some (.ref 2), some (.int a), some (.int b)] [] J C S K0 := by
    intro J v e
    refine w_go z_hl [] [23] 30 e.1 ?_
    intro H hH
    have e2 : y_fr h H [] [] := y_st e hH (by repeat (first | exact w_nil | refine w_cons (Or.inl (y_m rfl)) ?_ | refine w_cons (Or.inr (by assumption)) ?_)) (by repeat (first | exact w_nil | refine w_cons (Or.inl (y_m rfl)) ?_ | refine w_cons (Or.inr (by assumption)) ?_))
    have v1 := v.1
    have v2 := v.2.1
    refine c_forceTo (o := a.toInt.toNat) e2.1 ((y_fe e2 rfl).trans g1) ((y_fe e2 rfl).trans g2) f0 k0 (by omega) (by omega) (fun H3 F' G' h3 u1 u2 u3 c1 c2 => ⟨fun n e => (by cases e), ?_⟩)
    exact T29 v (y_sq (y_mo e2 rfl rfl) h3 rfl rfl) u1 u2 u3 c1 c2
  have T8 : ∀ {J : aH}, 0 ≤ a.toInt → a.toInt < nd.toInt → y_fr h J [] [] → aOK s_P X (d + 1) a_m21 8 [some (.ref 2), some (.int a), some (.int b)] [.int (y_01 true)] J C S K0 := by
    intro J v1 v2 e
    refine w_go z_hl [20] [] 60 e.1 ?_
    refine ⟨fun q => absurd q (by decide), fun _ => ⟨fun q => ⟨by decide, ⟨fun q3 => absurd q3 (by decide), fun _ => ⟨by decide, fun H hH => ?_⟩⟩⟩, fun q => ⟨fun q2 => ⟨by decide, ⟨fun q3 => absurd q3 (by decide), fun _ => ⟨by decide, fun H hH => ?_⟩⟩⟩, fun q2 => ⟨by decide, ⟨fun _ => fun H hH => ?_, fun q3 => absurd q3 (by decide)⟩⟩⟩⟩⟩
    · have z : b.toInt < (Int32.ofInt (-1)).toInt := (y_ci .lt _ _).mp q
      have z2 : b.toInt < -1 := z
      exact no (fun w => by have := w.2.2.1; omega) H (y_st e hH (by repeat (first | exact w_nil | refine w_cons (Or.inl (y_m rfl)) ?_ | refine w_cons (Or.inr (by assumption)) ?_)) (by repeat (first | exact w_nil | refine w_cons (Or.inl (y_m rfl)) ?_ | refine w_cons (Or.inr (by assumption)) ?_)))
    · have z : (Int32.ofInt 1).toInt < b.toInt := (y_ci .gt _ _).mp q2
      have z2 : 1 < b.toInt := z
      exact no (fun w => by have := w.2.2.2; omega) H (y_st e hH (by repeat (first | exact w_nil | refine w_cons (Or.inl (y_m rfl)) ?_ | refine w_cons (Or.inr (by assumption)) ?_)) (by repeat (first | exact w_nil | refine w_cons (Or.inl (y_m rfl)) ?_ | refine w_cons (Or.inr (by assumption)) ?_)))
    · have z : ¬ (b.toInt < (Int32.ofInt (-1)).toInt) := y_cif q
      have z2 : ¬ (b.toInt < -1) := z
      have z3 : ¬ ((Int32.ofInt 1).toInt < b.toInt) := y_cif q2
      have z4 : ¬ (1 < b.toInt) := z3
      exact T20 ⟨v1, v2, by omega, by omega⟩ (y_st e hH (by repeat (first | exact w_nil | refine w_cons (Or.inl (y_m rfl)) ?_ | refine w_cons (Or.inr (by assumption)) ?_)) (by repeat (first | exact w_nil | refine w_cons (Or.inl (y_m rfl)) ?_ | refine w_cons (Or.inr (by assumption)) ?_)))
  have T8n : ∀ {J : aH}, ¬ (0 ≤ a.toInt ∧ a.toInt < nd.toInt) → y_fr h J [] [] → aOK s_P X (d + 1) a_m21 8 [some (.ref 2), some (.int a), some (.int b)] [.int (y_01 false)] J C S K0 := by
    intro J nv e
    refine w_go z_hl [] [] 40 e.1 ?_
    exact ⟨fun _ => ⟨by decide, fun H hH => no (fun w => nv ⟨w.1, w.2.1⟩) H (y_st e hH (by repeat (first | exact w_nil | refine w_cons (Or.inl (y_m rfl)) ?_ | refine w_cons (Or.inr (by assumption)) ?_)) (by repeat (first | exact w_nil | refine w_cons (Or.inl (y_m rfl)) ?_ | refine w_cons (Or.inr (by assumption)) ?_)))⟩, fun q => absurd q (by decide)⟩
  refine w_go z_hl [] [19] 30 hr ?_
  intro H hH
  have e : y_fr h H [] [] := y_st (y_rf hr) hH (by repeat (first | exact w_nil | refine w_cons (Or.inl (y_m rfl)) ?_ | refine w_cons (Or.inr (by assumption)) ?_)) (by repeat (first | exact w_nil | refine w_cons (Or.inl (y_m rfl)) ?_ | refine w_cons (Or.inr (by assumption)) ?_))
  refine c_hasN (v := a) e.1 ((y_fe e rfl).trans g0) (fun v1 v2 H2 h2 => ⟨fun n e => (by cases e), ?_⟩) (fun nv H2 h2 => ⟨fun n e => (by cases e), ?_⟩)
  · exact T8 v1 v2 (y_sq e h2 rfl rfl)
  · exact T8n nv (y_sq e h2 rfl rfl)
theorem f_force10 {h : aH} (hr : w_hr z_D h) (hJ : y_J h) {a b X0 : Int32} (g0 : w_f h 19591 = some (.int X0)) {fo : List Int32} (b9 : w_a h 159 = some (0, .inl fo)) (yes : n_fsV a b X0 → ∀ (H : aH), y_fr h H [19584] [159] → w_a H 159 = some (0, .inl (fo.set a.toInt.toNat b)) → K0 (some (.int (Int32.ofInt 1))) H C S) (no : ¬ n_fsV a b X0 → ∀ (H : aH), y_fr h H [19584] [] → K0 (some (.int (Int32.ofInt 0))) H C S) : aOK s_P X (d + 2) a_m180 0 [some (.ref 155), some (.int a), some (.int b)] [] h C S K0 := by
  obtain ⟨nd, sm, so, sa, s1, s2, s3, s4, s5⟩ := id hJ.2.2.2.2.1
  have hX : nd = X0 := y_fi s1 g0
  subst hX
  obtain ⟨b1, b2⟩ := y_ndb hr s1
  have T22 : ∀ {G : aH} {v : Nat}, y_fr h G [19584] [] → a.toInt = v → (v : Int) < nd.toInt → -1 ≤ b.toInt → b.toInt ≤ 1 → aOK s_P X (d + 2) a_m180 22 [some (.ref 155), some (.int a), some (.int b)] [.int (y_01 true)] G C S K0 := by
    intro G v e hv v10 c1 c2
    refine w_go z_hl [] [] 30 e.1 ?_
    refine ⟨fun _ => ⟨⟨by omega, by omega⟩, ⟨by omega, by omega⟩, fun l hl len bb => ⟨by decide, fun H hH => yes ⟨by omega, by omega, c1, c2⟩ H (y_st (y_mo e rfl rfl) hH (by repeat (first | exact w_nil | refine w_cons (Or.inl (y_m rfl)) ?_ | refine w_cons (Or.inr (by assumption)) ?_)) (by repeat (first | exact w_nil | refine w_cons (Or.inl (y_m rfl)) ?_ | refine w_cons (Or.inr (by assumption)) ?_))) (by obtain rfl := y_ai ((y_ae e rfl).trans b9) hl; exact hH.2.2.1 159 _ rfl)⟩⟩, fun q => absurd q (by decide)⟩
  have T22n : ∀ {G : aH}, ¬ n_fsV a b nd → y_fr h G [19584] [] → aOK s_P X (d + 2) a_m180 22 [some (.ref 155), some (.int a), some (.int b)] [.int (y_01 false)] G C S K0 := by
    intro G nv e
    refine w_go z_hl [] [] 30 e.1 ?_
    exact ⟨fun q => absurd q (by decide), fun _ => ⟨by decide, fun H hH => no nv H (y_st e hH (by repeat (first | exact w_nil | refine w_cons (Or.inl (y_m rfl)) ?_ | refine w_cons (Or.inr (by assumption)) ?_)) (by repeat (first | exact w_nil | refine w_cons (Or.inl (y_m rfl)) ?_ | refine w_cons (Or.inr (by assumption)) ?_)))⟩⟩
  have T10 : ∀ {G : aH} {v : Nat}, y_fr h G [19584] [] → a.toInt = v → (v : Int) < nd.toInt → aOK s_P X (d + 2) a_m180 10 [some (.ref 155), some (.int a), some (.int b)] [.int (y_01 true)] G C S K0 := by
    intro G v e hv v10
    refine w_go z_hl [] [176] 30 e.1 ?_
    refine ⟨fun q => absurd q (by decide), fun _ => fun H hH => ?_⟩
    have e2 := y_st e hH (by repeat (first | exact w_nil | refine w_cons (Or.inl (y_m rfl)) ?_ | refine w_cons (Or.inr (by assumption)) ?_)) (by repeat (first | exact w_nil | refine w_cons (Or.inl (y_m rfl)) ?_ | refine w_cons (Or.inr (by assumption)) ?_))
    refine q_in (v := b.toInt64) (lo := Int64.ofInt (-1)) (hi := Int64.ofNat 1) e2.1 (fun H3 h3 l1 l2 => ⟨fun n e => (by cases e), ?_⟩) (fun H3 h3 l => ⟨fun n e => (by cases e), ?_⟩)
    · rw [y_i2l] at l1 l2
      exact T22 (y_sq e2 h3 rfl rfl) hv v10 l1 l2
    · exact T22n (fun w => l (by rw [y_i2l]; exact w.2.2.1) (by rw [y_i2l]; exact w.2.2.2)) (y_sq e2 h3 rfl rfl)
  have T10n : ∀ {G : aH}, ¬ n_fsV a b nd → y_fr h G [19584] [] → aOK s_P X (d + 2) a_m180 10 [some (.ref 155), some (.int a), some (.int b)] [.int (y_01 false)] G C S K0 := by
    intro G nv e
    refine w_go z_hl [] [] 30 e.1 ?_
    exact ⟨fun _ => ⟨by decide, fun H hH => no nv H (y_st e hH (by repeat (first | exact w_nil | refine w_cons (Or.inl (y_m rfl)) ?_ | refine w_cons (Or.inr (by assumption)) ?_)) (by repeat (first | exact w_nil | refine w_cons (Or.inl (y_m rfl)) ?_ | refine w_cons (Or.inr (by assumption)) ?_)))⟩, fun q => absurd q (by decide)⟩
  refine w_go z_hl [] [178] 30 hr ?_
  refine ⟨rfl, y_zini (by decide) (by decide), fun H1 h1 => ?_⟩
  have e1 : y_fr h H1 [19584] [] := y_st (y_mo (y_rf hr) rfl rfl) h1 (by repeat (first | exact w_nil | refine w_cons (Or.inl (y_m rfl)) ?_ | refine w_cons (Or.inr (by assumption)) ?_)) (by repeat (first | exact w_nil | refine w_cons (Or.inl (y_m rfl)) ?_ | refine w_cons (Or.inr (by assumption)) ?_))
  refine q_isNode2 (v := a) e1.1 ((y_fe e1 rfl).trans s1) (fun H2 v h2 hv hv2 _ => ⟨fun n e => (by cases e), ?_⟩) (fun H2 h2 nn => ⟨fun n e => (by cases e), ?_⟩)
  · exact T10 (y_sq e1 h2 rfl rfl) hv hv2
  · exact T10n (fun w => nn ⟨w.1, w.2.1⟩) (y_sq e1 h2 rfl rfl)
end NFO
end PT33h9
section PT33ha
/-! ===== v10: sums over the ways that have given bits (laid by wip/tools/mk10g.py) ===== -/
theorem c_and {x y : Int32} {n m : Nat} (hx : x.toInt = n) (hy : y.toInt = m) : (x &&& y).toInt = ((n &&& m : Nat) : Int) := by
  obtain ⟨h1, h2⟩ := z_nat (x := x) (by omega)
  obtain ⟨g1, g2⟩ := z_nat (x := y) (by omega)
  have e1 : x.toBitVec.toNat = n := by omega
  have e2 : y.toBitVec.toNat = m := by omega
  have h3 : (x &&& y).toBitVec.toNat = n &&& m := by
    show (x.toBitVec &&& y.toBitVec).toNat = _
    rw [BitVec.toNat_and, e1, e2]
  have h4 : n &&& m ≤ m := Nat.and_le_right
  exact z_ofnat h3 (by omega)
theorem c_orN {x y : Int32} {n m : Nat} (hx : x.toInt = n) (hy : y.toInt = m) (n10 : n < 1024) (m10 : m < 1024) : (x ||| y).toInt = ((n ||| m : Nat) : Int) ∧ n ||| m < 1024 := by
  obtain ⟨h1, h2⟩ := z_nat (x := x) (by omega)
  obtain ⟨g1, g2⟩ := z_nat (x := y) (by omega)
  have e1 : x.toBitVec.toNat = n := by omega
  have e2 : y.toBitVec.toNat = m := by omega
  have h3 : (x ||| y).toBitVec.toNat = n ||| m := by
    show (x.toBitVec ||| y.toBitVec).toNat = _
    rw [BitVec.toNat_or, e1, e2]
  have h4 : n ||| m < 2 ^ 10 := Nat.or_lt_two_pow (by omega) (by omega)
  exact ⟨z_ofnat h3 (by omega), h4⟩
/-- the next sub-mask, as the class works it -/
def c_nx (r p : Nat) : Nat := (4294967296 - r + p) % 4294967296 &&& r
theorem c_nxI {x y : Int32} {p r : Nat} (hx : x.toInt = p) (hy : y.toInt = r) (r10 : r < 1024) : ((x - y) &&& y).toInt = (c_nx r p : Int) := by
  obtain ⟨h1, h2⟩ := z_nat (x := x) (by omega)
  obtain ⟨g1, g2⟩ := z_nat (x := y) (by omega)
  have e1 : x.toBitVec.toNat = p := by omega
  have e2 : y.toBitVec.toNat = r := by omega
  have h3 : ((x - y) &&& y).toBitVec.toNat = c_nx r p := by
    show ((x.toBitVec - y.toBitVec) &&& y.toBitVec).toNat = _
    rw [BitVec.toNat_and, BitVec.toNat_sub, e1, e2]
    rfl
  have h4 : c_nx r p ≤ r := Nat.and_le_right
  exact z_ofnat h3 (by omega)
/-- all sub-masks of the first k bits, in their order -/
def c_sub (r : Nat) : Nat → List Nat
  | 0 => [0]
  | k + 1 => if r.testBit k then c_sub r k ++ (c_sub r k).map (fun p => 2 ^ k ||| p) else c_sub r k
def c_chain (r : Nat) : List Nat → Bool
  | a :: b :: l => Nat.beq (c_nx r a) b && c_chain r (b :: l)
  | _ => true
set_option maxRecDepth 100000 in
theorem c_chain0 : (List.range 1024).all (fun r => c_chain r (c_sub r 10)) = true := by decide +kernel
theorem c_sub_len {r : Nat} : ∀ (k : Nat), (c_sub r k).length = 2 ^ y_pl r k := by
  intro k
  induction k with
  | zero => rfl
  | succ k ih =>
    unfold c_sub
    cases hb : r.testBit k with
    | true =>
      rw [if_pos rfl, List.length_append, List.length_map, ih, c_pl1 hb, Nat.pow_succ]
      omega
    | false =>
      rw [if_neg (by decide), ih, c_pl0 hb]
theorem c_sub_hd {r : Nat} : ∀ (k : Nat), ∃ l, c_sub r k = 0 :: l := by
  intro k
  induction k with
  | zero => exact ⟨[], rfl⟩
  | succ k ih =>
    obtain ⟨l, e⟩ := ih
    unfold c_sub
    split
    · rw [e]
      exact ⟨_, rfl⟩
    · exact ⟨l, e⟩
theorem c_sub_lt {r : Nat} : ∀ (k : Nat), ∀ p ∈ c_sub r k, p < 2 ^ k := by
  intro k
  induction k with
  | zero =>
    intro p hp
    rw [List.mem_singleton.mp hp]
    decide
  | succ k ih =>
    intro p hp
    unfold c_sub at hp
    have h2 : 2 ^ k < 2 ^ (k + 1) := Nat.pow_lt_pow_right (by decide) (by omega)
    split at hp
    · rcases List.mem_append.mp hp with q | q
      · have := ih p q
        omega
      · obtain ⟨p', h1, rfl⟩ := List.mem_map.mp q
        have := ih p' h1
        exact Nat.or_lt_two_pow h2 (by omega)
    · have := ih p hp
      omega
def c_ls (f : Nat → Int) : List Nat → Int
  | [] => 0
  | p :: l => f p + c_ls f l
theorem c_ls_app {f : Nat → Int} : ∀ {l l' : List Nat}, c_ls f (l ++ l') = c_ls f l + c_ls f l'
  | [], l' => by show c_ls f l' = 0 + _; omega
  | p :: l, l' => by
    show f p + c_ls f (l ++ l') = f p + c_ls f l + _
    rw [c_ls_app]
    omega
theorem c_ls_map {f : Nat → Int} {g : Nat → Nat} : ∀ {l : List Nat}, c_ls f (l.map g) = c_ls (fun p => f (g p)) l
  | [] => rfl
  | p :: l => by
    show f (g p) + c_ls f (l.map g) = _
    rw [c_ls_map]
    rfl
theorem c_ls_c {f g : Nat → Int} : ∀ {l : List Nat}, (∀ p ∈ l, f p = g p) → c_ls f l = c_ls g l
  | [], _ => rfl
  | p :: l, h => by
    show f p + c_ls f l = g p + c_ls g l
    rw [h p List.mem_cons_self, c_ls_c (fun q hq => h q (List.mem_cons_of_mem _ hq))]
theorem c_ls_0 {f : Nat → Int} (h0 : ∀ p, 0 ≤ f p) : ∀ {l : List Nat}, 0 ≤ c_ls f l
  | [] => Int.le_refl 0
  | p :: l => by
    have := h0 p
    have := c_ls_0 h0 (l := l)
    show 0 ≤ f p + c_ls f l
    omega
/-- the sum over all ways of k bits that have the bits b in the mask m -/
def c_S (m b : Nat) (f : Nat → Int) : Nat → Nat → Int
  | 0, q => f q
  | k + 1, q => if m.testBit k then c_S m b f k (q ||| if b.testBit k then 2 ^ k else 0) else c_S m b f k q + c_S m b f k (q ||| 2 ^ k)
/-- the bits b in the mask m -/
def c_bl (m b : Nat) : Nat → Nat
  | 0 => 0
  | k + 1 => c_bl m b k ||| if m.testBit k then (if b.testBit k then 2 ^ k else 0) else 0
theorem c_bl_t {m b : Nat} : ∀ (k j : Nat), (c_bl m b k).testBit j = (decide (j < k) && (m.testBit j && b.testBit j)) := by
  intro k
  induction k with
  | zero =>
    intro j
    show Nat.testBit 0 j = _
    rw [Nat.zero_testBit, decide_eq_false (Nat.not_lt_zero j)]
    rfl
  | succ k ih =>
    intro j
    show (c_bl m b k ||| _).testBit j = _
    rw [Nat.testBit_or, ih j]
    by_cases q : j = k
    · subst q
      rw [decide_eq_false (Nat.lt_irrefl j), decide_eq_true (Nat.lt_succ_self j)]
      cases hm : m.testBit j with
      | false => rw [if_neg (by decide), Nat.zero_testBit]; rfl
      | true =>
        cases hb : b.testBit j with
        | false => rw [if_pos rfl, if_neg (by decide), Nat.zero_testBit]; rfl
        | true => rw [if_pos rfl, if_pos rfl, Nat.testBit_two_pow_self]; rfl
    · have e : (if m.testBit k then (if b.testBit k then 2 ^ k else 0) else 0).testBit j = false := by
        split
        · split
          · rw [Nat.testBit_two_pow]
            exact decide_eq_false (fun w => q w.symm)
          · exact Nat.zero_testBit j
        · exact Nat.zero_testBit j
      rw [e, Bool.or_false]
      by_cases z : j < k
      · rw [decide_eq_true z, decide_eq_true (show j < k + 1 by omega)]
      · rw [decide_eq_false z, decide_eq_false (show ¬ j < k + 1 by omega)]
theorem c_bl_e {m b n : Nat} (hb : b < 2 ^ n) (hs : ∀ j, b.testBit j = true → m.testBit j = true) : c_bl m b n = b := Nat.eq_of_testBit_eq (fun j => by
  rw [c_bl_t]
  cases hj : b.testBit j with
  | true =>
    rw [hs j hj]
    have : j < n := by
      by_cases q : j < n
      · exact q
      · have h2 : b < 2 ^ j := Nat.lt_of_lt_of_le hb (Nat.pow_le_pow_right (by decide) (by omega))
        rw [Nat.testBit_lt_two_pow h2] at hj
        cases hj
    rw [decide_eq_true this]
    rfl
  | false => rw [Bool.and_false, Bool.and_false])
theorem c_or_a (c e p q : Nat) : c ||| e ||| p ||| q = c ||| p ||| (q ||| e) := Nat.eq_of_testBit_eq (fun j => by
  simp only [Nat.testBit_or]
  cases c.testBit j <;> cases e.testBit j <;> cases p.testBit j <;> cases q.testBit j <;> rfl)
theorem c_or_b (c e p q : Nat) : c ||| (e ||| p) ||| q = c ||| p ||| (q ||| e) := Nat.eq_of_testBit_eq (fun j => by
  simp only [Nat.testBit_or]
  cases c.testBit j <;> cases e.testBit j <;> cases p.testBit j <;> cases q.testBit j <;> rfl)
theorem c_sub_S {m b r : Nat} {f : Nat → Int} : ∀ (k : Nat), (∀ j, j < k → r.testBit j = !m.testBit j) → ∀ q, c_ls (fun p => f (c_bl m b k ||| p ||| q)) (c_sub r k) = c_S m b f k q := by
  intro k
  induction k with
  | zero =>
    intro _ q
    show f (0 ||| 0 ||| q) + 0 = f q
    rw [Nat.zero_or, Nat.zero_or]
    omega
  | succ k ih =>
    intro hr q
    have hk := hr k (by omega)
    have ih := ih (fun j hj => hr j (by omega))
    cases hm : m.testBit k with
    | true =>
      rw [hm] at hk
      have e1 : c_sub r (k + 1) = c_sub r k := by
        show (if r.testBit k then _ else _) = _
        rw [hk]
        rfl
      have e2 : c_S m b f (k + 1) q = c_S m b f k (q ||| if b.testBit k then 2 ^ k else 0) := by
        show (if m.testBit k then _ else _) = _
        rw [hm]
        rfl
      have e3 : c_bl m b (k + 1) = c_bl m b k ||| if b.testBit k then 2 ^ k else 0 := by
        show (c_bl m b k ||| if m.testBit k then _ else _) = _
        rw [hm]
        rfl
      rw [e1, e2, ← ih, e3]
      refine c_ls_c (fun p _ => ?_)
      exact congrArg f (c_or_a _ _ p q)
    | false =>
      rw [hm] at hk
      have e1 : c_sub r (k + 1) = c_sub r k ++ (c_sub r k).map (fun p => 2 ^ k ||| p) := by
        show (if r.testBit k then _ else _) = _
        rw [hk]
        rfl
      have e2 : c_S m b f (k + 1) q = c_S m b f k q + c_S m b f k (q ||| 2 ^ k) := by
        show (if m.testBit k then _ else _) = _
        rw [hm]
        rfl
      have e3 : c_bl m b (k + 1) = c_bl m b k := by
        show (c_bl m b k ||| if m.testBit k then _ else _) = _
        rw [hm]
        exact Nat.or_zero _
      rw [e1, e2, ← ih, ← ih, e3, c_ls_app, c_ls_map]
      congr 1
      refine c_ls_c (fun p _ => ?_)
      exact congrArg f (c_or_b _ _ p q)
/-- which ways those are -/
def c_P (m b : Nat) : Nat → Nat → Bool
  | 0, _ => true
  | k + 1, w => c_P m b k w && (!m.testBit k || (w.testBit k == b.testBit k))
theorem c_P_iff {m b w : Nat} : ∀ {k : Nat}, c_P m b k w = true ↔ ∀ j, j < k → m.testBit j = true → w.testBit j = b.testBit j := by
  intro k
  induction k with
  | zero => exact ⟨fun _ j hj => absurd hj (Nat.not_lt_zero j), fun _ => rfl⟩
  | succ k ih =>
    show (c_P m b k w && (!m.testBit k || (w.testBit k == b.testBit k))) = true ↔ _
    rw [Bool.and_eq_true, Bool.or_eq_true, Bool.not_eq_true', beq_iff_eq, ih]
    constructor
    · intro h j hj hm
      by_cases q : j = k
      · subst q
        rcases h.2 with z | z
        · rw [hm] at z
          cases z
        · exact z
      · exact h.1 j (by omega) hm
    · intro h
      refine ⟨fun j hj hm => h j (by omega) hm, ?_⟩
      cases hm : m.testBit k with
      | false => exact Or.inl rfl
      | true => exact Or.inr (h k (by omega) hm)
theorem c_yS_add {f : Nat → Int} {a : Nat} : ∀ (b : Nat), y_S f (a + b) = y_S f a + y_S (fun i => f (a + i)) b
  | 0 => by show y_S f a = y_S f a + 0; omega
  | b + 1 => by
    show y_S f (a + b) + f (a + b) = y_S f a + (y_S (fun i => f (a + i)) b + f (a + b))
    rw [c_yS_add b]
    omega
theorem c_yS_c {f g : Nat → Int} : ∀ {n : Nat}, (∀ i, i < n → f i = g i) → y_S f n = y_S g n
  | 0, _ => rfl
  | n + 1, h => by
    show y_S f n + f n = y_S g n + g n
    rw [c_yS_c (fun i hi => h i (by omega)), h n (by omega)]
theorem c_yS_0 : ∀ (n : Nat), y_S (fun _ => 0) n = 0
  | 0 => rfl
  | n + 1 => by show y_S (fun _ => 0) n + 0 = 0; rw [c_yS_0 n]; rfl
theorem c_yS_le {f g : Nat → Int} : ∀ {n : Nat}, (∀ i, i < n → f i ≤ g i) → y_S f n ≤ y_S g n
  | 0, _ => Int.le_refl _
  | n + 1, h => by
    have h1 := c_yS_le (n := n) (fun i hi => h i (by omega))
    have h2 := h n (by omega)
    show y_S f n + f n ≤ y_S g n + g n
    omega
theorem c_S_P {m b : Nat} {f : Nat → Int} : ∀ (k q : Nat), y_S (fun w => if c_P m b k w then f (q ||| w) else 0) (2 ^ k) = c_S m b f k q := by
  intro k
  induction k with
  | zero =>
    intro q
    show 0 + f (q ||| 0) = f q
    rw [Nat.or_zero]
    omega
  | succ k ih =>
    intro q
    rw [Nat.pow_succ, Nat.mul_two, c_yS_add]
    have lo : ∀ w, w < 2 ^ k → w.testBit k = false := fun w hw => Nat.testBit_lt_two_pow hw
    have hi : ∀ w, w < 2 ^ k → (2 ^ k + w).testBit k = true := fun w hw => by
      rw [Nat.testBit_two_pow_add_eq, lo w hw]
      rfl
    have hp : ∀ w, w < 2 ^ k → c_P m b k (2 ^ k + w) = c_P m b k w := fun w hw => by
      have : c_P m b k (2 ^ k + w) = true ↔ c_P m b k w = true := by
        rw [c_P_iff, c_P_iff]
        constructor
        · intro h j hj hm
          rw [← Nat.testBit_two_pow_add_gt hj w]
          exact h j hj hm
        · intro h j hj hm
          rw [Nat.testBit_two_pow_add_gt hj w]
          exact h j hj hm
      exact Bool.eq_iff_iff.mpr this
    have ho : ∀ w, w < 2 ^ k → q ||| (2 ^ k + w) = (q ||| 2 ^ k) ||| w := fun w hw => by
      have h1 := Nat.two_pow_add_eq_or_of_lt hw 1
      rw [Nat.mul_one] at h1
      rw [Nat.or_assoc, h1]
    have s1 : c_S m b f (k + 1) q = if m.testBit k then c_S m b f k (q ||| if b.testBit k then 2 ^ k else 0) else c_S m b f k q + c_S m b f k (q ||| 2 ^ k) := rfl
    rw [s1]
    cases hm : m.testBit k with
    | false =>
      rw [if_neg (by decide), ← ih q, ← ih (q ||| 2 ^ k)]
      refine congr (congrArg _ (c_yS_c (fun w hw => ?_))) (c_yS_c (fun w hw => ?_))
      · show (if (c_P m b k w && (!m.testBit k || _)) then _ else _) = _
        rw [hm, Bool.not_false, Bool.true_or, Bool.and_true]
      · show (if (c_P m b k (2 ^ k + w) && (!m.testBit k || _)) then f (q ||| (2 ^ k + w)) else _) = _
        rw [hm, Bool.not_false, Bool.true_or, Bool.and_true, hp w hw, ho w hw]
    | true =>
      rw [if_pos rfl]
      cases hb : b.testBit k with
      | false =>
        rw [if_neg (by decide), Nat.or_zero, ← ih q]
        have z : y_S (fun i => (fun w => if c_P m b (k + 1) w then f (q ||| w) else 0) (2 ^ k + i)) (2 ^ k) = 0 := by
          rw [c_yS_c (g := fun _ => 0) (fun w hw => ?_), c_yS_0]
          show (if (c_P m b k (2 ^ k + w) && (!m.testBit k || ((2 ^ k + w).testBit k == b.testBit k))) then _ else _) = _
          rw [hm, hb, hi w hw]
          show (if (c_P m b k (2 ^ k + w) && false) then _ else _) = _
          rw [Bool.and_false]
          rfl
        rw [z, Int.add_zero]
        refine c_yS_c (fun w hw => ?_)
        show (if (c_P m b k w && (!m.testBit k || (w.testBit k == b.testBit k))) then _ else _) = _
        rw [hm, hb, lo w hw]
        show (if (c_P m b k w && true) then _ else _) = _
        rw [Bool.and_true]
      | true =>
        rw [if_pos rfl, ← ih (q ||| 2 ^ k)]
        have z : y_S (fun w => if c_P m b (k + 1) w then f (q ||| w) else 0) (2 ^ k) = 0 := by
          rw [c_yS_c (g := fun _ => 0) (fun w hw => ?_), c_yS_0]
          show (if (c_P m b k w && (!m.testBit k || (w.testBit k == b.testBit k))) then _ else _) = _
          rw [hm, hb, lo w hw]
          show (if (c_P m b k w && false) then _ else _) = _
          rw [Bool.and_false]
          rfl
        rw [z, Int.zero_add]
        refine c_yS_c (fun w hw => ?_)
        show (if (c_P m b k (2 ^ k + w) && (!m.testBit k || ((2 ^ k + w).testBit k == b.testBit k))) then f (q ||| (2 ^ k + w)) else _) = _
        rw [hm, hb, hi w hw, hp w hw, ho w hw]
        show (if (c_P m b k w && true) then _ else _) = _
        rw [Bool.and_true]
/-- what is left of the net's nodes beside a mask -/
theorem c_rest {nd mask : Int32} {m : Nat} (h0 : 0 ≤ nd.toInt) (h10 : nd.toInt ≤ 10) (hm : mask.toInt = m) : ∃ r : Nat, ((Int32.ofInt 1 <<< (nd &&& 31) - Int32.ofInt 1) &&& (mask ^^^ Int32.ofInt (-1))).toInt = (r : Int) ∧ r < 1024 ∧ ∀ j, r.testBit j = (decide (j < nd.toInt.toNat) && !m.testBit j) := by
  obtain ⟨ea, l1, l2⟩ := y_all h0 h10
  obtain ⟨h1, h2⟩ := z_nat (x := Int32.ofInt 1 <<< (nd &&& 31) - Int32.ofInt 1) (by omega)
  obtain ⟨g1, g2⟩ := z_nat (x := mask) (by omega)
  have ew : y_ways nd = 2 ^ nd.toInt.toNat := rfl
  have e1 : (Int32.ofInt 1 <<< (nd &&& 31) - Int32.ofInt 1).toBitVec.toNat = 2 ^ nd.toInt.toNat - 1 := by omega
  have e2 : mask.toBitVec.toNat = m := by omega
  have h3 : ((Int32.ofInt 1 <<< (nd &&& 31) - Int32.ofInt 1) &&& (mask ^^^ Int32.ofInt (-1))).toBitVec.toNat = (2 ^ nd.toInt.toNat - 1) &&& (m ^^^ (2 ^ 32 - 1)) := by
    show ((Int32.ofInt 1 <<< (nd &&& 31) - Int32.ofInt 1).toBitVec &&& (mask.toBitVec ^^^ (Int32.ofInt (-1)).toBitVec)).toNat = _
    rw [BitVec.toNat_and, BitVec.toNat_xor, e1, e2, show (Int32.ofInt (-1)).toBitVec.toNat = 2 ^ 32 - 1 by decide]
  have h4 : (2 ^ nd.toInt.toNat - 1) &&& (m ^^^ (2 ^ 32 - 1)) ≤ 2 ^ nd.toInt.toNat - 1 := Nat.and_le_left
  refine ⟨_, z_ofnat h3 (by omega), by omega, fun j => ?_⟩
  rw [Nat.testBit_and, Nat.testBit_xor, Nat.testBit_two_pow_sub_one, Nat.testBit_two_pow_sub_one]
  by_cases q : j < nd.toInt.toNat
  · rw [decide_eq_true q, decide_eq_true (show j < 32 by omega)]
    cases m.testBit j <;> rfl
  · rw [decide_eq_false q]
    rfl
/-- 1 moved on by how many bits there are -/
theorem c_shlN {x : Int32} {n : Nat} (hx : x.toInt = n) (hn : n ≤ 10) : (Int32.ofInt 1 <<< (x &&& 31)).toInt = ((2 ^ n : Nat) : Int) := by
  have h := y_shl6 (sp := x) (by omega) (by omega)
  have e : y_ways x = 2 ^ n := by
    show 2 ^ x.toInt.toNat = 2 ^ n
    rw [show x.toInt.toNat = n by omega]
  rw [e] at h
  exact h
theorem c_pl10 {b : Nat} : ∀ (k : Nat), y_pl b k ≤ k := by
  intro k
  induction k with
  | zero => exact Nat.le_refl 0
  | succ k ih =>
    cases hb : b.testBit k with
    | true => rw [c_pl1 hb]; omega
    | false => rw [c_pl0 hb]; omega
section NSB
variable {X : aX} {C S d : Nat} {K0 : Option Value → aH → Nat → Nat → Prop}
theorem c_weigh_loop {mask bits restI waysI : Int32} {b r N : Nat} {wl : List Int32} {f : Nat → Int} (hb : bits.toInt = b) (b10 : b < 1024) (hr' : restI.toInt = r) (r10 : r < 1024) (hN : waysI.toInt = N) (N10 : N ≤ 1024) (w0 : ∀ i, 0 ≤ f i) : ∀ (L : List Nat) (h : aH) (sI pI iI : Int32) (i : Nat), w_hr z_D h → w_a h 9 = some (0, .inl wl) → iI.toInt = i → i + L.length = N → (∀ p ∈ L, p < 1024 ∧ (wl.getD (b ||| p) 0).toInt = f (b ||| p)) → (∀ p l, L = p :: l → pI.toInt = p) → c_chain r L = true → 0 ≤ sI.toInt → sI.toInt + c_ls (fun p => f (b ||| p)) L ≤ 100000000 → (∀ (H : aH) (s : Int32), y_fr h H [] [] → s.toInt = sI.toInt + c_ls (fun p => f (b ||| p)) L → K0 (some (.int s)) H C S) → aOK s_P X d a_m36 30 [some (.ref 3), some (.int mask), some (.int bits), some (.int restI), some (.int waysI), some (.int sI), some (.int pI), some (.int iI)] [] h C S K0 := by
  intro L
  induction L with
  | nil =>
    intro h sI pI iI i hr a9 hi hl _ _ _ s0 s8 hK
    have hl' : i = N := hl
    refine w_go z_hl [30] [] 60 hr ?_
    refine ⟨fun q => fun H hH => ?_, fun q => ?_⟩
    · refine hK H sI (y_st (y_rf hr) hH (by repeat (first | exact w_nil | refine w_cons (Or.inl (y_m rfl)) ?_ | refine w_cons (Or.inr (by assumption)) ?_)) (by repeat (first | exact w_nil | refine w_cons (Or.inl (y_m rfl)) ?_ | refine w_cons (Or.inr (by assumption)) ?_))) ?_
      show sI.toInt = sI.toInt + 0
      omega
    · have : ¬ (waysI.toInt ≤ iI.toInt) := y_cif q
      omega
  | cons p l ih =>
    intro h sI pI iI i hr a9 hi hl hlt hp hch s0 s8 hK
    have hp' := hp p l rfl
    obtain ⟨p10, pf⟩ := hlt p List.mem_cons_self
    have hl' : i + (l.length + 1) = N := hl
    obtain ⟨o1, o2⟩ := c_orN hb hp' b10 p10
    have co := y_cl1 o1
    have cs : c_ls (fun p => f (b ||| p)) (p :: l) = f (b ||| p) + c_ls (fun p => f (b ||| p)) l := rfl
    have c0 := c_ls_0 (f := fun p => f (b ||| p)) (fun p => w0 (b ||| p)) (l := l)
    have x0 := w0 (b ||| p)
    rw [cs] at s8
    have ink : (iI + Int32.ofInt 1).toInt = ((i + 1 : Nat) : Int) := by rw [y_inc (by omega), hi]; rfl
    refine w_go z_hl [30] [] 80 hr ?_
    refine ⟨fun q => ?_, fun q => ⟨⟨by show 0 ≤ (bits ||| pI).toInt; omega, by show (bits ||| pI).toInt < ((1024 : Nat) : Int); omega⟩, fun wl2 hl2 len bb => fun H hH => ?_⟩⟩
    · have : waysI.toInt ≤ iI.toInt := (y_ci .ge _ _).mp q
      omega
    · obtain rfl := y_ai a9 hl2
      have f1 : y_fr h H [] [] := y_st (y_rf hr) hH (by repeat (first | exact w_nil | refine w_cons (Or.inl (y_m rfl)) ?_ | refine w_cons (Or.inr (by assumption)) ?_)) (by repeat (first | exact w_nil | refine w_cons (Or.inl (y_m rfl)) ?_ | refine w_cons (Or.inr (by assumption)) ?_))
      have es : (sI + wl.getD (b ||| p) 0).toInt = sI.toInt + f (b ||| p) := by
        rw [Int32.toInt_add, pf]
        exact Int.bmod_eq_of_le (by omega) (by omega)
      have go := ih H (sI + wl.getD (b ||| p) 0) ((pI - restI) &&& restI) (iI + Int32.ofInt 1) (i + 1) f1.1 ((y_ae f1 rfl).trans a9) ink (by omega) (fun x hx => hlt x (List.mem_cons_of_mem _ hx)) (fun p2 l2 e2 => by
        subst e2
        have hc : (Nat.beq (c_nx r p) p2 && c_chain r (p2 :: l2)) = true := hch
        rw [Bool.and_eq_true, Nat.beq_eq] at hc
        rw [c_nxI hp' hr' r10, hc.1]) (by
        cases l with
        | nil => rfl
        | cons p2 l2 =>
          have hc : (Nat.beq (c_nx r p) p2 && c_chain r (p2 :: l2)) = true := hch
          rw [Bool.and_eq_true] at hc
          exact hc.2) (by omega) (by omega) (fun H' s f' hs => hK H' s (y_sq f1 f' rfl rfl) (by rw [hs, es, cs]; omega))
      rw [← co] at go
      exact go
theorem c_weigh {h : aH} (hr : w_hr z_D h) {nd mask bits : Int32} {m b : Nat} {wl : List Int32} {f : Nat → Int} (g0 : w_f h 128 = some (.int nd)) (h0 : 0 ≤ nd.toInt) (h10 : nd.toInt ≤ 10) (hm : mask.toInt = m) (hb : bits.toInt = b) (b2 : b < 2 ^ nd.toInt.toNat) (hs : ∀ j, b.testBit j = true → m.testBit j = true) (a9 : w_a h 9 = some (0, .inl wl)) (wf : ∀ i, i < 2 ^ nd.toInt.toNat → (wl.getD i 0).toInt = f i) (w0 : ∀ i, 0 ≤ f i) (w8 : y_S f (2 ^ nd.toInt.toNat) ≤ 100000000) (hK : ∀ (H : aH) (s : Int32), y_fr h H [] [] → s.toInt = c_S m b f nd.toInt.toNat 0 → K0 (some (.int s)) H C S) : aOK s_P X (d + 1) a_m36 0 [some (.ref 3), some (.int mask), some (.int bits), none, none, none, none, none] [] h C S K0 := by
  obtain ⟨r, e1, r10, rt⟩ := c_rest h0 h10 hm
  have p2 : 2 ^ nd.toInt.toNat ≤ 2 ^ 10 := Nat.pow_le_pow_right (by decide) (by omega)
  have r2 : r < 2 ^ nd.toInt.toNat := Nat.lt_pow_two_of_testBit _ (fun j hj => by
    rw [rt j, decide_eq_false (by omega)]
    rfl)
  -- the sub-masks of all ten bits are those of the net's
  have top : ∀ k, nd.toInt.toNat ≤ k → c_sub r k = c_sub r nd.toInt.toNat := by
    intro k hk
    induction hk with
    | refl => rfl
    | @step q hq ih =>
      show (if r.testBit q then _ else _) = _
      have hq' : nd.toInt.toNat ≤ q := hq
      rw [rt q, decide_eq_false (by omega)]
      exact ih
  have t10 := top 10 (by omega)
  have sum : c_ls (fun p => f (b ||| p)) (c_sub r 10) = c_S m b f nd.toInt.toNat 0 := by
    rw [t10, ← c_sub_S (r := r) nd.toInt.toNat (fun j hj => by rw [rt j, decide_eq_true hj]; rfl) 0]
    refine c_ls_c (fun p _ => ?_)
    show f (b ||| p) = f (c_bl m b nd.toInt.toNat ||| p ||| 0)
    rw [Nat.or_zero, c_bl_e b2 hs]
  have le8 : c_S m b f nd.toInt.toNat 0 ≤ 100000000 := by
    rw [← c_S_P]
    refine Int.le_trans (c_yS_le (fun i _ => ?_)) w8
    show (if c_P m b nd.toInt.toNat i then f (0 ||| i) else 0) ≤ f i
    rw [Nat.zero_or]
    split
    · exact Int.le_refl _
    · exact w0 i
  have T18 : ∀ {G : aH} {cI : Int32}, y_fr h G [] [] → cI.toInt = (y_pl r 10 : Nat) → aOK s_P X (d + 1) a_m36 18 [some (.ref 3), some (.int mask), some (.int bits), some (.int ((Int32.ofInt 1 <<< (nd &&& 31) - Int32.ofInt 1) &&& (mask ^^^ Int32.ofInt (-1)))), none, none, none, none] [.int cI, .int (Int32.ofInt 1)] G C S K0 := by
    intro G cI e hc
    have hch := List.all_eq_true.mp c_chain0 r (List.mem_range.mpr r10)
    have ew := c_shlN hc (c_pl10 10)
    have hlen := c_sub_len (r := r) 10
    have N10 : 2 ^ y_pl r 10 ≤ 2 ^ 10 := Nat.pow_le_pow_right (by decide) (c_pl10 10)
    refine w_go z_hl [30] [] 60 e.1 ?_
    intro H hH
    have f1 : y_fr h H [] [] := y_st e hH (by repeat (first | exact w_nil | refine w_cons (Or.inl (y_m rfl)) ?_ | refine w_cons (Or.inr (by assumption)) ?_)) (by repeat (first | exact w_nil | refine w_cons (Or.inl (y_m rfl)) ?_ | refine w_cons (Or.inr (by assumption)) ?_))
    refine c_weigh_loop (f := f) hb (by omega) e1 r10 ew (by omega) w0 (c_sub r 10) H _ _ _ 0 f1.1 ((y_ae f1 rfl).trans a9) (by decide) (by rw [hlen]; omega) (fun p hp => ⟨c_sub_lt 10 p hp, wf _ (Nat.or_lt_two_pow b2 ?_)⟩) (fun p l el => ?_) hch (by decide) ?_ (fun H' s f' hs' => hK H' s (y_sq f1 f' rfl rfl) ?_)
    · rw [t10] at hp
      exact c_sub_lt _ p hp
    · obtain ⟨l', e'⟩ := c_sub_hd (r := r) 10
      rw [e'] at el
      injection el with el1 el2
      rw [← el1]
      decide
    · rw [sum, show (Int32.ofInt 0).toInt = 0 by decide]
      omega
    · rw [hs', sum, show (Int32.ofInt 0).toInt = 0 by decide]
      omega
  refine w_go z_hl [] [15] 60 hr ?_
  intro x hx _ _
  obtain rfl := y_fi g0 hx
  intro H hH
  have e : y_fr h H [] [] := y_st (y_rf hr) hH (by repeat (first | exact w_nil | refine w_cons (Or.inl (y_m rfl)) ?_ | refine w_cons (Or.inr (by assumption)) ?_)) (by repeat (first | exact w_nil | refine w_cons (Or.inl (y_m rfl)) ?_ | refine w_cons (Or.inr (by assumption)) ?_))
  refine y_bitCount (x := (Int32.ofInt 1 <<< (nd &&& 31) - Int32.ofInt 1) &&& (mask ^^^ Int32.ofInt (-1))) e.1 (fun H2 h2 => ⟨fun n e => (by cases e), ?_⟩)
  exact T18 (y_st e h2 (by repeat (first | exact w_nil | refine w_cons (Or.inl (y_m rfl)) ?_ | refine w_cons (Or.inr (by assumption)) ?_)) (by repeat (first | exact w_nil | refine w_cons (Or.inl (y_m rfl)) ?_ | refine w_cons (Or.inr (by assumption)) ?_))) (y_bcN e1 r10)
end NSB
end PT33ha
