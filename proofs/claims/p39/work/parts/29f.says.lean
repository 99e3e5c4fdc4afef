/-! ===== v3: the reference's say ===== -/
def y_tx (sg : List Int32) (s j : Nat) : Int := y_N sg (40 * s + j)
def y_s1 (acl kdl : List Int32) (nul : List Int64) (bel fil sgl : List Int32) (s : Nat) : Prop := y_tm (y_tx sgl s) 40 (2 * s) kdl nul bel fil ∧ y_tm (y_tx sgl s) 40 (2 * s + 1) kdl nul bel fil ∧ (y_N acl s = 126 → y_N kdl (2 * s) ≠ 0 ∧ y_N kdl (2 * s + 1) ≠ 0)
def j_say0 (a : Option Value) (ac kd nu be fi sg : Option (Nat × aA)) : Prop := ∃ sy acl kdl nul bel fil sgl, a = some (.int sy) ∧ ac = some (0, .inl acl) ∧ kd = some (0, .inl kdl) ∧ nu = some (1, .inr (.inl nul)) ∧ be = some (0, .inl bel) ∧ fi = some (0, .inl fil) ∧ sg = some (0, .inl sgl) ∧ ∀ s : Nat, (s : Int) < sy.toInt → y_s1 acl kdl nul bel fil sgl s
def j_say (H : aH) : Prop := j_say0 (w_f H 19603) (w_a H 165) (w_a H 166) (w_a H 167) (w_a H 168) (w_a H 169) (w_a H 170)
theorem j_say_e {h H : aH} {fs as : List Nat} (e : y_fr h H fs as) (h1 : fs.elem 19603 = false) (h2 : [165, 166, 167, 168, 169, 170].all (fun x => !as.elem x) = true) (q : j_say h) : j_say H := by
  have k : ∀ x, [165, 166, 167, 168, 169, 170].elem x = true → as.elem x = false := fun x hx => by
    have := List.all_eq_true.mp h2 x (List.elem_iff.mp hx)
    cases q : as.elem x with
    | true => rw [q] at this; cases this
    | false => rfl
  unfold j_say
  rw [y_fe e h1, y_ae e (k 165 rfl), y_ae e (k 166 rfl), y_ae e (k 167 rfl), y_ae e (k 168 rfl), y_ae e (k 169 rfl), y_ae e (k 170 rfl)]
  exact q
/-- what is told of the reference's heap, sayings too -/
def y_JS (H : aH) : Prop := y_J H ∧ j_say H
theorem y_JS_x : y_jx y_JS := by
  intro H H' hf ha q
  refine ⟨y_J_x H H' hf ha q.1, ?_⟩
  have f : ∀ k, z_jc.elem k = true → w_f H' k = w_f H k := fun k hk => hf k (List.elem_iff.mp hk)
  have a : ∀ o, z_jc.elem (o * 128) = true → w_a H' o = w_a H o := fun o ho => ha o (List.elem_iff.mp ho)
  unfold j_say
  rw [f 19603 rfl, a 165 rfl, a 166 rfl, a 167 rfl, a 168 rfl, a 169 rfl, a 170 rfl]
  exact q.2
section WG
variable {X : aX} {C S d : Nat} {K0 : Option Value → aH → Nat → Nat → Prop}
theorem y_say_copy {nI gI toI iI : Int32} {tp : List Int32} {t i : Nat} (ht : toI.toInt = t) (t40 : t ≤ 40) (hi : iI.toInt = i) (i11 : i ≤ 11) : ∀ (m : Nat) (h : aH) (kI : Int32) (k : Nat) (sg : List Int32), w_hr z_D h → w_f h 19614 = some (.int toI) → w_f h 19610 = some (.int iI) → w_a h 171 = some (0, .inl tp) → w_a h 170 = some (0, .inl sg) → kI.toInt = k → k + m = t → (∀ j, j < k → y_N sg (40 * i + j) = y_N tp j) →
    (∀ (H : aH) (k' : Int32) (sg' : List Int32), y_fr h H [] [170] → w_a H 170 = some (0, .inl sg') → (∀ j, j < t → y_N sg' (40 * i + j) = y_N tp j) → (∀ j, j / 40 ≠ i → y_N sg' j = y_N sg j) → aOK s_P X d a_m221 148 [some (.ref 155), some (.int nI), some (.int gI), some (.int k')] [] H C S K0) →
    aOK s_P X d a_m221 114 [some (.ref 155), some (.int nI), some (.int gI), some (.int kI)] [] h C S K0 := by
  intro m
  induction m with
  | zero =>
    intro h kI k sg hr g1 g2 g3 g4 hk hm hs hK
    refine w_go z_hl [114, 148] [] 40 hr ?_
    intro x hx _ _
    obtain rfl := y_fi g1 hx
    refine ⟨fun _ => fun H hH => ?_, fun q => ?_⟩
    · have f : y_fr h H [] [] := y_st (y_rf hr) hH (by repeat (first | exact w_nil | refine w_cons (Or.inl (y_m rfl)) ?_ | refine w_cons (Or.inr (by assumption)) ?_)) (by repeat (first | exact w_nil | refine w_cons (Or.inl (y_m rfl)) ?_ | refine w_cons (Or.inr (by assumption)) ?_))
      exact hK H kI sg (y_mo f rfl rfl) ((y_ae f rfl).trans g4) (fun j hj => hs j (by omega)) (fun _ _ => rfl)
    · have : ¬ (toI.toInt ≤ kI.toInt) := y_cif q
      omega
  | succ m ih =>
    intro h kI k sg hr g1 g2 g3 g4 hk hm hs hK
    have ink : (kI + Int32.ofInt 1).toInt = ((k + 1 : Nat) : Int) := by rw [y_inc (by omega), hk]; rfl
    have c40 : ((Int8.ofInt 40).toInt32).toInt = ((40 : Nat) : Int) := by decide
    have ix : ((Int8.ofInt 40).toInt32 * iI + kI).toInt = ((40 * i + k : Nat) : Int) := y_addS _ (y_mulS _ c40 hi rfl (by omega)) hk rfl (by omega)
    have cx := y_cl1 ix
    have bx : 0 ≤ ((Int8.ofInt 40).toInt32 * iI + kI).toInt ∧ ((Int8.ofInt 40).toInt32 * iI + kI).toInt < ((520 : Nat) : Int) := by omega
    have kc := y_cl1 hk
    refine w_go z_hl [114, 148] [] 40 hr ?_
    intro x hx _ _
    obtain rfl := y_fi g1 hx
    refine ⟨fun q => ?_, fun _ => ?_⟩
    · have : toI.toInt ≤ kI.toInt := (y_ci .ge _ _).mp q
      omega
    · intro y hy _ _
      obtain rfl := y_fi g2 hy
      refine ⟨⟨by omega, by omega⟩, fun l hl len bb => ?_⟩
      obtain rfl := y_ai g3 hl
      refine ⟨bx, bb _ (z_gd (0 : Int32) (show kI.toNatClampNeg < tp.length by omega)), fun l2 hl2 len2 bb2 => fun H hH => ?_⟩
      obtain rfl := y_ai g4 hl2
      have f : y_fr h H [] [170] := y_st (y_mo (y_rf hr) rfl rfl) hH (by repeat (first | exact w_nil | refine w_cons (Or.inl (y_m rfl)) ?_ | refine w_cons (Or.inr (by assumption)) ?_)) (by repeat (first | exact w_nil | refine w_cons (Or.inl (y_m rfl)) ?_ | refine w_cons (Or.inr (by assumption)) ?_))
      have A := hH.2.2.1 170 _ rfl
      rw [cx, kc] at A
      refine ih H _ (k + 1) _ f.1 ((y_fe f rfl).trans g1) ((y_fe f rfl).trans g2) ((y_ae f rfl).trans g3) A ink (by omega) (fun j hj => ?_) (fun H' k' sg' f1 f2 f3 f4 => hK H' k' sg' (y_sq f f1 rfl rfl) f2 f3 (fun j hj => (f4 j hj).trans ?_))
      · rw [y_Nset (by omega)]
        split
        · rename_i e
          rw [show j = k by omega]
          rfl
        · exact hs j (by omega)
      · rw [y_Nset (by omega), if_neg (by omega)]
theorem p_say {h : aH} (hr : w_hr z_D h) (hJ : y_J h) (hS : j_say h) (hk : ∀ (r : Int32) (H : aH), y_fr h H [19584, 19603, 19610, 19612, 19613, 19614, 19615] [165, 166, 167, 168, 169, 170] → y_J H → j_say H → K0 (some (.int r)) H C S) : aOK s_P X (d + 169) a_m221 0 [some (.ref 155), none, none, none] [] h C S K0 := by
  obtain ⟨q1, q2, q3, q4, q5, q6, q7⟩ := id hJ
  obtain ⟨sy, acl, kdl, nul, bel, fil, sgl, y1, y2, y3, y4, y5, y6, y7, y8⟩ := id hS
  obtain ⟨y0, y12⟩ := y_syb hr y1
  obtain ⟨tp, z1, z2, -⟩ := w_arrI hr (o := 171) (t := 0) (n := 60) (lo := 0) (hi := 255) (by decide) rfl
  have g171 := w_a_at z1
  obtain ⟨nd, le, de, ta, n1, n2, n3, n4, c1, c2, c3, c4, c5⟩ := id q1
  have keep : ∀ {G : aH}, y_fr h G [19584, 19603, 19610, 19612, 19613, 19614, 19615] [165, 166, 167, 168, 169, 170] → y_J G := fun e => ⟨j_net_e (y_fe e rfl) (y_ae e rfl) (y_ae e rfl) (y_ae e rfl) q1, j_dp_e (y_fe e rfl) (y_fe e rfl) (y_ae e rfl) q2, j_old_e (y_ae e rfl) (y_ae e rfl) (y_ae e rfl) (y_ae e rfl) (y_ae e rfl) (y_ae e rfl) q3, j_w_e (y_fe e rfl) (y_ae e rfl) q4, j_seen_e (y_fe e rfl) (y_fe e rfl) (y_ae e rfl) (y_ae e rfl) q5, j_kept_e (y_fe e rfl) (y_ae e rfl) (y_ae e rfl) (y_ae e rfl) (y_ae e rfl) q6, j_land_e (y_fe e rfl) (y_ae e rfl) q7⟩
  -- nothing new told
  have sayO : ∀ {G : aH} {kd' : List Int32} {nu' : List Int64} {be' fi' ac' sg' : List Int32}, w_f G 19603 = some (.int sy) → w_a G 165 = some (0, .inl ac') → w_a G 166 = some (0, .inl kd') → w_a G 167 = some (1, .inr (.inl nu')) → w_a G 168 = some (0, .inl be') → w_a G 169 = some (0, .inl fi') → w_a G 170 = some (0, .inl sg') → y_rw sy.toInt.toNat kdl kd' nul nu' bel be' fil fi' → (∀ j, j ≠ sy.toInt.toNat → y_N ac' j = y_N acl j) → (∀ j, j / 40 ≠ sy.toInt.toNat → y_N sg' j = y_N sgl j) → ∀ s : Nat, (s : Int) < sy.toInt → y_s1 ac' kd' nu' be' fi' sg' s := by
    intro G kd' nu' be' fi' ac' sg' e1 e2 e3 e4 e5 e6 e7 rw' ha hsg s hs
    obtain ⟨t0, t1, t2⟩ := y8 s hs
    have hT : ∀ j, j < 40 → y_tx sg' s j = y_tx sgl s j := fun j hj => hsg _ (by omega)
    refine ⟨y_tm_c (y_tm_rw t0 rw' (by omega)) hT (Nat.le_refl _), y_tm_c (y_tm_rw t1 rw' (by omega)) hT (Nat.le_refl _), fun q => ?_⟩
    rw [ha s (by omega)] at q
    rw [rw'.1 (2 * s) (by omega), rw'.1 (2 * s + 1) (by omega)]
    exact t2 q
  have T148 : ∀ {G : aH} {nI gI k' : Int32} {t q : Nat} {o : Int} {kd' : List Int32} {nu' : List Int64} {be' fi' ac' sg' : List Int32}, y_fr h G [19584, 19610, 19612, 19613, 19614, 19615] [165, 166, 167, 168, 169, 170] → y_rs G tp t q o sy.toInt.toNat kd' nu' be' fi' → w_a G 165 = some (0, .inl ac') → w_a G 170 = some (0, .inl sg') → y_rw sy.toInt.toNat kdl kd' nul nu' bel be' fil fi' → (∀ j, j ≠ sy.toInt.toNat → y_N ac' j = y_N acl j) → (∀ j, j / 40 ≠ sy.toInt.toNat → y_N sg' j = y_N sgl j) → (∀ j, j < t → y_N sg' (40 * sy.toInt.toNat + j) = y_N tp j) → y_tm (y_N tp) t (2 * sy.toInt.toNat) kd' nu' be' fi' → y_tm (y_N tp) t (2 * sy.toInt.toNat + 1) kd' nu' be' fi' → (y_N ac' sy.toInt.toNat = 126 → y_N kd' (2 * sy.toInt.toNat) ≠ 0 ∧ y_N kd' (2 * sy.toInt.toNat + 1) ≠ 0) → sy.toInt ≤ 11 → aOK s_P X (d + 169) a_m221 148 [some (.ref 155), some (.int nI), some (.int gI), some (.int k')] [] G C S K0 := by
    intro G nI gI k' t q o kd' nu' be' fi' ac' sg' e rs a1 a2 rw' ha hsg hT t0 t1 t2 s11
    obtain ⟨hr', -, t40, -⟩ := y_rs_hr rs
    obtain ⟨r1, r2, r4, r5, r6, r7, r8⟩ := rs
    have hinc : (sy + Int32.ofInt 1).toInt = sy.toInt + 1 := y_inc (by omega)
    refine w_go z_hl [] [] 40 e.1 ?_
    intro x hx _ _
    obtain rfl := y_fi ((y_fe e rfl).trans y1) hx
    refine ⟨rfl, y_zini (by show 0 ≤ (sy + Int32.ofInt 1).toInt; omega) (by show (sy + Int32.ofInt 1).toInt ≤ 12; omega), ?_⟩
    intro H hH
    have f : y_fr G H [19603] [] := y_st (y_mo (y_rf e.1) rfl rfl) hH (by repeat (first | exact w_nil | refine w_cons (Or.inl (y_m rfl)) ?_ | refine w_cons (Or.inr (by assumption)) ?_)) (by repeat (first | exact w_nil | refine w_cons (Or.inl (y_m rfl)) ?_ | refine w_cons (Or.inr (by assumption)) ?_))
    have e2 : y_fr h H [19584, 19603, 19610, 19612, 19613, 19614, 19615] [165, 166, 167, 168, 169, 170] := y_sq (y_mo e rfl rfl) f rfl rfl
    refine hk _ H e2 (keep e2) ⟨_, ac', kd', nu', be', fi', sg', hH.2.1 19603 _ rfl, (y_ae f rfl).trans a1, (y_ae f rfl).trans r5, (y_ae f rfl).trans r6, (y_ae f rfl).trans r7, (y_ae f rfl).trans r8, (y_ae f rfl).trans a2, fun s hs => ?_⟩
    have hs2 : (s : Int) < (sy + Int32.ofInt 1).toInt := hs
    by_cases qs : (s : Int) < sy.toInt
    · exact sayO ((y_fe e rfl).trans y1) a1 r5 r6 r7 r8 a2 rw' ha hsg s qs
    · have es : s = sy.toInt.toNat := by omega
      subst es
      exact ⟨y_tm_c t0 hT t40, y_tm_c t1 hT t40, t2⟩
  have out : ∀ {G : aH} {r : Int32} {t q : Nat} {o : Int} {kd' : List Int32} {nu' : List Int64} {be' fi' ac' : List Int32}, y_fr h G [19584, 19610, 19612, 19613, 19614, 19615] [165, 166, 167, 168, 169] → y_rs G tp t q o sy.toInt.toNat kd' nu' be' fi' → w_a G 165 = some (0, .inl ac') → y_rw sy.toInt.toNat kdl kd' nul nu' bel be' fil fi' → (∀ j, j ≠ sy.toInt.toNat → y_N ac' j = y_N acl j) → K0 (some (.int r)) G C S := by
    intro G r t q o kd' nu' be' fi' ac' e rs a1 rw' ha
    have e2 : y_fr h G [19584, 19603, 19610, 19612, 19613, 19614, 19615] [165, 166, 167, 168, 169, 170] := y_mo e rfl rfl
    obtain ⟨r1, r2, r4, r5, r6, r7, r8⟩ := rs
    exact hk _ G e2 (keep e2) ⟨sy, ac', kd', nu', be', fi', sgl, (y_fe e rfl).trans y1, a1, r5, r6, r7, r8, (y_ae e rfl).trans y7, sayO ((y_fe e rfl).trans y1) a1 r5 r6 r7 r8 ((y_ae e rfl).trans y7) rw' ha (fun _ _ => rfl)⟩
  -- behind the reading
  have T78 : ∀ {G : aH} {nI gI : Int32} {t q : Nat} {o : Int} {kd' : List Int32} {nu' : List Int64} {be' fi' ac' : List Int32}, y_fr h G [19584, 19610, 19612, 19613, 19614, 19615] [165, 166, 167, 168, 169] → y_rs G tp t q o sy.toInt.toNat kd' nu' be' fi' → w_a G 165 = some (0, .inl ac') → y_rw sy.toInt.toNat kdl kd' nul nu' bel be' fil fi' → (∀ j, j ≠ sy.toInt.toNat → y_N ac' j = y_N acl j) → sy.toInt ≤ 11 → (gI ≠ 0 → y_tm (y_N tp) t (2 * sy.toInt.toNat) kd' nu' be' fi' ∧ y_tm (y_N tp) t (2 * sy.toInt.toNat + 1) kd' nu' be' fi' ∧ (y_N ac' sy.toInt.toNat = 126 → y_N kd' (2 * sy.toInt.toNat) ≠ 0 ∧ y_N kd' (2 * sy.toInt.toNat + 1) ≠ 0)) → aOK s_P X (d + 169) a_m221 78 [some (.ref 155), some (.int nI), none, none] [.int gI] G C S K0 := by
    intro G nI gI t q o kd' nu' be' fi' ac' e rs a1 rw' ha s11 hg
    have fin : ∀ {H : aH} {r : Int32}, y_fr G H [] [] → K0 (some (.int r)) H C S := fun f => out (y_sq e f rfl rfl) (y_rs_fr rs f) ((y_ae f rfl).trans a1) rw' ha
    obtain ⟨toI, atI, opI, nd', hr', b1, b2, b3, b4, b5, b6, b7, b8, pt', t40, o0', o5'⟩ := id rs.1
    obtain ⟨iI, i1, i2⟩ := id rs.2.1
    have T112 : ∀ {H : aH}, y_fr G H [] [] → gI ≠ 0 → aOK s_P X (d + 169) a_m221 112 [some (.ref 155), some (.int nI), some (.int gI), none] [] H C S K0 := by
      intro H f hg0
      refine w_go z_hl [114] [] 40 f.1 ?_
      intro H2 h2
      have f2 := y_st f h2 (by repeat (first | exact w_nil | refine w_cons (Or.inl (y_m rfl)) ?_ | refine w_cons (Or.inr (by assumption)) ?_)) (by repeat (first | exact w_nil | refine w_cons (Or.inl (y_m rfl)) ?_ | refine w_cons (Or.inr (by assumption)) ?_))
      have e2 := y_sq e f2 rfl rfl
      refine y_say_copy b3 t40 i2 (by omega) t H2 _ 0 sgl f2.1 ((y_fe f2 rfl).trans b2) ((y_fe f2 rfl).trans i1) ((y_ae f2 rfl).trans b1) ((y_ae e2 rfl).trans y7) rfl (by omega) (fun j hj => absurd hj (by omega)) (fun H3 k' sg' f3 a3 hT hsg => ?_)
      obtain ⟨t0, t1, t2⟩ := hg hg0
      obtain ⟨r1, ⟨jI, r2, r3⟩, r4, r5, r6, r7, r8⟩ := y_rs_fr rs f2
      exact T148 (y_sq (y_mo e2 rfl rfl) f3 rfl rfl) ⟨y_ps_fr r1 f3 rfl rfl, ⟨jI, (y_fe f3 rfl).trans r2, r3⟩, r4, (y_ae f3 rfl).trans r5, (y_ae f3 rfl).trans r6, (y_ae f3 rfl).trans r7, (y_ae f3 rfl).trans r8⟩ ((y_ae f3 rfl).trans ((y_ae f2 rfl).trans a1)) a3 rw' ha hsg hT t0 t1 t2 s11
    have T101 : ∀ {H : aH}, y_fr G H [] [] → aOK s_P X (d + 169) a_m221 101 [some (.ref 155), some (.int nI), some (.int gI), none] [] H C S K0 := by
      intro H f
      refine w_go z_hl [112] [] 40 f.1 ?_
      refine ⟨fun q => fun H2 h2 => ?_, fun _ => ?_⟩
      · have q2 : gI.toInt ≠ (0 : Int32).toInt := (y_ci .ne _ _).mp q
        exact T112 (y_st f h2 (by repeat (first | exact w_nil | refine w_cons (Or.inl (y_m rfl)) ?_ | refine w_cons (Or.inr (by assumption)) ?_)) (by repeat (first | exact w_nil | refine w_cons (Or.inl (y_m rfl)) ?_ | refine w_cons (Or.inr (by assumption)) ?_))) (fun e => q2 (by rw [e]))
      · intro x hx _ _
        exact fun H2 h2 => fin (y_st f h2 (by repeat (first | exact w_nil | refine w_cons (Or.inl (y_m rfl)) ?_ | refine w_cons (Or.inr (by assumption)) ?_)) (by repeat (first | exact w_nil | refine w_cons (Or.inl (y_m rfl)) ?_ | refine w_cons (Or.inr (by assumption)) ?_)))
    refine w_go z_hl [101] [] 40 e.1 ?_
    refine ⟨fun _ => fun H hH => T101 (y_st (y_rf e.1) hH (by repeat (first | exact w_nil | refine w_cons (Or.inl (y_m rfl)) ?_ | refine w_cons (Or.inr (by assumption)) ?_)) (by repeat (first | exact w_nil | refine w_cons (Or.inl (y_m rfl)) ?_ | refine w_cons (Or.inr (by assumption)) ?_))), fun _ => ⟨fun _ => fun H hH => fin (y_st (y_rf e.1) hH (by repeat (first | exact w_nil | refine w_cons (Or.inl (y_m rfl)) ?_ | refine w_cons (Or.inr (by assumption)) ?_)) (by repeat (first | exact w_nil | refine w_cons (Or.inl (y_m rfl)) ?_ | refine w_cons (Or.inr (by assumption)) ?_))), fun _ => ?_⟩⟩
    intro x hx _ _
    exact ⟨fun _ => fun H hH => T101 (y_st (y_rf e.1) hH (by repeat (first | exact w_nil | refine w_cons (Or.inl (y_m rfl)) ?_ | refine w_cons (Or.inr (by assumption)) ?_)) (by repeat (first | exact w_nil | refine w_cons (Or.inl (y_m rfl)) ?_ | refine w_cons (Or.inr (by assumption)) ?_))), fun _ => fun H hH => fin (y_st (y_rf e.1) hH (by repeat (first | exact w_nil | refine w_cons (Or.inl (y_m rfl)) ?_ | refine w_cons (Or.inr (by assumption)) ?_)) (by repeat (first | exact w_nil | refine w_cons (Or.inl (y_m rfl)) ?_ | refine w_cons (Or.inr (by assumption)) ?_)))⟩
  have T59y : ∀ {G : aH} {nI : Int32} {t q : Nat} {o : Int} {kd' : List Int32} {nu' : List Int64} {be' fi' ac' : List Int32}, y_fr h G [19584, 19610, 19612, 19613, 19614, 19615] [165, 166, 167, 168, 169] → y_rs G tp t q o sy.toInt.toNat kd' nu' be' fi' → w_a G 165 = some (0, .inl ac') → y_rw sy.toInt.toNat kdl kd' nul nu' bel be' fil fi' → (∀ j, j ≠ sy.toInt.toNat → y_N ac' j = y_N acl j) → sy.toInt ≤ 11 → y_tm (y_N tp) t (2 * sy.toInt.toNat) kd' nu' be' fi' → y_tm (y_N tp) t (2 * sy.toInt.toNat + 1) kd' nu' be' fi' → (y_N ac' sy.toInt.toNat = 126 → y_N kd' (2 * sy.toInt.toNat) ≠ 0 ∧ y_N kd' (2 * sy.toInt.toNat + 1) ≠ 0) → aOK s_P X (d + 169) a_m221 59 [some (.ref 155), some (.int nI), none, none] [.int (Int32.ofInt 1)] G C S K0 := by
    intro G nI t q o kd' nu' be' fi' ac' e rs a1 rw' ha s11 t0 t1 t2
    refine w_go z_hl [78] [] 40 e.1 ?_
    refine ⟨fun q => absurd q (by decide), fun _ => ?_⟩
    intro x hx _ _
    intro y hy _ _
    refine ⟨fun _ => fun H hH => ?_, fun _ => fun H hH => ?_⟩
    · have f : y_fr G H [] [] := y_st (y_rf e.1) hH (by repeat (first | exact w_nil | refine w_cons (Or.inl (y_m rfl)) ?_ | refine w_cons (Or.inr (by assumption)) ?_)) (by repeat (first | exact w_nil | refine w_cons (Or.inl (y_m rfl)) ?_ | refine w_cons (Or.inr (by assumption)) ?_))
      exact T78 (y_sq e f rfl rfl) (y_rs_fr rs f) ((y_ae f rfl).trans a1) rw' ha s11 (fun q => absurd rfl q)
    · have f : y_fr G H [] [] := y_st (y_rf e.1) hH (by repeat (first | exact w_nil | refine w_cons (Or.inl (y_m rfl)) ?_ | refine w_cons (Or.inr (by assumption)) ?_)) (by repeat (first | exact w_nil | refine w_cons (Or.inl (y_m rfl)) ?_ | refine w_cons (Or.inr (by assumption)) ?_))
      exact T78 (y_sq e f rfl rfl) (y_rs_fr rs f) ((y_ae f rfl).trans a1) rw' ha s11 (fun _ => ⟨t0, t1, t2⟩)
  have T59n : ∀ {G : aH} {nI : Int32} {t q : Nat} {o : Int} {kd' : List Int32} {nu' : List Int64} {be' fi' ac' : List Int32}, y_fr h G [19584, 19610, 19612, 19613, 19614, 19615] [165, 166, 167, 168, 169] → y_rs G tp t q o sy.toInt.toNat kd' nu' be' fi' → w_a G 165 = some (0, .inl ac') → y_rw sy.toInt.toNat kdl kd' nul nu' bel be' fil fi' → (∀ j, j ≠ sy.toInt.toNat → y_N ac' j = y_N acl j) → sy.toInt ≤ 11 → aOK s_P X (d + 169) a_m221 59 [some (.ref 155), some (.int nI), none, none] [.int (Int32.ofInt 0)] G C S K0 := by
    intro G nI t q o kd' nu' be' fi' ac' e rs a1 rw' ha s11
    refine w_go z_hl [78] [] 40 e.1 ?_
    refine ⟨fun _ => fun H hH => ?_, fun q => absurd q (by decide)⟩
    have f : y_fr G H [] [] := y_st (y_rf e.1) hH (by repeat (first | exact w_nil | refine w_cons (Or.inl (y_m rfl)) ?_ | refine w_cons (Or.inr (by assumption)) ?_)) (by repeat (first | exact w_nil | refine w_cons (Or.inl (y_m rfl)) ?_ | refine w_cons (Or.inr (by assumption)) ?_))
    exact T78 (y_sq e f rfl rfl) (y_rs_fr rs f) ((y_ae f rfl).trans a1) rw' ha s11 (fun q => absurd rfl q)
  have T52 : ∀ {G : aH} {nI mI : Int32}, y_fr h G [19584, 19610, 19612, 19613, 19615] [] → w_f G 19610 = some (.int sy) → w_f G 19613 = some (.int (Int32.ofInt 0)) → w_f G 19615 = some (.int (Int32.ofInt 0)) → sy.toInt ≤ 11 → 0 ≤ mI.toInt → mI.toInt ≤ 40 → aOK s_P X (d + 169) a_m221 52 [some (.ref 155), some (.int nI), none, none] [.int mI, .ref 155] G C S K0 := by
    intro G nI mI e f1 f2 f3 s11 m0 m40
    refine w_go z_hl [] [222] 40 e.1 ?_
    refine ⟨rfl, y_zini m0 m40, fun H hH => ?_⟩
    have f : y_fr G H [19614] [] := y_st (y_mo (y_rf e.1) rfl rfl) hH (by repeat (first | exact w_nil | refine w_cons (Or.inl (y_m rfl)) ?_ | refine w_cons (Or.inr (by assumption)) ?_)) (by repeat (first | exact w_nil | refine w_cons (Or.inl (y_m rfl)) ?_ | refine w_cons (Or.inr (by assumption)) ?_))
    have e2 : y_fr h H [19584, 19610, 19612, 19613, 19614, 19615] [] := y_sq (y_mo e rfl rfl) f rfl rfl
    have ps : y_ps H tp mI.toInt.toNat 0 0 := ⟨mI, _, _, nd, f.1, (y_ae e2 rfl).trans g171, hH.2.1 19614 _ rfl, by omega, (y_fe f rfl).trans f2, rfl, (y_fe f rfl).trans f3, rfl, (y_fe e2 rfl).trans n1, by omega, by omega, by decide, by decide⟩
    have rs : y_rs H tp mI.toInt.toNat 0 0 sy.toInt.toNat kdl nul bel fil := ⟨ps, ⟨sy, (y_fe f rfl).trans f1, by omega⟩, by omega, (y_ae e2 rfl).trans y3, (y_ae e2 rfl).trans y4, (y_ae e2 rfl).trans y5, (y_ae e2 rfl).trans y6⟩
    refine y_readsSaying rs ((y_ae e2 rfl).trans y2) (fun H2 q kd' nu' be' fi' ac' sg t0 t1 t2 => ⟨fun n e => (by cases e), ?_⟩) (fun H2 q o' kd' nu' be' fi' ac' sg => ⟨fun n e => (by cases e), ?_⟩)
    · exact T59y (y_sq (y_mo e2 rfl rfl) sg.1 rfl rfl) sg.2.1 sg.2.2.2.1 sg.2.2.1 sg.2.2.2.2.2 s11 t0 t1 t2
    · exact T59n (y_sq (y_mo e2 rfl rfl) sg.1 rfl rfl) sg.2.1 sg.2.2.2.1 sg.2.2.1 sg.2.2.2.2.2 s11
  refine w_go z_hl [52] [] 40 hr ?_
  refine ⟨rfl, y_zini (by decide) (by decide), ?_⟩
  intro x hx x0 x60
  refine ⟨rfl, y_zini (by decide) (by decide), ?_⟩
  intro y hy _ _
  obtain rfl := y_fi y1 hy
  refine ⟨fun q => ?_, fun _ => fun H hH => ?_⟩
  · have q2 : sy.toInt ≠ ((Int8.ofInt 12).toInt32).toInt := (y_ci .ne _ _).mp q
    rw [show ((Int8.ofInt 12).toInt32).toInt = 12 by decide] at q2
    refine ⟨rfl, y_zini (by show 0 ≤ sy.toInt; omega) (by show sy.toInt ≤ 12; omega), rfl, y_zini (by decide) (by decide), rfl, y_zini (by decide) (by decide), ?_⟩
    have c40 : ((Int8.ofInt 40).toInt32).toInt = 40 := by decide
    refine ⟨fun q3 => fun H hH => ?_, fun q3 => fun H hH => ?_⟩
    · have e2 : y_fr h H [19584, 19610, 19612, 19613, 19615] [] := y_st (y_mo (y_rf hr) rfl rfl) hH (by repeat (first | exact w_nil | refine w_cons (Or.inl (y_m rfl)) ?_ | refine w_cons (Or.inr (by assumption)) ?_)) (by repeat (first | exact w_nil | refine w_cons (Or.inl (y_m rfl)) ?_ | refine w_cons (Or.inr (by assumption)) ?_))
      exact T52 e2 (hH.2.1 19610 _ rfl) (hH.2.1 19613 _ rfl) (hH.2.1 19615 _ rfl) (by omega) (by rw [c40]; decide) (by rw [c40]; decide)
    · have q4 : ¬ (((Int8.ofInt 40).toInt32).toInt < x.toInt) := y_cif q3
      rw [c40] at q4
      have e2 : y_fr h H [19584, 19610, 19612, 19613, 19615] [] := y_st (y_mo (y_rf hr) rfl rfl) hH (by repeat (first | exact w_nil | refine w_cons (Or.inl (y_m rfl)) ?_ | refine w_cons (Or.inr (by assumption)) ?_)) (by repeat (first | exact w_nil | refine w_cons (Or.inl (y_m rfl)) ?_ | refine w_cons (Or.inr (by assumption)) ?_))
      exact T52 e2 (hH.2.1 19610 _ rfl) (hH.2.1 19613 _ rfl) (hH.2.1 19615 _ rfl) (by omega) x0 (by omega)
  · have e2 : y_fr h H [19584, 19612] [] := y_st (y_mo (y_rf hr) rfl rfl) hH (by repeat (first | exact w_nil | refine w_cons (Or.inl (y_m rfl)) ?_ | refine w_cons (Or.inr (by assumption)) ?_)) (by repeat (first | exact w_nil | refine w_cons (Or.inl (y_m rfl)) ?_ | refine w_cons (Or.inr (by assumption)) ?_))
    exact hk _ H (y_mo e2 rfl rfl) (y_J_fr e2 rfl rfl hJ) (j_say_e e2 rfl rfl hS)
end WG
