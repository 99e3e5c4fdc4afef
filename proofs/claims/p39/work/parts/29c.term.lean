/-! ===== v3: the reference's notes, digits, readsTerm ===== -/
def y_rs (h : aH) (tp : List Int32) (t p : Nat) (o : Int) (i : Nat) (kd : List Int32) (nu : List Int64) (be fi : List Int32) : Prop := y_ps h tp t p o ∧ (∃ iI : Int32, w_f h 19610 = some (.int iI) ∧ iI.toInt = i) ∧ i ≤ 11 ∧ w_a h 166 = some (0, .inl kd) ∧ w_a h 167 = some (1, .inr (.inl nu)) ∧ w_a h 168 = some (0, .inl be) ∧ w_a h 169 = some (0, .inl fi)
theorem y_rs_fr {h H : aH} {tp : List Int32} {t p : Nat} {o : Int} {i : Nat} {kd : List Int32} {nu : List Int64} {be fi : List Int32} (s : y_rs h tp t p o i kd nu be fi) (e : y_fr h H [] []) : y_rs H tp t p o i kd nu be fi := by
  obtain ⟨s1, ⟨iI, s2, s3⟩, s4, s5, s6, s7, s8⟩ := s
  exact ⟨y_ps_fr s1 e rfl rfl, ⟨iI, (y_fe e rfl).trans s2, s3⟩, s4, (y_ae e rfl).trans s5, (y_ae e rfl).trans s6, (y_ae e rfl).trans s7, (y_ae e rfl).trans s8⟩
theorem y_rs_ps {h H : aH} {tp : List Int32} {t p q : Nat} {o o' : Int} {i : Nat} {kd : List Int32} {nu : List Int64} {be fi : List Int32} (s : y_rs h tp t p o i kd nu be fi) (e : y_fr h H [19613, 19615] []) (s' : y_ps H tp t q o') : y_rs H tp t q o' i kd nu be fi := by
  obtain ⟨s1, ⟨iI, s2, s3⟩, s4, s5, s6, s7, s8⟩ := s
  exact ⟨s', ⟨iI, (y_fe e rfl).trans s2, s3⟩, s4, (y_ae e rfl).trans s5, (y_ae e rfl).trans s6, (y_ae e rfl).trans s7, (y_ae e rfl).trans s8⟩
def y_Nl (l : List Int64) (i : Nat) : Int := (l.getD i 0).toInt
theorem y_Nlset {l : List Int64} {k i : Nat} {x : Int64} (hk : k < l.length) : y_Nl (l.set k x) i = if i = k then x.toInt else y_Nl l i := by
  unfold y_Nl
  rw [y_gset hk]
  split <;> rfl
/-- only what belongs to the term k has changed -/
def y_rt (k : Nat) (kd kd' : List Int32) (nu nu' : List Int64) (be be' fi fi' : List Int32) : Prop := (∀ j, j ≠ k → y_N kd' j = y_N kd j) ∧ (∀ j, j / 2 ≠ k → y_Nl nu' j = y_Nl nu j) ∧ (∀ j, j / 2 ≠ k → y_N be' j = y_N be j) ∧ ∀ j, j / 2 ≠ k → y_N fi' j = y_N fi j
theorem y_rt_rf {k : Nat} {kd be fi : List Int32} {nu : List Int64} : y_rt k kd kd nu nu be be fi fi := ⟨fun _ _ => rfl, fun _ _ => rfl, fun _ _ => rfl, fun _ _ => rfl⟩
theorem y_rt_tr {k : Nat} {kd kd' kd'' be be' be'' fi fi' fi'' : List Int32} {nu nu' nu'' : List Int64} (a : y_rt k kd kd' nu nu' be be' fi fi') (b : y_rt k kd' kd'' nu' nu'' be' be'' fi' fi'') : y_rt k kd kd'' nu nu'' be be'' fi fi'' := ⟨fun j hj => (b.1 j hj).trans (a.1 j hj), fun j hj => (b.2.1 j hj).trans (a.2.1 j hj), fun j hj => (b.2.2.1 j hj).trans (a.2.2.1 j hj), fun j hj => (b.2.2.2 j hj).trans (a.2.2.2 j hj)⟩
theorem y_rt_kd {k : Nat} {kd be fi : List Int32} {nu : List Int64} {x : Int32} (hl : k < kd.length) : y_rt k kd (kd.set k x) nu nu be be fi fi := ⟨fun j hj => by rw [y_Nset hl, if_neg hj], fun _ _ => rfl, fun _ _ => rfl, fun _ _ => rfl⟩
theorem y_rt_nu {k m : Nat} {kd be fi : List Int32} {nu : List Int64} {x : Int64} (hl : m < nu.length) (hm : m / 2 = k) : y_rt k kd kd nu (nu.set m x) be be fi fi := ⟨fun _ _ => rfl, fun j hj => by rw [y_Nlset hl, if_neg (by intro e; subst e; exact hj hm)], fun _ _ => rfl, fun _ _ => rfl⟩
theorem y_rt_bf {k m : Nat} {kd be fi : List Int32} {nu : List Int64} {x y : Int32} (hl : m < be.length) (hl2 : m < fi.length) (hm : m / 2 = k) : y_rt k kd kd nu nu be (be.set m x) fi (fi.set m y) := ⟨fun _ _ => rfl, fun _ _ => rfl, fun j hj => by rw [y_Nset hl, if_neg (by intro e; subst e; exact hj hm)], fun j hj => by rw [y_Nset hl2, if_neg (by intro e; subst e; exact hj hm)]⟩
/-- a piece of text that is an event -/
def y_ok1 (T : Nat → Int) (t : Nat) (b f : Int) : Prop := 0 ≤ b ∧ 0 ≤ f ∧ f.toNat ≤ t ∧ y_E T f.toNat 163 2 b.toNat f.toNat
def y_tm (T : Nat → Int) (t k : Nat) (kd : List Int32) (nu : List Int64) (be fi : List Int32) : Prop := (y_N kd k = 0 → -1 ≤ y_Nl nu (2 * k) ∧ 1 ≤ y_Nl nu (2 * k + 1)) ∧ (y_N kd k ≠ 0 → y_ok1 T t (y_N be (2 * k)) (y_N fi (2 * k))) ∧ (y_N kd k = 2 → y_ok1 T t (y_N be (2 * k + 1)) (y_N fi (2 * k + 1)))
theorem y_tm_rt {T : Nat → Int} {t k k' : Nat} {kd kd' be be' fi fi' : List Int32} {nu nu' : List Int64} (h : y_tm T t k kd nu be fi) (r : y_rt k' kd kd' nu nu' be be' fi fi') (hne : k ≠ k') : y_tm T t k kd' nu' be' fi' := by
  obtain ⟨r1, r2, r3, r4⟩ := r
  unfold y_tm
  rw [r1 k hne, r2 (2 * k) (by omega), r2 (2 * k + 1) (by omega), r3 (2 * k) (by omega), r3 (2 * k + 1) (by omega), r4 (2 * k) (by omega), r4 (2 * k + 1) (by omega)]
  exact h
theorem y_tm_c {T T' : Nat → Int} {t t' k : Nat} {kd be fi : List Int32} {nu : List Int64} (h : y_tm T t k kd nu be fi) (hT : ∀ j, j < t → T' j = T j) (ht : t ≤ t') : y_tm T' t' k kd nu be fi := by
  obtain ⟨h1, h2, h3⟩ := h
  have go : ∀ {b f : Int}, y_ok1 T t b f → y_ok1 T' t' b f := fun {b f} q => ⟨q.1, q.2.1, by have := q.2.2.1; omega, y_E_c (fun j hj => hT j (by have := q.2.2.1; omega)) (Nat.le_refl _) 163 (by decide) (Nat.le_refl _) q.2.2.2⟩
  exact ⟨h1, fun q => go (h2 q), fun q => go (h3 q)⟩
theorem y_4k {a b c : Int32} {i s g : Nat} (ha : a.toInt = i) (hb : b.toInt = s) (hc : c.toInt = g) (hi : i < 100) (hs : s < 100) (hg : g < 100) : (Int32.ofInt 4 * a + Int32.ofInt 2 * b + c).toInt = ((4 * i + 2 * s + g : Nat) : Int) := y_addS _ (y_addS _ (y_mulS (m := 4) _ (by decide) ha rfl (by omega)) (y_mulS (m := 2) _ (by decide) hb rfl (by omega)) rfl (by omega)) hc rfl (by omega)
theorem y_2k {a b : Int32} {i s : Nat} (ha : a.toInt = i) (hb : b.toInt = s) (hi : i < 100) (hs : s < 100) : (Int32.ofInt 2 * a + b).toInt = ((2 * i + s : Nat) : Int) := y_addS _ (y_mulS (m := 2) _ (by decide) ha rfl (by omega)) hb rfl (by omega)
section WG
variable {X : aX} {C S d : Nat} {K0 : Option Value → aH → Nat → Nat → Prop} {h : aH} {tp : List Int32} {t p : Nat} {o : Int} {i : Nat} {kd : List Int32} {nu : List Int64} {be fi : List Int32}
theorem y_notes (s : y_rs h tp t p o i kd nu be fi) {sI gI : Int32} {sd g : Nat} (hs : sI.toInt = sd) (hs2 : sd < 2) (hg : gI.toInt = g) (hg2 : g < 2)
    (yes : ∀ (H : aH) (q : Nat) (be' fi' : List Int32), y_fr h H [19613, 19615] [168, 169] → y_rs H tp t q o i kd nu be' fi' → y_rt (2 * i + sd) kd kd nu nu be be' fi fi' → (∀ j, j ≠ 4 * i + 2 * sd + g → y_N be' j = y_N be j ∧ y_N fi' j = y_N fi j) → y_ok1 (y_N tp) t (y_N be' (4 * i + 2 * sd + g)) (y_N fi' (4 * i + 2 * sd + g)) → K0 (some (.int (Int32.ofInt 1))) H C S)
    (no : ∀ (H : aH) (q : Nat) (o' : Int) (be' fi' : List Int32), y_fr h H [19613, 19615] [168, 169] → y_rs H tp t q o' i kd nu be' fi' → y_rt (2 * i + sd) kd kd nu nu be be' fi fi' → K0 (some (.int (Int32.ofInt 0))) H C S) :
    aOK s_P X (d + 166) a_m228 0 [some (.ref 155), some (.int sI), some (.int gI), none, none] [] h C S K0 := by
  obtain ⟨s1, ⟨iI, s2, s3⟩, s4, s5, s6, s7, s8⟩ := id s
  obtain ⟨toI, atI, opI, nd, hr, a1, a2, a3, a4, a5, a6, a7, a8, pt, t40, o0, o5⟩ := id s1
  have ik := y_4k s3 hs hg (by omega) (by omega) (by omega)
  have ck := y_cl1 ik
  have bk : 0 ≤ (Int32.ofInt 4 * iI + Int32.ofInt 2 * sI + gI).toInt ∧ (Int32.ofInt 4 * iI + Int32.ofInt 2 * sI + gI).toInt < ((52 : Nat) : Int) := by omega
  have T27 : ∀ {G : aH} {q : Nat} {o' : Int} {r : Int32}, y_fr h G [19613, 19615] [168] → w_a G 168 = some (0, .inl (be.set (4 * i + 2 * sd + g) atI)) → y_ps G tp t q o' → 0 ≤ r.toInt ∧ r.toInt ≤ 1 → (∀ (H : aH) (qI : Int32), y_fr h H [19613, 19615] [168, 169] → qI.toInt = q → y_rs H tp t q o' i kd nu (be.set (4 * i + 2 * sd + g) atI) (fi.set (4 * i + 2 * sd + g) qI) → be.length = 52 → fi.length = 52 → K0 (some (.int r)) H C S) → aOK s_P X (d + 166) a_m228 27 [some (.ref 155), some (.int sI), some (.int gI), some (.int (Int32.ofInt 4 * iI + Int32.ofInt 2 * sI + gI)), none] [.int r] G C S K0 := by
    intro G q o' r e A1 ps hr01 hK
    obtain ⟨toJ, atJ, opJ, ndJ, -, c1, c2, c3, c4, c5, c6, c7, c8, pt', -, -, -⟩ := id ps
    refine w_go z_hl [] [] 40 e.1 ?_
    intro x hx _ _
    obtain rfl := y_fi c4 hx
    refine ⟨bk, ⟨by omega, by omega⟩, fun l hl len bb => ?_⟩
    obtain rfl := y_ai ((y_ae e rfl).trans s8) hl
    refine ⟨hr01, fun H hH => ?_⟩
    have f : y_fr G H [] [169] := y_st (y_mo (y_rf e.1) rfl rfl) hH (by repeat (first | exact w_nil | refine w_cons (Or.inl (y_m rfl)) ?_ | refine w_cons (Or.inr (by assumption)) ?_)) (by repeat (first | exact w_nil | refine w_cons (Or.inl (y_m rfl)) ?_ | refine w_cons (Or.inr (by assumption)) ?_))
    have e2 : y_fr h H [19613, 19615] [168, 169] := y_sq (y_mo e rfl rfl) f rfl rfl
    have A2 := hH.2.2.1 169 _ rfl
    rw [ck] at A2
    obtain ⟨lb, z1, z2, -⟩ := w_arrI hr (o := 168) (t := 0) (n := 52) (lo := 0) (hi := 40) (by decide) rfl
    obtain rfl := y_ai s7 (w_a_at z1)
    exact hK H atJ e2 c5 ⟨y_ps_fr ps f rfl rfl, ⟨iI, (y_fe e2 rfl).trans s2, s3⟩, s4, (y_ae e2 rfl).trans s5, (y_ae e2 rfl).trans s6, (y_ae f rfl).trans A1, A2⟩ z2 len
  refine w_go z_hl [] [229] 40 hr ?_
  intro x hx _ _
  obtain rfl := y_fi s2 hx
  intro y hy _ _
  obtain rfl := y_fi a4 hy
  refine ⟨bk, ⟨by omega, by omega⟩, fun l hl len bb => ?_⟩
  obtain rfl := y_ai s7 hl
  intro H hH
  have e : y_fr h H [19613, 19615] [168] := y_st (y_mo (y_rf hr) rfl rfl) hH (by repeat (first | exact w_nil | refine w_cons (Or.inl (y_m rfl)) ?_ | refine w_cons (Or.inr (by assumption)) ?_)) (by repeat (first | exact w_nil | refine w_cons (Or.inl (y_m rfl)) ?_ | refine w_cons (Or.inr (by assumption)) ?_))
  have e0 : y_fr h H [] [168] := y_st (y_mo (y_rf hr) rfl rfl) hH (by repeat (first | exact w_nil | refine w_cons (Or.inl (y_m rfl)) ?_ | refine w_cons (Or.inr (by assumption)) ?_)) (by repeat (first | exact w_nil | refine w_cons (Or.inl (y_m rfl)) ?_ | refine w_cons (Or.inr (by assumption)) ?_))
  have A1 := hH.2.2.1 168 _ rfl
  rw [ck] at A1
  refine aOK_deep (d := 163 + d + 2) (by omega) (y_rd 163 2 H _ tp t p o (by decide) (y_ps_fr s1 e0 rfl rfl) (by omega) (fun H2 q f2 s4 hpq hE => ⟨fun n e => (by cases e), ?_⟩) (fun H2 q o' f2 s4 => ⟨fun n e => (by cases e), ?_⟩))
  · refine T27 (y_sq e f2 rfl rfl) ((y_ae f2 rfl).trans A1) s4 (by decide) (fun H3 qI e3 hq r3 l1 l2 => ?_)
    refine yes H3 q _ _ e3 r3 (y_rt_bf (by omega) (by omega) (by omega)) (fun j hj => ⟨by rw [y_Nset (by omega), if_neg hj], by rw [y_Nset (by omega), if_neg hj]⟩) ?_
    rw [y_Nset (by omega), y_Nset (by omega), if_pos rfl, if_pos rfl, a5, hq]
    have pt2 := (y_ps_hr s4).2.1
    refine ⟨by omega, by omega, by omega, ?_⟩
    show y_E (y_N tp) q 163 2 p q
    exact y_E_c (fun _ _ => rfl) pt2 163 (by decide) (Nat.le_refl q) (y_E_m (by decide) (by simp only [y_ef]; omega) hE)
  · exact T27 (y_sq e f2 rfl rfl) ((y_ae f2 rfl).trans A1) s4 (by decide) (fun H3 qI e3 hq r3 l1 l2 => no H3 q o' _ _ e3 r3 (y_rt_bf (by omega) (by omega) (by omega)))
theorem y_digits_loop {mb : Int32} : ∀ (m : Nat) (h : aH) (p : Nat) (v : Int64) (nI : Int32) (k w : Nat), y_ps h tp t p o → nI.toInt = k → k + m = 8 → v.toInt = w → w < 10 ^ k →
    (∀ (H : aH) (q : Nat) (r : Int64), y_fr h H [19613] [] → y_ps H tp t q o → 0 ≤ r.toInt → r.toInt ≤ 100000000 → K0 (some (.long r)) H C S) →
    aOK s_P X (d + 2) a_m225 34 [some (.ref 155), some (.int mb), some (.long v), none, some (.int nI)] [] h C S K0 := by
  intro m
  induction m with
  | zero =>
    intro h p v nI k w s hk hm hv hw hK
    obtain ⟨hr, pt, t40, o0, o5⟩ := y_ps_hr s
    have hk8 : k = 8 := by omega
    subst hk8
    refine w_go z_hl [34] [] 40 hr ?_
    refine ⟨fun _ => fun H hH => ?_, fun q => ?_⟩
    · have f : y_fr h H [] [] := y_st (y_rf hr) hH (by repeat (first | exact w_nil | refine w_cons (Or.inl (y_m rfl)) ?_ | refine w_cons (Or.inr (by assumption)) ?_)) (by repeat (first | exact w_nil | refine w_cons (Or.inl (y_m rfl)) ?_ | refine w_cons (Or.inr (by assumption)) ?_))
      exact hK H p v (y_mo f rfl rfl) (y_ps_fr s f rfl rfl) (by omega) (by omega)
    · have : ¬ (((Int8.ofInt 8).toInt32).toInt ≤ nI.toInt) := y_cif q
      rw [y_c8] at this
      omega
  | succ m ihm =>
    intro h p v nI k w s hk hm hv hw hK
    obtain ⟨hr, pt, t40, o0, o5⟩ := y_ps_hr s
    have w8 : 10 ^ (k + 1) ≤ 10 ^ 8 := Nat.pow_le_pow_right (by decide) (by omega)
    have wk : 10 ^ (k + 1) = 10 * 10 ^ k := by rw [Nat.pow_succ, Nat.mul_comm]
    have fin : ∀ {G : aH}, y_fr h G [] [] → K0 (some (.long v)) G C S := fun e => hK _ p v (y_mo e rfl rfl) (y_ps_fr s e rfl rfl) (by omega) (by omega)
    have T45y : ∀ {G : aH}, y_fr h G [] [] → p < t → 48 ≤ y_N tp p → y_N tp p ≤ 57 → aOK s_P X (d + 2) a_m225 45 [some (.ref 155), some (.int mb), some (.long v), none, some (.int nI)] [.int (Int32.ofInt 1)] G C S K0 := by
      intro G e hp c1 c2
      obtain ⟨toI, atI, opI, nd, hr', a1, a2, a3, a4, a5, a6, a7, a8, pt', -, o0', o5'⟩ := y_ps_fr s e rfl rfl
      have ac := y_cl1 a5
      have inc : (atI + Int32.ofInt 1).toInt = ((p + 1 : Nat) : Int) := by rw [y_inc (by omega), a5]; rfl
      have ink : (nI + Int32.ofInt 1).toInt = ((k + 1 : Nat) : Int) := by rw [y_inc (by omega), hk]; rfl
      refine w_go z_hl [34] [] 60 e.1 ?_
      refine ⟨fun q => absurd q (by decide), fun _ => ?_⟩
      intro x hx _ _
      obtain rfl := y_fi a4 hx
      refine ⟨⟨by omega, by omega⟩, fun l hl len bb => ?_⟩
      obtain rfl := y_ai a1 hl
      refine ⟨rfl, y_zini (by show 0 ≤ (atI + Int32.ofInt 1).toInt; omega) (by show (atI + Int32.ofInt 1).toInt ≤ 40; omega), ?_⟩
      intro H hH
      have f : y_fr G H [19613] [] := y_st (y_mo (y_rf e.1) rfl rfl) hH (by repeat (first | exact w_nil | refine w_cons (Or.inl (y_m rfl)) ?_ | refine w_cons (Or.inr (by assumption)) ?_)) (by repeat (first | exact w_nil | refine w_cons (Or.inl (y_m rfl)) ?_ | refine w_cons (Or.inr (by assumption)) ?_))
      have e2 : y_fr h H [19613] [] := y_sq (y_mo e rfl rfl) f rfl rfl
      obtain ⟨c, hc⟩ : ∃ c : Nat, y_N tp p = c := ⟨(y_N tp p).toNat, by omega⟩
      have hcc : (tp.getD atI.toNatClampNeg 0).toInt64.toInt = c := by rw [y_i2l, ac]; exact hc
      have m1 : (Int64.ofInt 10 * v).toInt = ((10 * w : Nat) : Int) := y_mul64 (m := 10) _ (y_i64 (by decide) (by decide)) hv rfl (by omega)
      have m2 : (Int64.ofInt 10 * v + (tp.getD atI.toNatClampNeg 0).toInt64).toInt = ((10 * w + c : Nat) : Int) := y_add64 _ m1 hcc rfl (by omega)
      have m3 : (Int64.ofInt 10 * v + (tp.getD atI.toNatClampNeg 0).toInt64 - Int64.ofInt 48).toInt = ((10 * w + (c - 48) : Nat) : Int) := by
        rw [y_lsub (by rw [m2, y_i64 (by decide) (by decide)]; omega) (by rw [m2, y_i64 (by decide) (by decide)]; omega), m2, y_i64 (by decide) (by decide)]
        omega
      exact ihm H (p + 1) _ _ (k + 1) (10 * w + (c - 48)) ⟨toI, _, opI, nd, f.1, (y_ae f rfl).trans a1, (y_fe f rfl).trans a2, a3, hH.2.1 19613 _ rfl, inc, (y_fe f rfl).trans a6, a7, (y_fe f rfl).trans a8, by omega, t40, o0, o5⟩ ink (by omega) m3 (by omega) (fun H' q r f1 f2 f3 f4 => hK H' q r (y_sq e2 f1 rfl rfl) f2 f3 f4)
    have T45n : ∀ {G : aH}, y_fr h G [] [] → aOK s_P X (d + 2) a_m225 45 [some (.ref 155), some (.int mb), some (.long v), none, some (.int nI)] [.int (Int32.ofInt 0)] G C S K0 := by
      intro G e
      refine w_go z_hl [34] [] 60 e.1 ?_
      exact ⟨fun _ => fun H hH => fin (y_st e hH (by repeat (first | exact w_nil | refine w_cons (Or.inl (y_m rfl)) ?_ | refine w_cons (Or.inr (by assumption)) ?_)) (by repeat (first | exact w_nil | refine w_cons (Or.inl (y_m rfl)) ?_ | refine w_cons (Or.inr (by assumption)) ?_))), fun q => absurd q (by decide)⟩
    refine w_go z_hl [34] [224] 40 hr ?_
    refine ⟨fun q => ?_, fun _ => fun H hH => ?_⟩
    · have : ((Int8.ofInt 8).toInt32).toInt ≤ nI.toInt := (y_ci .ge _ _).mp q
      rw [y_c8] at this
      omega
    · have f : y_fr h H [] [] := y_st (y_rf hr) hH (by repeat (first | exact w_nil | refine w_cons (Or.inl (y_m rfl)) ?_ | refine w_cons (Or.inr (by assumption)) ?_)) (by repeat (first | exact w_nil | refine w_cons (Or.inl (y_m rfl)) ?_ | refine w_cons (Or.inr (by assumption)) ?_))
      refine y_isDigit (y_ps_fr s f rfl rfl) (fun H2 e2 hp c1 c2 => ⟨fun n e => (by cases e), ?_⟩) (fun H2 e2 => ⟨fun n e => (by cases e), ?_⟩)
      · exact T45y (y_sq f e2 rfl rfl) hp c1 c2
      · exact T45n (y_sq f e2 rfl rfl)
theorem y_digits (s : y_ps h tp t p o) {mb : Int32} (hK : ∀ (H : aH) (q : Nat) (r : Int64), y_fr h H [19613] [] → y_ps H tp t q o → -1 ≤ r.toInt → r.toInt ≤ 100000000 → K0 (some (.long r)) H C S) : aOK s_P X (d + 2) a_m225 0 [some (.ref 155), some (.int mb), none, none, none] [] h C S K0 := by
  obtain ⟨hr, pt, t40, o0, o5⟩ := y_ps_hr s
  have T29 : ∀ {G : aH}, y_fr h G [] [] → aOK s_P X (d + 2) a_m225 29 [some (.ref 155), some (.int mb), none, none, none] [] G C S K0 := by
    intro G e
    refine w_go z_hl [34] [] 40 e.1 ?_
    intro H hH
    have e2 := y_st e hH (by repeat (first | exact w_nil | refine w_cons (Or.inl (y_m rfl)) ?_ | refine w_cons (Or.inr (by assumption)) ?_)) (by repeat (first | exact w_nil | refine w_cons (Or.inl (y_m rfl)) ?_ | refine w_cons (Or.inr (by assumption)) ?_))
    exact y_digits_loop 8 H p _ _ 0 0 (y_ps_fr s e2 rfl rfl) rfl rfl rfl (by decide) (fun H' q r f1 f2 f3 f4 => hK H' q r (y_sq (y_mo e2 rfl rfl) f1 rfl rfl) f2 (by omega) f4)
  have T4y : ∀ {G : aH}, y_fr h G [] [] → p < t → aOK s_P X (d + 2) a_m225 4 [some (.ref 155), some (.int mb), none, none, none] [.int (Int32.ofInt 1)] G C S K0 := by
    intro G e hp
    obtain ⟨toI, atI, opI, nd, hr', a1, a2, a3, a4, a5, a6, a7, a8, pt', -, o0', o5'⟩ := y_ps_fr s e rfl rfl
    refine w_go z_hl [29] [] 40 e.1 ?_
    refine ⟨fun q => absurd q (by decide), fun _ => ⟨fun _ => fun H hH => T29 (y_st e hH (by repeat (first | exact w_nil | refine w_cons (Or.inl (y_m rfl)) ?_ | refine w_cons (Or.inr (by assumption)) ?_)) (by repeat (first | exact w_nil | refine w_cons (Or.inl (y_m rfl)) ?_ | refine w_cons (Or.inr (by assumption)) ?_))), fun _ => ?_⟩⟩
    intro x hx _ _
    obtain rfl := y_fi a4 hx
    refine ⟨⟨by omega, by omega⟩, fun l hl len bb => ⟨fun _ => fun H hH => T29 (y_st e hH (by repeat (first | exact w_nil | refine w_cons (Or.inl (y_m rfl)) ?_ | refine w_cons (Or.inr (by assumption)) ?_)) (by repeat (first | exact w_nil | refine w_cons (Or.inl (y_m rfl)) ?_ | refine w_cons (Or.inr (by assumption)) ?_))), fun _ => fun H hH => ?_⟩⟩
    have e2 := y_st e hH (by repeat (first | exact w_nil | refine w_cons (Or.inl (y_m rfl)) ?_ | refine w_cons (Or.inr (by assumption)) ?_)) (by repeat (first | exact w_nil | refine w_cons (Or.inl (y_m rfl)) ?_ | refine w_cons (Or.inr (by assumption)) ?_))
    exact hK H p _ (y_mo e2 rfl rfl) (y_ps_fr s e2 rfl rfl) (by decide) (by decide)
  have T4n : ∀ {G : aH}, y_fr h G [] [] → aOK s_P X (d + 2) a_m225 4 [some (.ref 155), some (.int mb), none, none, none] [.int (Int32.ofInt 0)] G C S K0 := by
    intro G e
    refine w_go z_hl [29] [] 40 e.1 ?_
    refine ⟨fun _ => fun H hH => ?_, fun q => absurd q (by decide)⟩
    have e2 := y_st e hH (by repeat (first | exact w_nil | refine w_cons (Or.inl (y_m rfl)) ?_ | refine w_cons (Or.inr (by assumption)) ?_)) (by repeat (first | exact w_nil | refine w_cons (Or.inl (y_m rfl)) ?_ | refine w_cons (Or.inr (by assumption)) ?_))
    exact hK H p _ (y_mo e2 rfl rfl) (y_ps_fr s e2 rfl rfl) (by decide) (by decide)
  refine w_go z_hl [] [224] 40 hr ?_
  intro H hH
  have f : y_fr h H [] [] := y_st (y_rf hr) hH (by repeat (first | exact w_nil | refine w_cons (Or.inl (y_m rfl)) ?_ | refine w_cons (Or.inr (by assumption)) ?_)) (by repeat (first | exact w_nil | refine w_cons (Or.inl (y_m rfl)) ?_ | refine w_cons (Or.inr (by assumption)) ?_))
  refine y_isDigit (y_ps_fr s f rfl rfl) (fun H2 e2 hp c1 c2 => ⟨fun n e => (by cases e), ?_⟩) (fun H2 e2 => ⟨fun n e => (by cases e), ?_⟩)
  · exact T4y (y_sq f e2 rfl rfl) hp
  · exact T4n (y_sq f e2 rfl rfl)
end WG
