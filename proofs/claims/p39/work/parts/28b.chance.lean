/-! ===== v3: the reference's chance, moves ===== -/
theorem i_abs (a b : Int32) : b &&& (a ||| b) = b := by
  apply Int32.toBitVec_inj.mp
  rw [Int32.toBitVec_and, Int32.toBitVec_or]
  ext i hi
  rw [BitVec.getElem_and, BitVec.getElem_or]
  cases a.toBitVec[i] <;> cases b.toBitVec[i] <;> rfl
theorem i_or4 (a b c e : Int32) : (a ||| b) ||| (c ||| e) = (a ||| c) ||| (b ||| e) := by ac_rfl
theorem i_orI (a : Int32) : a ||| a = a := Int32.or_self
theorem i_or0 (a : Int32) : a ||| Int32.ofInt 0 = a := by
  rw [show Int32.ofInt 0 = (0 : Int32) by decide]
  exact Int32.or_zero
theorem y_bits_m {p p' : Nat → Bool} (h : ∀ v, p' v = true → p v = true) : ∀ n, y_bits p n ||| y_bits p' n = y_bits p n
  | 0 => by
    show Int32.ofInt 0 ||| Int32.ofInt 0 = Int32.ofInt 0
    exact i_or0 _
  | n + 1 => by
    show (y_bits p n ||| cond (p n) (Int32.ofInt 1 <<< (Int32.ofNat n &&& 31)) (Int32.ofInt 0)) ||| (y_bits p' n ||| cond (p' n) (Int32.ofInt 1 <<< (Int32.ofNat n &&& 31)) (Int32.ofInt 0)) = y_bits p n ||| cond (p n) (Int32.ofInt 1 <<< (Int32.ofNat n &&& 31)) (Int32.ofInt 0)
    rw [i_or4, y_bits_m h n]
    congr 1
    cases q' : p' n with
    | false => exact i_or0 _
    | true =>
      rw [h n q']
      exact i_orI _
theorem y_sel_m {a a' b b' w : Int32} (ha : a ||| a' = a) (hb : b ||| b' = b) (h : y_sel a b w = true) : y_sel a' b' w = true := by
  unfold y_sel at h ⊢
  rw [Bool.and_eq_true] at h ⊢
  obtain ⟨h1, h2⟩ := h
  have h1 := of_decide_eq_true h1
  have h2 := of_decide_eq_true h2
  have ea : a' &&& a = a' := by
    have := i_abs a a'
    rw [ha] at this
    exact this
  have eb : b' &&& b = b' := by
    have := i_abs b b'
    rw [hb] at this
    exact this
  refine ⟨decide_eq_true ?_, decide_eq_true ?_⟩
  · calc w &&& a' = w &&& (a' &&& a) := by rw [ea]
      _ = a' &&& (w &&& a) := by ac_rfl
      _ = a' := by rw [h1, ea]
  · calc w &&& b' = w &&& (b' &&& b) := by rw [eb]
      _ = b' &&& (w &&& b) := by ac_rfl
      _ = 0 := by rw [h2]; exact Int32.and_zero
theorem y_ws_m {wl : List Int64} (h0 : ∀ x ∈ wl, 0 ≤ x.toInt) {a a' b b' : Int32} (ha : a ||| a' = a) (hb : b ||| b' = b) : ∀ n, y_ws wl a b n ≤ y_ws wl a' b' n
  | 0 => Int.le_refl 0
  | n + 1 => by
    show y_ws wl a b n + (if y_sel a b (Int32.ofNat n) then (wl.getD n 0).toInt else 0) ≤ y_ws wl a' b' n + (if y_sel a' b' (Int32.ofNat n) then (wl.getD n 0).toInt else 0)
    have ih := y_ws_m h0 ha hb n
    have hg := y_getD h0 n
    cases q : y_sel a b (Int32.ofNat n) with
    | true =>
      rw [y_sel_m ha hb q, if_pos rfl]
      omega
    | false =>
      rw [if_neg Bool.false_ne_true]
      split <;> omega
theorem y_nw_m {sa : List Int32} {nd : Int32} {wl : List Int64} {seen : Int32} (h0 : ∀ x ∈ wl, 0 ≤ x.toInt) : y_nw sa nd wl (Int32.ofInt (-1)) true (Int32.ofInt (-1)) ≤ y_nw sa nd wl (Int32.ofInt (-1)) true seen := by
  unfold y_nw
  have eb : y_bt (Int32.ofInt (-1)) = Int32.ofInt 0 := by decide
  rw [eb]
  dsimp only [cond_true]
  rw [i_or0, i_or0, i_or0, i_or0]
  refine y_ws_m h0 (y_bits_m (fun v q => ?_) _) (y_bits_m (fun v q => ?_) _) _
  · unfold y_pS at q ⊢
    rw [Bool.and_eq_true] at q ⊢
    exact ⟨by rw [decide_eq_false (by rw [show (Int32.ofInt (-1)).toInt = -1 by decide]; omega)]; rfl, q.2⟩
  · unfold y_pN at q ⊢
    rw [Bool.and_eq_true] at q ⊢
    exact ⟨by rw [decide_eq_false (by rw [show (Int32.ofInt (-1)).toInt = -1 by decide]; omega)]; rfl, q.2⟩
section WG
variable {X : aX} {C S d : Nat} {K0 : Option Value → aH → Nat → Nat → Prop}
theorem q_lowest {h : aH} (hr : w_hr z_D h) {n m : Int64} (hn : -9223372036854775808 < n.toInt) (hm : 1 ≤ m.toInt) (hk : ∀ (u l : Int64) (H : aH), y_fr h H [19587, 19588] [] → w_f H 19587 = some (.long u) → w_f H 19588 = some (.long l) → 1 ≤ l.toInt → l.toInt ≤ m.toInt → -(n.toInt.natAbs : Int) ≤ u.toInt → u.toInt ≤ n.toInt.natAbs → (0 ≤ n.toInt → 0 ≤ u.toInt) → K0 none H C S) : aOK s_P X (d + 1) a_m194 0 [some (.ref 155), some (.long n), none, some (.long m), none, none, none] [] h C S K0 := by
  refine y_lowest hr hn hm (fun g u l H hg hg1 hu hl hl1 hrel => ?_)
  have e : y_fr h H [19587, 19588] [] := y_st (y_mo (y_rf hr) rfl rfl) hrel (by repeat (first | exact w_nil | refine w_cons (Or.inl (y_m rfl)) ?_ | refine w_cons (Or.inr (by assumption)) ?_)) (by repeat (first | exact w_nil | refine w_cons (Or.inl (y_m rfl)) ?_ | refine w_cons (Or.inr (by assumption)) ?_))
  have hub : u.toInt.natAbs ≤ n.toInt.natAbs := by
    rw [hu, Int.natAbs_tdiv]
    exact Nat.div_le_self _ _
  refine hk u l H e (hrel.2.1 19587 _ rfl) (hrel.2.1 19588 _ rfl) hl1 ?_ (by omega) (by omega) (fun q => ?_)
  · rw [hl]
    exact Int.ediv_le_self _ (by omega)
  · rw [hu]
    exact Int.tdiv_nonneg q (by omega)
theorem q_weighsUp {h : aH} (hr : w_hr z_D h) (hJ : y_J h) (hK : ∀ (wl : List Int64) (H : aH), y_fr h H [] [163] → y_J H → y_wl H wl → K0 none H C S) : aOK s_P X (d + 2) a_m188 0 [some (.ref 155), none] [] h C S K0 := by
  have hJ' := hJ
  obtain ⟨q1, q2, q3, q4, q5, q6, q7⟩ := hJ'
  obtain ⟨nd, le, de, ta, n1, n2, n3, n4, c1, c2, c3, c4, c5⟩ := id q1
  obtain ⟨nd', wl, w1, w2, w3, w4, w5⟩ := q4
  obtain rfl := y_fi n1 w1
  obtain ⟨fo, z5, z6, -⟩ := w_arrI hr (o := 159) (t := 0) (n := 10) (lo := -1) (hi := 1) (by decide) rfl
  obtain ⟨b1, b2⟩ := y_ndb hr n1
  have net : y_net h nd le de ta fo := ⟨n1, n2, n3, n4, w_a_at z5, c1, c2, c3, c4⟩
  refine y_weighsUp hr net w2 w5 (fun wl' H e hw' hok => ?_)
  have net2 : y_net H nd le de ta fo := y_net_fr2 e rfl rfl net
  have hwl := y_wok_wl net2 e.1 b1 b2 hw' hok
  exact hK wl' H e ⟨j_net_e (y_fe e rfl) (y_ae e rfl) (y_ae e rfl) (y_ae e rfl) q1, j_dp_e (y_fe e rfl) (y_fe e rfl) (y_ae e rfl) q2, j_old_e (y_ae e rfl) (y_ae e rfl) (y_ae e rfl) (y_ae e rfl) (y_ae e rfl) (y_ae e rfl) q3, ⟨nd, wl', (y_fe e rfl).trans n1, hw', hwl.2.1, hwl.2.2, hok.2⟩, j_seen_e (y_fe e rfl) (y_fe e rfl) (y_ae e rfl) (y_ae e rfl) q5, j_kept_e (y_fe e rfl) (y_ae e rfl) (y_ae e rfl) (y_ae e rfl) (y_ae e rfl) q6, j_land_e (y_fe e rfl) (y_ae e rfl) q7⟩ hwl
theorem y_enters {h : aH} (hr : w_hr z_D h) {v : Int64} {rw' : Int32} (g : w_f h 19585 = some (.int rw')) (r0 : 0 ≤ rw'.toInt) (r7 : rw'.toInt ≤ 7) (hK : ∀ (H : aH) (r2 : Int32), y_fr h H [19585] [154] → w_f H 19585 = some (.int r2) → r2.toInt = rw'.toInt + 1 → K0 none H C S) : aOK s_P X d a_m197 0 [some (.ref 155), some (.long v), none] [] h C S K0 := by
  have hinc : (rw' + Int32.ofInt 1).toInt = rw'.toInt + 1 := y_inc (by omega)
  refine w_go z_hl [] [] 30 hr ?_
  intro x hx _ _
  obtain rfl := y_fi g hx
  refine ⟨⟨by omega, by omega⟩, y_l64 _, fun l hl len bb => ?_⟩
  refine ⟨rfl, y_zini (by show 0 ≤ (rw' + Int32.ofInt 1).toInt; omega) (by show (rw' + Int32.ofInt 1).toInt ≤ 8; omega), ?_⟩
  intro H hH
  exact hK H _ (y_st (y_mo (y_rf hr) rfl rfl) hH (by repeat (first | exact w_nil | refine w_cons (Or.inl (y_m rfl)) ?_ | refine w_cons (Or.inr (by assumption)) ?_)) (by repeat (first | exact w_nil | refine w_cons (Or.inl (y_m rfl)) ?_ | refine w_cons (Or.inr (by assumption)) ?_))) (hH.2.1 19585 _ rfl) hinc
theorem y_tells {h : aH} (hr : w_hr z_D h) {rw' : Int32} (g : w_f h 19585 = some (.int rw')) (r0 : 0 ≤ rw'.toInt) (r6 : rw'.toInt ≤ 6) (hK : ∀ (H : aH) (r2 : Int32), y_fr h H [19585] [154] → w_f H 19585 = some (.int r2) → r2.toInt = rw'.toInt + 2 → K0 none H C S) : aOK s_P X (d + 1) a_m196 0 [some (.ref 155)] [] h C S K0 := by
  have T16 : ∀ {G : aH} {r2 : Int32}, y_fr h G [19585] [154] → w_f G 19585 = some (.int r2) → r2.toInt = rw'.toInt + 2 → aOK s_P X (d + 1) a_m196 16 [some (.ref 155)] [] G C S K0 := by
    intro G r2 e g2 hr2
    refine w_go z_hl [] [197] 30 e.1 ?_
    intro H hH
    have f := y_st (y_rf e.1) hH (by repeat (first | exact w_nil | refine w_cons (Or.inl (y_m rfl)) ?_ | refine w_cons (Or.inr (by assumption)) ?_)) (by repeat (first | exact w_nil | refine w_cons (Or.inl (y_m rfl)) ?_ | refine w_cons (Or.inr (by assumption)) ?_))
    exact hK H r2 (y_sq e f rfl rfl) ((y_fe f rfl).trans g2) hr2
  have T8 : ∀ {G : aH} {r1 : Int32}, y_fr h G [19585] [154] → w_f G 19585 = some (.int r1) → r1.toInt = rw'.toInt + 1 → aOK s_P X (d + 1) a_m196 8 [some (.ref 155)] [] G C S K0 := by
    intro G r1 e g1 hr1
    refine w_go z_hl [] [197] 30 e.1 ?_
    intro x hx _ _
    intro H hH
    have f : y_fr G H [] [] := y_st (y_rf e.1) hH (by repeat (first | exact w_nil | refine w_cons (Or.inl (y_m rfl)) ?_ | refine w_cons (Or.inr (by assumption)) ?_)) (by repeat (first | exact w_nil | refine w_cons (Or.inl (y_m rfl)) ?_ | refine w_cons (Or.inr (by assumption)) ?_))
    refine y_enters f.1 ((y_fe f rfl).trans g1) (by omega) (by omega) (fun H2 r2 e2 g2 hr2 => ⟨fun n e => (by cases e), ?_⟩)
    exact T16 (y_sq e (y_sq (y_mo f rfl rfl) e2 rfl rfl : y_fr G H2 [19585] [154]) rfl rfl) g2 (by omega)
  refine w_go z_hl [] [197] 30 hr ?_
  intro x hx _ _
  intro H hH
  have f : y_fr h H [] [] := y_st (y_rf hr) hH (by repeat (first | exact w_nil | refine w_cons (Or.inl (y_m rfl)) ?_ | refine w_cons (Or.inr (by assumption)) ?_)) (by repeat (first | exact w_nil | refine w_cons (Or.inl (y_m rfl)) ?_ | refine w_cons (Or.inr (by assumption)) ?_))
  refine y_enters f.1 ((y_fe f rfl).trans g) (by omega) (by omega) (fun H2 r1 e2 g2 hr2 => ⟨fun n e => (by cases e), ?_⟩)
  exact T8 (y_sq (y_mo f rfl rfl) e2 rfl rfl) g2 hr2
theorem y_chance_tail {h : aH} {nd node : Int32} {sa : List Int32} {wl : List Int64} (hr : w_hr z_D h) (g1 : w_f h 19591 = some (.int nd)) (g2 : w_a h 160 = some (0, .inl sa)) (hw : y_wl h wl) (hk : ∀ (r : Int32) (H : aH), y_fr h H [19585, 19587, 19588] [154] → K0 (some (.int r)) H C S) : aOK s_P X (d + 4) a_m187 19 [some (.ref 155), some (.int node)] [] h C S K0 := by
  obtain ⟨b1, b2⟩ := y_ndb hr g1
  have T55 : ∀ {G : aH}, y_fr h G [19585, 19587, 19588] [154] → aOK s_P X (d + 4) a_m187 55 [some (.ref 155), some (.int node)] [] G C S K0 := by
    intro G e
    refine w_go z_hl [] [] 30 e.1 ?_
    intro H hH
    exact hk _ H (y_st e hH (by repeat (first | exact w_nil | refine w_cons (Or.inl (y_m rfl)) ?_ | refine w_cons (Or.inr (by assumption)) ?_)) (by repeat (first | exact w_nil | refine w_cons (Or.inl (y_m rfl)) ?_ | refine w_cons (Or.inr (by assumption)) ?_)))
  have T46 : ∀ {G : aH}, y_fr h G [19585, 19587, 19588] [154] → aOK s_P X (d + 4) a_m187 46 [some (.ref 155), some (.int node)] [] G C S K0 := by
    intro G e
    refine w_go z_hl [] [196] 30 e.1 ?_
    refine ⟨rfl, y_zini (by decide) (by decide), fun H hH => ?_⟩
    have e2 := y_st e hH (by repeat (first | exact w_nil | refine w_cons (Or.inl (y_m rfl)) ?_ | refine w_cons (Or.inr (by assumption)) ?_)) (by repeat (first | exact w_nil | refine w_cons (Or.inl (y_m rfl)) ?_ | refine w_cons (Or.inr (by assumption)) ?_))
    refine y_tells e2.1 (hH.2.1 19585 _ rfl) (by decide) (by decide) (fun H2 r2 e3 _ _ => ⟨fun n e => (by cases e), ?_⟩)
    exact T55 (y_sq e2 e3 rfl rfl)
  have T43 : ∀ {G : aH} {a b : Int64}, y_fr h G [] [] → 0 ≤ a.toInt → 1 ≤ b.toInt → aOK s_P X (d + 4) a_m187 43 [some (.ref 155), some (.int node)] [.long b, .long a, .ref 155] G C S K0 := by
    intro G a b e ha hb
    refine w_go z_hl [] [194] 30 e.1 ?_
    intro H hH
    have e2 := y_st e hH (by repeat (first | exact w_nil | refine w_cons (Or.inl (y_m rfl)) ?_ | refine w_cons (Or.inr (by assumption)) ?_)) (by repeat (first | exact w_nil | refine w_cons (Or.inl (y_m rfl)) ?_ | refine w_cons (Or.inr (by assumption)) ?_))
    refine q_lowest e2.1 (by omega) hb (fun u l H2 e3 _ _ _ _ _ _ _ => ⟨fun n e => (by cases e), ?_⟩)
    exact T46 (y_sq (y_mo e2 rfl rfl) e3 rfl rfl)
  have T39 : ∀ {G : aH} {a : Int64}, y_fr h G [] [] → 0 ≤ a.toInt → y_nw sa nd wl (Int32.ofInt (-1)) true (Int32.ofInt (-1)) ≠ 0 → aOK s_P X (d + 4) a_m187 39 [some (.ref 155), some (.int node)] [.long a, .ref 155] G C S K0 := by
    intro G a e ha hne
    refine w_go z_hl [] [189] 30 e.1 ?_
    intro H hH
    have e2 := y_st e hH (by repeat (first | exact w_nil | refine w_cons (Or.inl (y_m rfl)) ?_ | refine w_cons (Or.inr (by assumption)) ?_)) (by repeat (first | exact w_nil | refine w_cons (Or.inl (y_m rfl)) ?_ | refine w_cons (Or.inr (by assumption)) ?_))
    refine y_now e2.1 ((y_fe e2 rfl).trans g1) ((y_ae e2 rfl).trans g2) (y_wl_fr e2 (fun q => by cases q) hw) (fun r H2 e3 hr3 => ⟨fun n e => (by cases e), ?_⟩)
    have := y_nw_b (sa := sa) (node := Int32.ofInt (-1)) (so := true) (but := Int32.ofInt (-1)) hw b1 b2
    exact T43 (y_sq e2 e3 rfl rfl) ha (by omega)
  have T31 : ∀ {G : aH}, y_fr h G [] [] → y_nw sa nd wl (Int32.ofInt (-1)) true (Int32.ofInt (-1)) ≠ 0 → aOK s_P X (d + 4) a_m187 31 [some (.ref 155), some (.int node)] [] G C S K0 := by
    intro G e hne
    refine w_go z_hl [] [190] 30 e.1 ?_
    intro H hH
    have e2 := y_st e hH (by repeat (first | exact w_nil | refine w_cons (Or.inl (y_m rfl)) ?_ | refine w_cons (Or.inr (by assumption)) ?_)) (by repeat (first | exact w_nil | refine w_cons (Or.inl (y_m rfl)) ?_ | refine w_cons (Or.inr (by assumption)) ?_))
    refine y_nowWith (b := true) e2.1 ((y_fe e2 rfl).trans g1) ((y_ae e2 rfl).trans g2) (y_wl_fr e2 (fun q => by cases q) hw) (fun r H2 e3 hr3 => ⟨fun n e => (by cases e), ?_⟩)
    have := y_nw_b (sa := sa) (node := node) (so := true) (but := Int32.ofInt (-1)) hw b1 b2
    exact T39 (y_sq e2 e3 rfl rfl) (by omega) hne
  have T23 : ∀ {G : aH} {r : Int64}, y_fr h G [] [] → r.toInt = y_nw sa nd wl (Int32.ofInt (-1)) true (Int32.ofInt (-1)) → aOK s_P X (d + 4) a_m187 23 [some (.ref 155), some (.int node)] [.long r] G C S K0 := by
    intro G r e hr3
    refine w_go z_hl [31] [] 30 e.1 ?_
    refine ⟨fun q => ?_, fun q => ?_⟩
    · have q2 : r.toInt ≠ (Int64.ofNat 0).toInt := (y_cl .ne _ _).mp q
      intro H hH
      exact T31 (y_st e hH (by repeat (first | exact w_nil | refine w_cons (Or.inl (y_m rfl)) ?_ | refine w_cons (Or.inr (by assumption)) ?_)) (by repeat (first | exact w_nil | refine w_cons (Or.inl (y_m rfl)) ?_ | refine w_cons (Or.inr (by assumption)) ?_))) (fun e0 => q2 (by rw [hr3, e0]; decide))
    · intro H hH
      exact hk _ H (y_st (y_mo e rfl rfl) hH (by repeat (first | exact w_nil | refine w_cons (Or.inl (y_m rfl)) ?_ | refine w_cons (Or.inr (by assumption)) ?_)) (by repeat (first | exact w_nil | refine w_cons (Or.inl (y_m rfl)) ?_ | refine w_cons (Or.inr (by assumption)) ?_)))
  refine w_go z_hl [] [189] 30 hr ?_
  intro H hH
  have e2 : y_fr h H [] [] := y_st (y_rf hr) hH (by repeat (first | exact w_nil | refine w_cons (Or.inl (y_m rfl)) ?_ | refine w_cons (Or.inr (by assumption)) ?_)) (by repeat (first | exact w_nil | refine w_cons (Or.inl (y_m rfl)) ?_ | refine w_cons (Or.inr (by assumption)) ?_))
  refine y_now e2.1 ((y_fe e2 rfl).trans g1) ((y_ae e2 rfl).trans g2) (y_wl_fr e2 (fun q => by cases q) hw) (fun r H2 e3 hr3 => ⟨fun n e => (by cases e), ?_⟩)
  exact T23 (y_sq e2 e3 rfl rfl) hr3
theorem p_chance {h : aH} (hr : w_hr z_D h) (hJ : y_J h) {node : Int32} (hk : ∀ (r : Int32) (H : aH), y_fr h H [19584, 19585, 19587, 19588] [154, 163] → y_J H → K0 (some (.int r)) H C S) : aOK s_P X (d + 4) a_m187 0 [some (.ref 155), some (.int node)] [] h C S K0 := by
  obtain ⟨nd, sm, so, sa, s1, s2, s3, s4, s5⟩ := id hJ.2.2.2.2.1
  have T10 : ∀ {G : aH} {b : Bool}, y_fr h G [19584] [] → aOK s_P X (d + 4) a_m187 10 [some (.ref 155), some (.int node)] [.int (y_01 b)] G C S K0 := by
    intro G b e
    refine w_go z_hl [] [188] 30 e.1 ?_
    refine ⟨fun _ => ?_, fun _ => fun H hH => ?_⟩
    · intro H hH
      have e2 := y_st e hH (by repeat (first | exact w_nil | refine w_cons (Or.inl (y_m rfl)) ?_ | refine w_cons (Or.inr (by assumption)) ?_)) (by repeat (first | exact w_nil | refine w_cons (Or.inl (y_m rfl)) ?_ | refine w_cons (Or.inr (by assumption)) ?_))
      have J2 := y_J_fr e2 rfl rfl hJ
      refine q_weighsUp e2.1 J2 (fun wl H2 e3 J3 hw => ⟨fun n e => (by cases e), ?_⟩)
      have e4 : y_fr h H2 [19584] [163] := y_sq (y_mo e2 rfl rfl) e3 rfl rfl
      refine y_chance_tail e4.1 ((y_fe e4 rfl).trans s1) ((y_ae e4 rfl).trans s4) hw (fun r H5 e5 => ?_)
      exact hk r H5 (y_sq (y_mo e4 rfl rfl) e5 rfl rfl) (y_J_fr e5 rfl rfl J3)
    · have e2 := y_st e hH (by repeat (first | exact w_nil | refine w_cons (Or.inl (y_m rfl)) ?_ | refine w_cons (Or.inr (by assumption)) ?_)) (by repeat (first | exact w_nil | refine w_cons (Or.inl (y_m rfl)) ?_ | refine w_cons (Or.inr (by assumption)) ?_))
      exact hk _ H (y_mo e2 rfl rfl) (y_J_fr e2 rfl rfl hJ)
  refine w_go z_hl [] [178] 30 hr ?_
  refine ⟨rfl, y_zini (by decide) (by decide), fun H1 h1 => ?_⟩
  have e1 : y_fr h H1 [19584] [] := y_st (y_mo (y_rf hr) rfl rfl) h1 (by repeat (first | exact w_nil | refine w_cons (Or.inl (y_m rfl)) ?_ | refine w_cons (Or.inr (by assumption)) ?_)) (by repeat (first | exact w_nil | refine w_cons (Or.inl (y_m rfl)) ?_ | refine w_cons (Or.inr (by assumption)) ?_))
  refine q_isNode (v := node) e1.1 ((y_fe e1 rfl).trans s1) (fun H2 v h2 hv hv2 hvc => ⟨fun n e => (by cases e), ?_⟩) (fun H2 h2 => ⟨fun n e => (by cases e), ?_⟩)
  · exact T10 (y_sq e1 h2 rfl rfl)
  · exact T10 (y_sq e1 h2 rfl rfl)
end WG
