/-! ===== v3: the reference's likely ===== -/
theorem y_now_ws {sa : List Int32} {nd : Int32} {wl : List Int64} : y_nw sa nd wl (Int32.ofInt (-1)) true (Int32.ofInt (-1)) = y_ws wl (y_bits (y_pS sa (Int32.ofInt (-1))) nd.toInt.toNat) (y_bits (y_pN sa (Int32.ofInt (-1))) nd.toInt.toNat) (y_ways nd) := by
  unfold y_nw
  have eb : y_bt (Int32.ofInt (-1)) = Int32.ofInt 0 := by decide
  rw [eb]
  dsimp only [cond_true]
  rw [i_or0, i_or0]
section WG
variable {X : aX} {C S d : Nat} {K0 : Option Value → aH → Nat → Nat → Prop}
theorem y_likely_loop {nd : Int32} {sa : List Int32} {wl : List Int64} {sum : Int64} {A B : Int32} (hA : A = y_bits (y_pS sa (Int32.ofInt (-1))) nd.toInt.toNat) (hB : B = y_bits (y_pN sa (Int32.ofInt (-1))) nd.toInt.toNat) (hs : sum.toInt = y_ws wl A B (y_ways nd)) (hs1 : 1 ≤ sum.toInt) : ∀ (t : Nat) (h : aH) (bI wI : Int32) (k : Nat) (o5 : Option Value), w_hr z_D h → w_f h 19591 = some (.int nd) → w_a h 160 = some (0, .inl sa) → y_wl h wl → wI.toInt = k → k + t = y_ways nd → -1 ≤ bI.toInt → bI.toInt < 1024 → (bI.toInt < 0 → y_ws wl A B k = 0) →
    (∀ (r : Int32) (H : aH), y_fr h H [19585, 19587, 19588] [154] → K0 (some (.int r)) H C S) →
    aOK s_P X (d + 3) a_m199 28 [some (.ref 155), some (.long sum), none, some (.int bI), some (.int wI), o5] [] h C S K0 := by
  intro t
  induction t with
  | zero =>
    intro h bI wI k o5 hr g1 g2 hw hk hkt b0 b1 hb hK
    obtain ⟨c1, c2⟩ := y_ndb hr g1
    have hbp : 0 ≤ bI.toInt := by
      rcases Int.lt_or_le bI.toInt 0 with q | q
      · have := hb q
        rw [show k = y_ways nd by omega, ← hs] at this
        omega
      · exact q
    have T126 : ∀ {G : aH}, y_fr h G [19585, 19587, 19588] [154] → aOK s_P X (d + 3) a_m199 126 [some (.ref 155), some (.long sum), none, some (.int bI), some (.int wI), o5] [] G C S K0 := by
      intro G e
      refine w_go z_hl [] [] 30 e.1 ?_
      intro H hH
      exact hK _ H (y_st e hH (by repeat (first | exact w_nil | refine w_cons (Or.inl (y_m rfl)) ?_ | refine w_cons (Or.inr (by assumption)) ?_)) (by repeat (first | exact w_nil | refine w_cons (Or.inl (y_m rfl)) ?_ | refine w_cons (Or.inr (by assumption)) ?_)))
    have T117 : ∀ {G : aH}, y_fr h G [19585, 19587, 19588] [154] → aOK s_P X (d + 3) a_m199 117 [some (.ref 155), some (.long sum), none, some (.int bI), some (.int wI), o5] [] G C S K0 := by
      intro G e
      refine w_go z_hl [] [196] 30 e.1 ?_
      refine ⟨rfl, y_zini (by decide) (by decide), fun H hH => ?_⟩
      have e2 := y_st e hH (by repeat (first | exact w_nil | refine w_cons (Or.inl (y_m rfl)) ?_ | refine w_cons (Or.inr (by assumption)) ?_)) (by repeat (first | exact w_nil | refine w_cons (Or.inl (y_m rfl)) ?_ | refine w_cons (Or.inr (by assumption)) ?_))
      refine y_tells e2.1 (hH.2.1 19585 _ rfl) (by decide) (by decide) (fun H2 r2 e3 _ _ => ⟨fun n e => (by cases e), ?_⟩)
      exact T126 (y_sq e2 e3 rfl rfl)
    refine w_go z_hl [28] [194] 30 hr ?_
    intro x hx y1 y2
    obtain rfl := y_fi g1 hx
    obtain ⟨ea, l1, l2⟩ := y_all y1 y2
    refine ⟨fun q => ?_, fun q => ?_⟩
    · refine ⟨⟨by omega, by omega⟩, fun l hl len bb => ?_⟩
      obtain rfl := y_al hw.1 hl
      intro H hH
      have e : y_fr h H [] [] := y_st (y_rf hr) hH (by repeat (first | exact w_nil | refine w_cons (Or.inl (y_m rfl)) ?_ | refine w_cons (Or.inr (by assumption)) ?_)) (by repeat (first | exact w_nil | refine w_cons (Or.inl (y_m rfl)) ?_ | refine w_cons (Or.inr (by assumption)) ?_))
      have hg := y_getD hw.2.1 bI.toNatClampNeg
      refine q_lowest (n := wl.getD bI.toNatClampNeg 0) (m := sum) e.1 (by omega) hs1 (fun u l H2 e3 _ _ _ _ _ _ _ => ⟨fun n e => (by cases e), ?_⟩)
      exact T117 (y_sq (y_mo e rfl rfl) e3 rfl rfl)
    · have : ¬ ((Int32.ofInt 1 <<< (nd &&& 31) - Int32.ofInt 1).toInt < wI.toInt) := y_cif q
      omega
  | succ t ih =>
    intro h bI wI k o5 hr g1 g2 hw hk hkt b0 b1 hb hK
    obtain ⟨c1, c2⟩ := y_ndb hr g1
    obtain ⟨ea, l1, l2⟩ := y_all c1 c2
    obtain ⟨ew, wc⟩ := y_ofNat hk (by omega)
    have hik : (wI + Int32.ofInt 1).toInt = ((k + 1 : Nat) : Int) := by rw [y_inc (by omega), hk]; rfl
    have next : ∀ {H : aH} {b' : Int32} {o : Option Value}, y_fr h H [] [] → -1 ≤ b'.toInt → b'.toInt < 1024 → (b'.toInt < 0 → y_ws wl A B (k + 1) = 0) → aOK s_P X (d + 3) a_m199 28 [some (.ref 155), some (.long sum), none, some (.int b'), some (.int (wI + Int32.ofInt 1)), o] [] H C S K0 := by
      intro H b' o e q0 q1 q2
      exact ih H _ _ (k + 1) _ e.1 ((y_fe e rfl).trans g1) ((y_ae e rfl).trans g2) (y_wl_fr e (fun q => by cases q) hw) hik (by omega) q0 q1 q2 (fun r H' f => hK r H' (y_sq (y_mo e rfl rfl) f rfl rfl))
    have skip : y_sel A B wI = false → bI.toInt < 0 → y_ws wl A B (k + 1) = 0 := by
      intro q1 q2
      show y_ws wl A B k + (if y_sel A B (Int32.ofNat k) then (wl.getD k 0).toInt else 0) = 0
      rw [← ew, q1, hb q2]
      rfl
    have T69n : ∀ {G : aH}, y_fr h G [] [] → y_sel A B wI = false → aOK s_P X (d + 3) a_m199 69 [some (.ref 155), some (.long sum), none, some (.int bI), some (.int wI), o5] [.int (Int32.ofInt 0)] G C S K0 := by
      intro G e hsel
      refine w_go z_hl [28] [] 30 e.1 ?_
      exact ⟨fun _ => fun H hH => next (y_st e hH (by repeat (first | exact w_nil | refine w_cons (Or.inl (y_m rfl)) ?_ | refine w_cons (Or.inr (by assumption)) ?_)) (by repeat (first | exact w_nil | refine w_cons (Or.inl (y_m rfl)) ?_ | refine w_cons (Or.inr (by assumption)) ?_))) b0 b1 (skip hsel), fun q => absurd q (by decide)⟩
    have T69y : ∀ {G : aH}, y_fr h G [] [] → aOK s_P X (d + 3) a_m199 69 [some (.ref 155), some (.long sum), none, some (.int bI), some (.int wI), o5] [.int (Int32.ofInt 1)] G C S K0 := by
      intro G e
      refine w_go z_hl [28] [] 30 e.1 ?_
      refine ⟨fun q => absurd q (by decide), fun _ => ⟨fun _ => fun H hH => next (y_st e hH (by repeat (first | exact w_nil | refine w_cons (Or.inl (y_m rfl)) ?_ | refine w_cons (Or.inr (by assumption)) ?_)) (by repeat (first | exact w_nil | refine w_cons (Or.inl (y_m rfl)) ?_ | refine w_cons (Or.inr (by assumption)) ?_))) (by omega) (by omega) (fun q => by omega), fun q => ?_⟩⟩
      have hb0 : ¬ (bI.toInt < (0 : Int32).toInt) := y_cif q
      rw [show (0 : Int32).toInt = 0 by decide] at hb0
      refine ⟨⟨by omega, by omega⟩, fun l hl len bb => ⟨⟨by omega, by omega⟩, ⟨fun _ => fun H hH => next (y_st e hH (by repeat (first | exact w_nil | refine w_cons (Or.inl (y_m rfl)) ?_ | refine w_cons (Or.inr (by assumption)) ?_)) (by repeat (first | exact w_nil | refine w_cons (Or.inl (y_m rfl)) ?_ | refine w_cons (Or.inr (by assumption)) ?_))) b0 b1 (fun q => by omega), fun _ => fun H hH => next (y_st e hH (by repeat (first | exact w_nil | refine w_cons (Or.inl (y_m rfl)) ?_ | refine w_cons (Or.inr (by assumption)) ?_)) (by repeat (first | exact w_nil | refine w_cons (Or.inl (y_m rfl)) ?_ | refine w_cons (Or.inr (by assumption)) ?_))) (by omega) (by omega) (fun q => by omega)⟩⟩⟩
    have T60 : ∀ {G : aH}, y_fr h G [] [] → wI &&& A = A → aOK s_P X (d + 3) a_m199 60 [some (.ref 155), some (.long sum), none, some (.int bI), some (.int wI), o5] [.int B, .int wI] G C S K0 := by
      intro G e hwa
      refine w_go z_hl [69] [] 30 e.1 ?_
      refine ⟨fun q => fun H hH => ?_, fun q => fun H hH => ?_⟩
      · have q2 : (wI &&& B).toInt ≠ (0 : Int32).toInt := (y_ci .ne _ _).mp q
        refine T69n (y_st e hH (by repeat (first | exact w_nil | refine w_cons (Or.inl (y_m rfl)) ?_ | refine w_cons (Or.inr (by assumption)) ?_)) (by repeat (first | exact w_nil | refine w_cons (Or.inl (y_m rfl)) ?_ | refine w_cons (Or.inr (by assumption)) ?_))) ?_
        unfold y_sel
        rw [decide_eq_false (p := wI &&& B = 0) (fun e => q2 (by rw [e])), Bool.and_false]
      · exact T69y (y_st e hH (by repeat (first | exact w_nil | refine w_cons (Or.inl (y_m rfl)) ?_ | refine w_cons (Or.inr (by assumption)) ?_)) (by repeat (first | exact w_nil | refine w_cons (Or.inl (y_m rfl)) ?_ | refine w_cons (Or.inr (by assumption)) ?_)))
    have T50 : ∀ {G : aH}, y_fr h G [] [] → aOK s_P X (d + 3) a_m199 50 [some (.ref 155), some (.long sum), none, some (.int bI), some (.int wI), o5] [.int A, .int (wI &&& A)] G C S K0 := by
      intro G e
      refine w_go z_hl [69] [192] 30 e.1 ?_
      refine ⟨fun q => fun H hH => ?_, fun q => fun H hH => ?_⟩
      · have q2 : (wI &&& A).toInt ≠ A.toInt := (y_ci .ne _ _).mp q
        refine T69n (y_st e hH (by repeat (first | exact w_nil | refine w_cons (Or.inl (y_m rfl)) ?_ | refine w_cons (Or.inr (by assumption)) ?_)) (by repeat (first | exact w_nil | refine w_cons (Or.inl (y_m rfl)) ?_ | refine w_cons (Or.inr (by assumption)) ?_))) ?_
        unfold y_sel
        rw [decide_eq_false (p := wI &&& A = A) (fun e => q2 (by rw [e])), Bool.false_and]
      · have q2 : ¬ ((wI &&& A).toInt ≠ A.toInt) := y_cif q
        have e2 := y_st e hH (by repeat (first | exact w_nil | refine w_cons (Or.inl (y_m rfl)) ?_ | refine w_cons (Or.inr (by assumption)) ?_)) (by repeat (first | exact w_nil | refine w_cons (Or.inl (y_m rfl)) ?_ | refine w_cons (Or.inr (by assumption)) ?_))
        refine y_seenNot e2.1 ((y_fe e2 rfl).trans g1) ((y_ae e2 rfl).trans g2) (fun H3 f3 => ⟨fun n e => (by cases e), ?_⟩)
        rw [← hB]
        exact T60 (y_sq e2 f3 rfl rfl) (Int32.toInt_inj.mp (Decidable.not_not.mp q2))
    have T44 : ∀ {G : aH}, y_fr h G [] [] → aOK s_P X (d + 3) a_m199 44 [some (.ref 155), some (.long sum), none, some (.int bI), some (.int wI), o5] [.int A, .int wI] G C S K0 := by
      intro G e
      refine w_go z_hl [] [191] 30 e.1 ?_
      intro H hH
      have e2 := y_st e hH (by repeat (first | exact w_nil | refine w_cons (Or.inl (y_m rfl)) ?_ | refine w_cons (Or.inr (by assumption)) ?_)) (by repeat (first | exact w_nil | refine w_cons (Or.inl (y_m rfl)) ?_ | refine w_cons (Or.inr (by assumption)) ?_))
      refine y_seenSo e2.1 ((y_fe e2 rfl).trans g1) ((y_ae e2 rfl).trans g2) (fun H3 f3 => ⟨fun n e => (by cases e), ?_⟩)
      rw [← hA]
      exact T50 (y_sq e2 f3 rfl rfl)
    refine w_go z_hl [28] [191] 30 hr ?_
    intro x hx y1 y2
    obtain rfl := y_fi g1 hx
    refine ⟨fun q => ?_, fun q => ?_⟩
    · have : (Int32.ofInt 1 <<< (nd &&& 31) - Int32.ofInt 1).toInt < wI.toInt := (y_ci .gt _ _).mp q
      omega
    · intro H hH
      have e : y_fr h H [] [] := y_st (y_rf hr) hH (by repeat (first | exact w_nil | refine w_cons (Or.inl (y_m rfl)) ?_ | refine w_cons (Or.inr (by assumption)) ?_)) (by repeat (first | exact w_nil | refine w_cons (Or.inl (y_m rfl)) ?_ | refine w_cons (Or.inr (by assumption)) ?_))
      refine y_seenSo e.1 ((y_fe e rfl).trans g1) ((y_ae e rfl).trans g2) (fun H3 f3 => ⟨fun n e => (by cases e), ?_⟩)
      rw [← hA]
      exact T44 (y_sq e f3 rfl rfl)
theorem p_likely {h : aH} (hr : w_hr z_D h) (hJ : y_J h) (hk : ∀ (r : Int32) (H : aH), y_fr h H [19584, 19585, 19587, 19588] [154, 163] → y_J H → K0 (some (.int r)) H C S) : aOK s_P X (d + 4) a_m199 0 [some (.ref 155), none, none, none, none, none] [] h C S K0 := by
  obtain ⟨nd, sm, so, sa, s1, s2, s3, s4, s5⟩ := id hJ.2.2.2.2.1
  obtain ⟨b1, b2⟩ := y_ndb hr s1
  have T13 : ∀ {G0 G : aH} {wl : List Int64} {r : Int64}, y_fr h G0 [19584] [163] → y_J G0 → y_wl G0 wl → y_fr G0 G [] [] → r.toInt = y_nw sa nd wl (Int32.ofInt (-1)) true (Int32.ofInt (-1)) → aOK s_P X (d + 4) a_m199 13 [some (.ref 155), none, none, none, none, none] [.long r] G C S K0 := by
    intro G0 G wl r e0 J0 hw e hr3
    refine w_go z_hl [28] [] 30 e.1 ?_
    refine ⟨fun q => ?_, fun q => fun H hH => ?_⟩
    · have q2 : r.toInt ≠ (Int64.ofNat 0).toInt := (y_cl .ne _ _).mp q
      rw [show (Int64.ofNat 0).toInt = 0 by decide] at q2
      have bb := y_nw_b (sa := sa) (node := Int32.ofInt (-1)) (so := true) (but := Int32.ofInt (-1)) hw b1 b2
      intro H hH
      have f : y_fr G0 H [] [] := y_st e hH (by repeat (first | exact w_nil | refine w_cons (Or.inl (y_m rfl)) ?_ | refine w_cons (Or.inr (by assumption)) ?_)) (by repeat (first | exact w_nil | refine w_cons (Or.inl (y_m rfl)) ?_ | refine w_cons (Or.inr (by assumption)) ?_))
      have f1 : y_fr h H [19584] [163] := y_sq e0 f rfl rfl
      refine y_likely_loop rfl rfl (hr3.trans y_now_ws) (by omega) (y_ways nd) H _ _ 0 _ f.1 ((y_fe f1 rfl).trans s1) ((y_ae f1 rfl).trans s4) (y_wl_fr f (fun q => by cases q) hw) rfl (by omega) (by decide) (by decide) (fun _ => rfl) (fun r' H5 e5 => ?_)
      exact hk r' H5 (y_sq (y_mo f1 rfl rfl) e5 rfl rfl) (y_J_fr e5 rfl rfl (y_J_fr f rfl rfl J0))
    · have f : y_fr G0 H [] [] := y_st e hH (by repeat (first | exact w_nil | refine w_cons (Or.inl (y_m rfl)) ?_ | refine w_cons (Or.inr (by assumption)) ?_)) (by repeat (first | exact w_nil | refine w_cons (Or.inl (y_m rfl)) ?_ | refine w_cons (Or.inr (by assumption)) ?_))
      exact hk _ H (y_sq (y_mo e0 rfl rfl) f rfl rfl) (y_J_fr f rfl rfl J0)
  have T9 : ∀ {G0 : aH} {wl : List Int64}, y_fr h G0 [19584] [163] → y_J G0 → y_wl G0 wl → aOK s_P X (d + 4) a_m199 9 [some (.ref 155), none, none, none, none, none] [] G0 C S K0 := by
    intro G0 wl e0 J0 hw
    refine w_go z_hl [] [189] 30 e0.1 ?_
    intro H hH
    have f : y_fr G0 H [] [] := y_st (y_rf e0.1) hH (by repeat (first | exact w_nil | refine w_cons (Or.inl (y_m rfl)) ?_ | refine w_cons (Or.inr (by assumption)) ?_)) (by repeat (first | exact w_nil | refine w_cons (Or.inl (y_m rfl)) ?_ | refine w_cons (Or.inr (by assumption)) ?_))
    have f1 : y_fr h H [19584] [163] := y_sq e0 f rfl rfl
    refine y_now f.1 ((y_fe f1 rfl).trans s1) ((y_ae f1 rfl).trans s4) (y_wl_fr f (fun q => by cases q) hw) (fun r H2 e3 hr3 => ⟨fun n e => (by cases e), ?_⟩)
    exact T13 e0 J0 hw (y_sq f e3 rfl rfl) hr3
  refine w_go z_hl [] [188] 30 hr ?_
  refine ⟨rfl, y_zini (by decide) (by decide), fun H1 h1 => ?_⟩
  have e1 : y_fr h H1 [19584] [] := y_st (y_mo (y_rf hr) rfl rfl) h1 (by repeat (first | exact w_nil | refine w_cons (Or.inl (y_m rfl)) ?_ | refine w_cons (Or.inr (by assumption)) ?_)) (by repeat (first | exact w_nil | refine w_cons (Or.inl (y_m rfl)) ?_ | refine w_cons (Or.inr (by assumption)) ?_))
  refine q_weighsUp e1.1 (y_J_fr e1 rfl rfl hJ) (fun wl H2 e3 J3 hw => ⟨fun n e => (by cases e), ?_⟩)
  exact T9 (y_sq (y_mo e1 rfl rfl) e3 rfl rfl) J3 hw
end WG
