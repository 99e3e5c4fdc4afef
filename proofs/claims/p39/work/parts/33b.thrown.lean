/-! ===== v4: the class's many as a function; its of and row, which may throw; the law's own of and row ===== -/
section WC
variable {X : aX} {C S d : Nat} {K0 : Option Value → aH → Nat → Nat → Prop} {h : aH}
theorem c_isRate (hr : w_hr z_D h) {a b : Int32} (yes : ∀ H, y_fr h H [] [] → 1 ≤ a.toInt → a.toInt ≤ b.toInt → b.toInt ≤ 1000000 → K0 (some (.int (y_01 true))) H C S) (no : ∀ H, y_fr h H [] [] → (1 ≤ a.toInt → a.toInt ≤ b.toInt → b.toInt ≤ 1000000 → False) → K0 (some (.int (y_01 false))) H C S) : aOK s_P X d a_m144 0 [some (.int a), some (.int b)] [] h C S K0 := by
  have w1 : (Int32.ofInt 1).toInt = 1 := by decide
  have w6 : (Int32.ofInt 1000000).toInt = 1000000 := by decide
  refine w_go z_hl [] [] 30 hr ?_
  refine ⟨fun q => ⟨by decide, fun H hH => ?_⟩, fun q => ⟨fun q2 => ⟨by decide, fun H hH => ?_⟩, fun q2 => ⟨fun q3 => ⟨by decide, fun H hH => ?_⟩, fun q3 => ⟨by decide, fun H hH => ?_⟩⟩⟩⟩
  · have g : a.toInt < (Int32.ofInt 1).toInt := (y_ci .lt _ _).mp q
    exact no H (y_st (y_rf hr) hH (by repeat (first | exact w_nil | refine w_cons (Or.inl (y_m rfl)) ?_ | refine w_cons (Or.inr (by assumption)) ?_)) (by repeat (first | exact w_nil | refine w_cons (Or.inl (y_m rfl)) ?_ | refine w_cons (Or.inr (by assumption)) ?_))) (fun q1 _ _ => by omega)
  · have g : b.toInt < a.toInt := (y_ci .gt _ _).mp q2
    exact no H (y_st (y_rf hr) hH (by repeat (first | exact w_nil | refine w_cons (Or.inl (y_m rfl)) ?_ | refine w_cons (Or.inr (by assumption)) ?_)) (by repeat (first | exact w_nil | refine w_cons (Or.inl (y_m rfl)) ?_ | refine w_cons (Or.inr (by assumption)) ?_))) (fun _ q1 _ => by omega)
  · have g : (Int32.ofInt 1000000).toInt < b.toInt := (y_ci .gt _ _).mp q3
    exact no H (y_st (y_rf hr) hH (by repeat (first | exact w_nil | refine w_cons (Or.inl (y_m rfl)) ?_ | refine w_cons (Or.inr (by assumption)) ?_)) (by repeat (first | exact w_nil | refine w_cons (Or.inl (y_m rfl)) ?_ | refine w_cons (Or.inr (by assumption)) ?_))) (fun _ _ q1 => by omega)
  · have g1 : ¬ (a.toInt < (Int32.ofInt 1).toInt) := y_cif q
    have g2 : ¬ (b.toInt < a.toInt) := y_cif q2
    have g3 : ¬ ((Int32.ofInt 1000000).toInt < b.toInt) := y_cif q3
    exact yes H (y_st (y_rf hr) hH (by repeat (first | exact w_nil | refine w_cons (Or.inl (y_m rfl)) ?_ | refine w_cons (Or.inr (by assumption)) ?_)) (by repeat (first | exact w_nil | refine w_cons (Or.inl (y_m rfl)) ?_ | refine w_cons (Or.inr (by assumption)) ?_))) (by omega) (by omega) (by omega)
theorem c_many_loop {a b : Int32} (b1 : 1 ≤ b.toInt) : ∀ (m : Nat) (h : aH) (l : Int64) (kI : Int32), w_hr z_D h → kI.toInt + m = 100001 → 0 ≤ kI.toInt → (∀ (H : aH), y_fr h H [] [] → K0 (some (.int (y_mg a b m l kI))) H C S) → aOK s_P X d a_m145 17 [some (.ref 2), some (.int a), some (.int b), some (.long l), none, some (.int kI)] [] h C S K0 := by
  intro m
  induction m with
  | zero =>
    intro h l kI hr hm k0 hK
    refine w_go z_hl [17] [] 30 hr ?_
    refine ⟨fun _ => fun H hH => hK H (y_st (y_rf hr) hH (by repeat (first | exact w_nil | refine w_cons (Or.inl (y_m rfl)) ?_ | refine w_cons (Or.inr (by assumption)) ?_)) (by repeat (first | exact w_nil | refine w_cons (Or.inl (y_m rfl)) ?_ | refine w_cons (Or.inr (by assumption)) ?_))), fun q => ?_⟩
    have q2 : ¬ ((Int32.ofInt 100000).toInt < kI.toInt) := y_cif q
    rw [show (Int32.ofInt 100000).toInt = 100000 by decide] at q2
    omega
  | succ m ih =>
    intro h l kI hr hm k0 hK
    have ink : (kI + Int32.ofInt 1).toInt = kI.toInt + 1 := y_inc (by omega)
    refine w_go z_hl [17] [] 30 hr ?_
    refine ⟨fun q => ?_, fun _ => ⟨fun q => ?_, fun q => fun H hH => ?_⟩⟩
    · have q2 : (Int32.ofInt 100000).toInt < kI.toInt := (y_ci .gt _ _).mp q
      rw [show (Int32.ofInt 100000).toInt = 100000 by decide] at q2
      omega
    · have q2 : (Int64.ofInt 500000000).toInt < l.toInt := (y_cl .gt _ _).mp q
      rw [y_i64 (by decide) (by decide)] at q2
      refine ⟨fun e => ?_, fun H hH => ?_⟩
      · have e2 : b.toInt64.toInt = 0 := by rw [e]; rfl
        rw [y_i2l] at e2
        omega
      · have e : y_fr h H [] [] := y_st (y_rf hr) hH (by repeat (first | exact w_nil | refine w_cons (Or.inl (y_m rfl)) ?_ | refine w_cons (Or.inr (by assumption)) ?_)) (by repeat (first | exact w_nil | refine w_cons (Or.inl (y_m rfl)) ?_ | refine w_cons (Or.inr (by assumption)) ?_))
        refine ih H _ _ e.1 (by omega) (by omega) (fun H' f => ?_)
        have := hK H' (y_sq e f rfl rfl)
        unfold y_mg at this
        rw [if_neg (by omega)] at this
        exact this
    · have q2 : ¬ ((Int64.ofInt 500000000).toInt < l.toInt) := y_clf q
      rw [y_i64 (by decide) (by decide)] at q2
      have := hK H (y_st (y_rf hr) hH (by repeat (first | exact w_nil | refine w_cons (Or.inl (y_m rfl)) ?_ | refine w_cons (Or.inr (by assumption)) ?_)) (by repeat (first | exact w_nil | refine w_cons (Or.inl (y_m rfl)) ?_ | refine w_cons (Or.inr (by assumption)) ?_)))
      unfold y_mg at this
      rw [if_pos (by omega)] at this
      exact this
theorem c_many (hr : w_hr z_D h) {a b : Int32} (hk : ∀ (H : aH), y_fr h H [] [] → K0 (some (.int (y_mn a b))) H C S) : aOK s_P X (d + 1) a_m145 0 [some (.ref 2), some (.int a), some (.int b), none, none, none] [] h C S K0 := by
  have T5 : ∀ {G : aH}, y_fr h G [] [] → 1 ≤ a.toInt → a.toInt ≤ b.toInt → b.toInt ≤ 1000000 → aOK s_P X (d + 1) a_m145 5 [some (.ref 2), some (.int a), some (.int b), none, none, none] [.int (y_01 true)] G C S K0 := by
    intro G e a1 ab b6
    refine w_go z_hl [17] [] 30 e.1 ?_
    refine ⟨fun _ => fun H hH => ?_, fun q => absurd q (by decide)⟩
    have e2 := y_st e hH (by repeat (first | exact w_nil | refine w_cons (Or.inl (y_m rfl)) ?_ | refine w_cons (Or.inr (by assumption)) ?_)) (by repeat (first | exact w_nil | refine w_cons (Or.inl (y_m rfl)) ?_ | refine w_cons (Or.inr (by assumption)) ?_))
    refine c_many_loop (by omega) 100001 H _ _ e2.1 (by rw [show (Int32.ofInt 0).toInt = 0 by decide]; rfl) (by decide) (fun H' f => ?_)
    have := hk H' (y_sq e2 f rfl rfl)
    unfold y_mn at this
    rw [if_pos ⟨a1, ab, b6⟩] at this
    exact this
  have T5n : ∀ {G : aH}, y_fr h G [] [] → (1 ≤ a.toInt → a.toInt ≤ b.toInt → b.toInt ≤ 1000000 → False) → aOK s_P X (d + 1) a_m145 5 [some (.ref 2), some (.int a), some (.int b), none, none, none] [.int (y_01 false)] G C S K0 := by
    intro G e hn
    refine w_go z_hl [17] [] 30 e.1 ?_
    refine ⟨fun q => absurd q (by decide), fun _ => fun H hH => ?_⟩
    have := hk H (y_st e hH (by repeat (first | exact w_nil | refine w_cons (Or.inl (y_m rfl)) ?_ | refine w_cons (Or.inr (by assumption)) ?_)) (by repeat (first | exact w_nil | refine w_cons (Or.inl (y_m rfl)) ?_ | refine w_cons (Or.inr (by assumption)) ?_)))
    unfold y_mn at this
    rw [if_neg (fun q => hn q.1 q.2.1 q.2.2)] at this
    exact this
  refine w_go z_hl [] [144] 30 hr ?_
  intro H hH
  have e : y_fr h H [] [] := y_st (y_rf hr) hH (by repeat (first | exact w_nil | refine w_cons (Or.inl (y_m rfl)) ?_ | refine w_cons (Or.inr (by assumption)) ?_)) (by repeat (first | exact w_nil | refine w_cons (Or.inl (y_m rfl)) ?_ | refine w_cons (Or.inr (by assumption)) ?_))
  refine c_isRate e.1 (fun H3 h3 a1 ab b6 => ⟨fun n e => (by cases e), ?_⟩) (fun H3 h3 l => ⟨fun n e => (by cases e), ?_⟩)
  · exact T5 (y_sq e h3 rfl rfl) a1 ab b6
  · exact T5n (y_sq e h3 rfl rfl) l
theorem c_has (hr : w_hr z_D h) {a : Int32} (yes : ∀ H, y_fr h H [] [] → 0 ≤ a.toInt → a.toInt ≤ 9 → K0 (some (.int (y_01 true))) H C S) (no : ∀ H, y_fr h H [] [] → K0 (some (.int (y_01 false))) H C S) : aOK s_P X d a_m19 0 [some (.ref 3), some (.int a)] [] h C S K0 := by
  have w0 : (0 : Int32).toInt = 0 := by decide
  refine w_go z_hl [] [] 30 hr ?_
  refine ⟨fun q => ⟨by decide, fun H hH => no H (y_st (y_rf hr) hH (by repeat (first | exact w_nil | refine w_cons (Or.inl (y_m rfl)) ?_ | refine w_cons (Or.inr (by assumption)) ?_)) (by repeat (first | exact w_nil | refine w_cons (Or.inl (y_m rfl)) ?_ | refine w_cons (Or.inr (by assumption)) ?_)))⟩, fun q => ?_⟩
  intro x hx x0 x1
  refine ⟨fun q2 => ⟨by decide, fun H hH => no H (y_st (y_rf hr) hH (by repeat (first | exact w_nil | refine w_cons (Or.inl (y_m rfl)) ?_ | refine w_cons (Or.inr (by assumption)) ?_)) (by repeat (first | exact w_nil | refine w_cons (Or.inl (y_m rfl)) ?_ | refine w_cons (Or.inr (by assumption)) ?_)))⟩, fun q2 => ⟨by decide, fun H hH => ?_⟩⟩
  have g1 : ¬ (a.toInt < (0 : Int32).toInt) := y_cif q
  have g2 : ¬ (x.toInt ≤ a.toInt) := y_cif q2
  exact yes H (y_st (y_rf hr) hH (by repeat (first | exact w_nil | refine w_cons (Or.inl (y_m rfl)) ?_ | refine w_cons (Or.inr (by assumption)) ?_)) (by repeat (first | exact w_nil | refine w_cons (Or.inl (y_m rfl)) ?_ | refine w_cons (Or.inr (by assumption)) ?_))) (by omega) (by omega)
theorem c_shl {x : Int32} (x0 : 0 ≤ x.toInt) (x3 : x.toInt ≤ 3) : (Int32.ofInt 1 <<< (x &&& 31)).toInt ≤ 8 := by
  have hx : x.toInt = 0 ∨ x.toInt = 1 ∨ x.toInt = 2 ∨ x.toInt = 3 := by omega
  rcases hx with q | q | q | q
  · have : x = Int32.ofInt 0 := Int32.toInt_inj.mp (by rw [q]; decide)
    subst this; decide
  · have : x = Int32.ofInt 1 := Int32.toInt_inj.mp (by rw [q]; decide)
    subst this; decide
  · have : x = Int32.ofInt 2 := Int32.toInt_inj.mp (by rw [q]; decide)
    subst this; decide
  · have : x = Int32.ofInt 3 := Int32.toInt_inj.mp (by rw [q]; decide)
    subst this; decide
theorem c_getD {l : List Int32} {lo hi : Int} {i : Nat} (h : ∀ x ∈ l, lo ≤ x.toInt ∧ x.toInt ≤ hi) (h1 : lo ≤ 0) (h2 : 0 ≤ hi) : lo ≤ (l.getD i 0).toInt ∧ (l.getD i 0).toInt ≤ hi := by
  rw [List.getD_eq_getElem?_getD]
  cases hq : l[i]? with
  | none => exact ⟨h1, h2⟩
  | some x => exact h x (List.mem_of_getElem? hq)
theorem c_hasCase (hr : w_hr z_D h) {a b : Int32} (yes : ∀ H, y_fr h H [] [] → 0 ≤ a.toInt → a.toInt ≤ 9 → 0 ≤ b.toInt → b.toInt ≤ 7 → K0 (some (.int (y_01 true))) H C S) (no : ∀ H, y_fr h H [] [] → K0 (some (.int (y_01 false))) H C S) : aOK s_P X (d + 1) a_m18 0 [some (.ref 3), some (.int a), some (.int b)] [] h C S K0 := by
  have w0 : (0 : Int32).toInt = 0 := by decide
  have T5n : ∀ {G : aH}, y_fr h G [] [] → aOK s_P X (d + 1) a_m18 5 [some (.ref 3), some (.int a), some (.int b)] [.int (y_01 false)] G C S K0 := by
    intro G e
    refine w_go z_hl [] [] 30 e.1 ?_
    exact ⟨fun _ => ⟨by decide, fun H hH => no H (y_st e hH (by repeat (first | exact w_nil | refine w_cons (Or.inl (y_m rfl)) ?_ | refine w_cons (Or.inr (by assumption)) ?_)) (by repeat (first | exact w_nil | refine w_cons (Or.inl (y_m rfl)) ?_ | refine w_cons (Or.inr (by assumption)) ?_)))⟩, fun q => absurd q (by decide)⟩
  have T5 : ∀ {G : aH}, y_fr h G [] [] → 0 ≤ a.toInt → a.toInt ≤ 9 → aOK s_P X (d + 1) a_m18 5 [some (.ref 3), some (.int a), some (.int b)] [.int (y_01 true)] G C S K0 := by
    intro G e a0 a9
    refine w_go z_hl [] [] 30 e.1 ?_
    refine ⟨fun q => absurd q (by decide), fun _ => ⟨fun _ => ⟨by decide, fun H hH => no H (y_st e hH (by repeat (first | exact w_nil | refine w_cons (Or.inl (y_m rfl)) ?_ | refine w_cons (Or.inr (by assumption)) ?_)) (by repeat (first | exact w_nil | refine w_cons (Or.inl (y_m rfl)) ?_ | refine w_cons (Or.inr (by assumption)) ?_)))⟩, fun q => ?_⟩⟩
    refine ⟨⟨a0, by omega⟩, fun l hl l1 l2 => ⟨fun _ => ⟨by decide, fun H hH => no H (y_st e hH (by repeat (first | exact w_nil | refine w_cons (Or.inl (y_m rfl)) ?_ | refine w_cons (Or.inr (by assumption)) ?_)) (by repeat (first | exact w_nil | refine w_cons (Or.inl (y_m rfl)) ?_ | refine w_cons (Or.inr (by assumption)) ?_)))⟩, fun q2 => ⟨by decide, fun H hH => ?_⟩⟩⟩
    have g1 : ¬ (b.toInt < (0 : Int32).toInt) := y_cif q
    have g2 : ¬ ((Int32.ofInt 1 <<< (l.getD a.toNatClampNeg 0 &&& 31)).toInt ≤ b.toInt) := y_cif q2
    have g3 := c_getD (i := a.toNatClampNeg) l2 (by decide) (by decide)
    have := c_shl g3.1 g3.2
    exact yes H (y_st e hH (by repeat (first | exact w_nil | refine w_cons (Or.inl (y_m rfl)) ?_ | refine w_cons (Or.inr (by assumption)) ?_)) (by repeat (first | exact w_nil | refine w_cons (Or.inl (y_m rfl)) ?_ | refine w_cons (Or.inr (by assumption)) ?_))) a0 a9 (by omega) (by omega)
  refine w_go z_hl [] [19] 30 hr ?_
  intro H hH
  have e : y_fr h H [] [] := y_st (y_rf hr) hH (by repeat (first | exact w_nil | refine w_cons (Or.inl (y_m rfl)) ?_ | refine w_cons (Or.inr (by assumption)) ?_)) (by repeat (first | exact w_nil | refine w_cons (Or.inl (y_m rfl)) ?_ | refine w_cons (Or.inr (by assumption)) ?_))
  refine c_has e.1 (fun H3 h3 a0 a9 => ⟨fun n e => (by cases e), ?_⟩) (fun H3 h3 => ⟨fun n e => (by cases e), ?_⟩)
  · exact T5 (y_sq e h3 rfl rfl) a0 a9
  · exact T5n (y_sq e h3 rfl rfl)
theorem c_isSeen (hr : w_hr z_D h) {a : Int32} (hk : ∀ (c : Bool) (H : aH), y_fr h H [] [] → K0 (some (.int (y_01 c))) H C S) : aOK s_P X (d + 1) a_m50 0 [some (.ref 3), some (.int a)] [] h C S K0 := by
  have T5n : ∀ {G : aH}, y_fr h G [] [] → aOK s_P X (d + 1) a_m50 5 [some (.ref 3), some (.int a)] [.int (y_01 false)] G C S K0 := by
    intro G e
    refine w_go z_hl [] [] 30 e.1 ?_
    exact ⟨fun _ => ⟨by decide, fun H hH => hk false H (y_st e hH (by repeat (first | exact w_nil | refine w_cons (Or.inl (y_m rfl)) ?_ | refine w_cons (Or.inr (by assumption)) ?_)) (by repeat (first | exact w_nil | refine w_cons (Or.inl (y_m rfl)) ?_ | refine w_cons (Or.inr (by assumption)) ?_)))⟩, fun q => absurd q (by decide)⟩
  have T5 : ∀ {G : aH}, y_fr h G [] [] → aOK s_P X (d + 1) a_m50 5 [some (.ref 3), some (.int a)] [.int (y_01 true)] G C S K0 := by
    intro G e
    refine w_go z_hl [] [] 30 e.1 ?_
    refine ⟨fun q => absurd q (by decide), fun _ => ?_⟩
    intro x hx x0 x1
    exact ⟨fun _ => ⟨by decide, fun H hH => hk false H (y_st e hH (by repeat (first | exact w_nil | refine w_cons (Or.inl (y_m rfl)) ?_ | refine w_cons (Or.inr (by assumption)) ?_)) (by repeat (first | exact w_nil | refine w_cons (Or.inl (y_m rfl)) ?_ | refine w_cons (Or.inr (by assumption)) ?_)))⟩, fun _ => ⟨by decide, fun H hH => hk true H (y_st e hH (by repeat (first | exact w_nil | refine w_cons (Or.inl (y_m rfl)) ?_ | refine w_cons (Or.inr (by assumption)) ?_)) (by repeat (first | exact w_nil | refine w_cons (Or.inl (y_m rfl)) ?_ | refine w_cons (Or.inr (by assumption)) ?_)))⟩⟩
  refine w_go z_hl [] [19] 30 hr ?_
  intro H hH
  have e : y_fr h H [] [] := y_st (y_rf hr) hH (by repeat (first | exact w_nil | refine w_cons (Or.inl (y_m rfl)) ?_ | refine w_cons (Or.inr (by assumption)) ?_)) (by repeat (first | exact w_nil | refine w_cons (Or.inl (y_m rfl)) ?_ | refine w_cons (Or.inr (by assumption)) ?_))
  refine c_has e.1 (fun H3 h3 a0 a9 => ⟨fun n e => (by cases e), ?_⟩) (fun H3 h3 => ⟨fun n e => (by cases e), ?_⟩)
  · exact T5 (y_sq e h3 rfl rfl)
  · exact T5n (y_sq e h3 rfl rfl)
theorem c_place_loop {sm v : Int32} (m0 : 0 ≤ sm.toInt) (m10 : sm.toInt ≤ 10) : ∀ (m : Nat) (h : aH) (kI : Int32) (k : Nat), w_hr z_D h → w_f h 140 = some (.int sm) → kI.toInt = k → (k : Int) + m = sm.toInt → (∀ (r : Int32) (H : aH), y_fr h H [] [] → K0 (some (.int r)) H C S) → aOK s_P X d a_m26 2 [some (.ref 3), some (.int v), some (.int kI)] [] h C S K0 := by
  intro m
  induction m with
  | zero =>
    intro h kI k hr g hk hm hK
    refine w_go z_hl [2] [] 30 hr ?_
    intro x hx _ _
    obtain rfl := y_fi g hx
    refine ⟨fun _ => fun H hH => hK _ H (y_st (y_rf hr) hH (by repeat (first | exact w_nil | refine w_cons (Or.inl (y_m rfl)) ?_ | refine w_cons (Or.inr (by assumption)) ?_)) (by repeat (first | exact w_nil | refine w_cons (Or.inl (y_m rfl)) ?_ | refine w_cons (Or.inr (by assumption)) ?_))), fun q => ?_⟩
    have : ¬ (sm.toInt ≤ kI.toInt) := y_cif q
    omega
  | succ m ih =>
    intro h kI k hr g hk hm hK
    have ink : (kI + Int32.ofInt 1).toInt = ((k + 1 : Nat) : Int) := by rw [y_inc (by omega), hk]; rfl
    have next : ∀ {G : aH}, y_fr h G [] [] → aOK s_P X d a_m26 2 [some (.ref 3), some (.int v), some (.int (kI + Int32.ofInt 1))] [] G C S K0 := fun e => ih _ _ (k + 1) e.1 ((y_fe e rfl).trans g) ink (by omega) (fun r H' f => hK r H' (y_sq e f rfl rfl))
    have f0 : y_fr h h [] [] := y_rf hr
    refine w_go z_hl [2] [] 30 hr ?_
    intro x hx _ _
    obtain rfl := y_fi g hx
    refine ⟨fun q => ?_, fun _ => ⟨⟨by omega, by omega⟩, fun l hl len bb => ⟨fun _ => fun H hH => next (y_st f0 hH (by repeat (first | exact w_nil | refine w_cons (Or.inl (y_m rfl)) ?_ | refine w_cons (Or.inr (by assumption)) ?_)) (by repeat (first | exact w_nil | refine w_cons (Or.inl (y_m rfl)) ?_ | refine w_cons (Or.inr (by assumption)) ?_))), fun _ => fun H hH => hK _ H (y_st f0 hH (by repeat (first | exact w_nil | refine w_cons (Or.inl (y_m rfl)) ?_ | refine w_cons (Or.inr (by assumption)) ?_)) (by repeat (first | exact w_nil | refine w_cons (Or.inl (y_m rfl)) ?_ | refine w_cons (Or.inr (by assumption)) ?_)))⟩⟩⟩
    have : sm.toInt ≤ kI.toInt := (y_ci .ge _ _).mp q
    omega
theorem c_place (hr : w_hr z_D h) {v : Int32} (hk : ∀ (r : Int32) (H : aH), y_fr h H [] [] → K0 (some (.int r)) H C S) : aOK s_P X d a_m26 0 [some (.ref 3), some (.int v), none] [] h C S K0 := by
  obtain ⟨w, w1, w2⟩ := t_dk_ok (key := 140) (d := (1, 0, 10)) rfl hr
  rcases w2 with ⟨-, sm, rfl, m0, m10⟩ | ⟨q, -⟩
  · refine w_go z_hl [2] [] 30 hr ?_
    intro H hH
    have e : y_fr h H [] [] := y_st (y_rf hr) hH (by repeat (first | exact w_nil | refine w_cons (Or.inl (y_m rfl)) ?_ | refine w_cons (Or.inr (by assumption)) ?_)) (by repeat (first | exact w_nil | refine w_cons (Or.inl (y_m rfl)) ?_ | refine w_cons (Or.inr (by assumption)) ?_))
    exact c_place_loop m0 m10 sm.toInt.toNat H _ 0 e.1 ((y_fe e rfl).trans w1) rfl (by dsimp only at m0; omega) (fun r H' f => hk r H' (y_sq e f rfl rfl))
  · cases q
theorem c_of (hr : w_hr z_D h) {a b : Int32} (hk : ∀ (r : Int32) (H : aH), y_fr h H [] [] → K0 (some (.int r)) H C S) (ht : ∀ (H : aH), y_fr h H [] [] → K0 (some (.retAddr 0)) (H ++ [.inr (a_exc, [])]) (C + 1) (S + 6)) : aOK s_P X (d + 2) a_m170 0 [some (.ref 2), some (.int a), some (.int b)] [] h C S K0 := by
  have w0 : (0 : Int32).toInt = 0 := by decide
  have w5 : (Int32.ofInt 5).toInt = 5 := by decide
  have T34 : ∀ {G : aH}, y_fr h G [] [] → aOK s_P X (d + 2) a_m170 34 [some (.ref 2), some (.int a), some (.int b)] [] G C S K0 := fun e => aOK_thr rfl (by cases X <;> rfl) rfl (ht _ e)
  have T80 : ∀ {G : aH}, y_fr h G [] [] → 0 ≤ a.toInt → a.toInt ≤ 9 → aOK s_P X (d + 2) a_m170 80 [some (.ref 2), some (.int a), some (.int b)] [] G C S K0 := by
    intro G e a0 a9
    refine w_go z_hl [] [] 30 e.1 ?_
    exact ⟨⟨a0, by omega⟩, fun l hl len bb => fun H hH => hk _ H (y_st e hH (by repeat (first | exact w_nil | refine w_cons (Or.inl (y_m rfl)) ?_ | refine w_cons (Or.inr (by assumption)) ?_)) (by repeat (first | exact w_nil | refine w_cons (Or.inl (y_m rfl)) ?_ | refine w_cons (Or.inr (by assumption)) ?_)))⟩
  have T90 : ∀ {G : aH}, y_fr h G [] [] → 0 ≤ a.toInt → a.toInt ≤ 9 → aOK s_P X (d + 2) a_m170 90 [some (.ref 2), some (.int a), some (.int b)] [] G C S K0 := by
    intro G e a0 a9
    refine w_go z_hl [] [] 30 e.1 ?_
    exact ⟨⟨a0, by omega⟩, fun l hl len bb => fun H hH => hk _ H (y_st e hH (by repeat (first | exact w_nil | refine w_cons (Or.inl (y_m rfl)) ?_ | refine w_cons (Or.inr (by assumption)) ?_)) (by repeat (first | exact w_nil | refine w_cons (Or.inl (y_m rfl)) ?_ | refine w_cons (Or.inr (by assumption)) ?_)))⟩
  have T108 : ∀ {G : aH} {c : Bool}, y_fr h G [] [] → aOK s_P X (d + 2) a_m170 108 [some (.ref 2), some (.int a), some (.int b)] [.int (y_01 c)] G C S K0 := by
    intro G c e
    refine w_go z_hl [] [] 30 e.1 ?_
    refine ⟨fun _ => fun H hH => hk _ H (y_st e hH (by repeat (first | exact w_nil | refine w_cons (Or.inl (y_m rfl)) ?_ | refine w_cons (Or.inr (by assumption)) ?_)) (by repeat (first | exact w_nil | refine w_cons (Or.inl (y_m rfl)) ?_ | refine w_cons (Or.inr (by assumption)) ?_))), fun _ => ?_⟩
    intro x hx x0 x1
    exact fun H hH => hk _ H (y_st e hH (by repeat (first | exact w_nil | refine w_cons (Or.inl (y_m rfl)) ?_ | refine w_cons (Or.inr (by assumption)) ?_)) (by repeat (first | exact w_nil | refine w_cons (Or.inl (y_m rfl)) ?_ | refine w_cons (Or.inr (by assumption)) ?_)))
  have T100 : ∀ {G : aH}, y_fr h G [] [] → aOK s_P X (d + 2) a_m170 100 [some (.ref 2), some (.int a), some (.int b)] [] G C S K0 := by
    intro G e
    refine w_go z_hl [] [50] 30 e.1 ?_
    intro H hH
    have e2 := y_st e hH (by repeat (first | exact w_nil | refine w_cons (Or.inl (y_m rfl)) ?_ | refine w_cons (Or.inr (by assumption)) ?_)) (by repeat (first | exact w_nil | refine w_cons (Or.inl (y_m rfl)) ?_ | refine w_cons (Or.inr (by assumption)) ?_))
    refine c_isSeen e2.1 (fun c H' f' => ⟨fun n e => (by cases e), ?_⟩)
    exact T108 (y_sq e2 f' rfl rfl)
  have T135 : ∀ {G : aH} {x : Int32}, y_fr h G [] [] → aOK s_P X (d + 2) a_m170 135 [some (.ref 2), some (.int a), some (.int b)] [.int x] G C S K0 := by
    intro G x e
    refine w_go z_hl [] [] 30 e.1 ?_
    exact fun H hH => hk _ H (y_st e hH (by repeat (first | exact w_nil | refine w_cons (Or.inl (y_m rfl)) ?_ | refine w_cons (Or.inr (by assumption)) ?_)) (by repeat (first | exact w_nil | refine w_cons (Or.inl (y_m rfl)) ?_ | refine w_cons (Or.inr (by assumption)) ?_)))
  have T127 : ∀ {G : aH}, y_fr h G [] [] → aOK s_P X (d + 2) a_m170 127 [some (.ref 2), some (.int a), some (.int b)] [] G C S K0 := by
    intro G e
    refine w_go z_hl [] [26] 30 e.1 ?_
    intro H hH
    have e2 := y_st e hH (by repeat (first | exact w_nil | refine w_cons (Or.inl (y_m rfl)) ?_ | refine w_cons (Or.inr (by assumption)) ?_)) (by repeat (first | exact w_nil | refine w_cons (Or.inl (y_m rfl)) ?_ | refine w_cons (Or.inr (by assumption)) ?_))
    refine c_place e2.1 (fun c H' f' => ⟨fun n e => (by cases e), ?_⟩)
    exact T135 (y_sq e2 f' rfl rfl)
  have T136 : ∀ {G : aH}, y_fr h G [] [] → 0 ≤ a.toInt → a.toInt ≤ 9 → aOK s_P X (d + 2) a_m170 136 [some (.ref 2), some (.int a), some (.int b)] [] G C S K0 := by
    intro G e a0 a9
    refine w_go z_hl [] [] 30 e.1 ?_
    exact ⟨⟨a0, by omega⟩, fun l hl len bb => fun H hH => hk _ H (y_st e hH (by repeat (first | exact w_nil | refine w_cons (Or.inl (y_m rfl)) ?_ | refine w_cons (Or.inr (by assumption)) ?_)) (by repeat (first | exact w_nil | refine w_cons (Or.inl (y_m rfl)) ?_ | refine w_cons (Or.inr (by assumption)) ?_)))⟩
  have T146 : ∀ {G : aH}, y_fr h G [] [] → 0 ≤ a.toInt → a.toInt ≤ 9 → 0 ≤ (b - Int32.ofInt 5).toInt → (b - Int32.ofInt 5).toInt ≤ 7 → aOK s_P X (d + 2) a_m170 146 [some (.ref 2), some (.int a), some (.int b)] [] G C S K0 := by
    intro G e a0 a9 b0 b7
    have ix : (a * (Int8.ofInt 8).toInt32 + (b - Int32.ofInt 5)).toInt = a.toInt * 8 + (b - Int32.ofInt 5).toInt := by
      rw [Int32.toInt_add, Int32.toInt_mul, show ((Int8.ofInt 8).toInt32).toInt = 8 by decide, Int.bmod_eq_of_le (n := a.toInt * 8) (by omega) (by omega), Int.bmod_eq_of_le (by omega) (by omega)]
    refine w_go z_hl [] [] 30 e.1 ?_
    exact ⟨⟨by rw [ix]; omega, by rw [ix]; omega⟩, fun l hl len bb => fun H hH => hk _ H (y_st e hH (by repeat (first | exact w_nil | refine w_cons (Or.inl (y_m rfl)) ?_ | refine w_cons (Or.inr (by assumption)) ?_)) (by repeat (first | exact w_nil | refine w_cons (Or.inl (y_m rfl)) ?_ | refine w_cons (Or.inr (by assumption)) ?_)))⟩
  have T45 : ∀ {G : aH}, y_fr h G [] [] → 0 ≤ a.toInt → a.toInt ≤ 9 → 0 ≤ b.toInt → (5 ≤ b.toInt → 0 ≤ (b - Int32.ofInt 5).toInt ∧ (b - Int32.ofInt 5).toInt ≤ 7) → aOK s_P X (d + 2) a_m170 45 [some (.ref 2), some (.int a), some (.int b)] [] G C S K0 := by
    intro G e a0 a9 b0 b7
    refine w_go z_hl [46] [] 30 e.1 ?_
    intro H hH
    have e := y_st e hH (by repeat (first | exact w_nil | refine w_cons (Or.inl (y_m rfl)) ?_ | refine w_cons (Or.inr (by assumption)) ?_)) (by repeat (first | exact w_nil | refine w_cons (Or.inl (y_m rfl)) ?_ | refine w_cons (Or.inr (by assumption)) ?_))
    by_cases q : b.toInt < 0 ∨ 4 < b.toInt
    · have := b7 (by omega)
      exact y_tsw_d (t := 146) rfl q (by decide) (T146 e a0 a9 this.1 this.2)
    · have hq : b.toInt = 0 ∨ b.toInt = 1 ∨ b.toInt = 2 ∨ b.toInt = 3 ∨ b.toInt = 4 := by omega
      rcases hq with x | x | x | x | x
      · exact y_tsw_i (t := 80) rfl q (by rw [x]; rfl) (by decide) (T80 e a0 a9)
      · exact y_tsw_i (t := 90) rfl q (by rw [x]; rfl) (by decide) (T90 e a0 a9)
      · exact y_tsw_i (t := 100) rfl q (by rw [x]; rfl) (by decide) (T100 e)
      · exact y_tsw_i (t := 127) rfl q (by rw [x]; rfl) (by decide) (T127 e)
      · exact y_tsw_i (t := 136) rfl q (by rw [x]; rfl) (by decide) (T136 e a0 a9)
  have T31 : ∀ {G : aH}, y_fr h G [] [] → 0 ≤ a.toInt → a.toInt ≤ 9 → 0 ≤ b.toInt → 0 ≤ (b - Int32.ofInt 5).toInt → (b - Int32.ofInt 5).toInt ≤ 7 → aOK s_P X (d + 2) a_m170 31 [some (.ref 2), some (.int a), some (.int b)] [.int (y_01 true)] G C S K0 := by
    intro G e a0 a9 b0 c0 c7
    refine w_go z_hl [45] [] 30 e.1 ?_
    exact ⟨fun _ => fun H hH => T45 (y_st e hH (by repeat (first | exact w_nil | refine w_cons (Or.inl (y_m rfl)) ?_ | refine w_cons (Or.inr (by assumption)) ?_)) (by repeat (first | exact w_nil | refine w_cons (Or.inl (y_m rfl)) ?_ | refine w_cons (Or.inr (by assumption)) ?_))) a0 a9 b0 (fun _ => ⟨c0, c7⟩), fun q => absurd q (by decide)⟩
  have T31n : ∀ {G : aH}, y_fr h G [] [] → aOK s_P X (d + 2) a_m170 31 [some (.ref 2), some (.int a), some (.int b)] [.int (y_01 false)] G C S K0 := by
    intro G e
    refine w_go z_hl [34] [] 30 e.1 ?_
    exact ⟨fun q => absurd q (by decide), fun _ => fun H hH => T34 (y_st e hH (by repeat (first | exact w_nil | refine w_cons (Or.inl (y_m rfl)) ?_ | refine w_cons (Or.inr (by assumption)) ?_)) (by repeat (first | exact w_nil | refine w_cons (Or.inl (y_m rfl)) ?_ | refine w_cons (Or.inr (by assumption)) ?_)))⟩
  have T8n : ∀ {G : aH}, y_fr h G [] [] → aOK s_P X (d + 2) a_m170 8 [some (.ref 2), some (.int a), some (.int b)] [.int (y_01 false)] G C S K0 := by
    intro G e
    refine w_go z_hl [34] [] 30 e.1 ?_
    exact ⟨fun _ => fun H hH => T34 (y_st e hH (by repeat (first | exact w_nil | refine w_cons (Or.inl (y_m rfl)) ?_ | refine w_cons (Or.inr (by assumption)) ?_)) (by repeat (first | exact w_nil | refine w_cons (Or.inl (y_m rfl)) ?_ | refine w_cons (Or.inr (by assumption)) ?_))), fun q => absurd q (by decide)⟩
  have T8 : ∀ {G : aH}, y_fr h G [] [] → 0 ≤ a.toInt → a.toInt ≤ 9 → aOK s_P X (d + 2) a_m170 8 [some (.ref 2), some (.int a), some (.int b)] [.int (y_01 true)] G C S K0 := by
    intro G e a0 a9
    refine w_go z_hl [34, 45] [18] 30 e.1 ?_
    refine ⟨fun q => absurd q (by decide), fun _ => ⟨fun _ => fun H hH => T34 (y_st e hH (by repeat (first | exact w_nil | refine w_cons (Or.inl (y_m rfl)) ?_ | refine w_cons (Or.inr (by assumption)) ?_)) (by repeat (first | exact w_nil | refine w_cons (Or.inl (y_m rfl)) ?_ | refine w_cons (Or.inr (by assumption)) ?_))), fun q => ⟨fun q2 => fun H hH => ?_, fun q2 => fun H hH => ?_⟩⟩⟩
    · have g1 : ¬ (b.toInt < (0 : Int32).toInt) := y_cif q
      have g2 : b.toInt < (Int32.ofInt 5).toInt := (y_ci .lt _ _).mp q2
      exact T45 (y_st e hH (by repeat (first | exact w_nil | refine w_cons (Or.inl (y_m rfl)) ?_ | refine w_cons (Or.inr (by assumption)) ?_)) (by repeat (first | exact w_nil | refine w_cons (Or.inl (y_m rfl)) ?_ | refine w_cons (Or.inr (by assumption)) ?_))) a0 a9 (by omega) (fun _ => by omega)
    · have g1 : ¬ (b.toInt < (0 : Int32).toInt) := y_cif q
      have e2 := y_st e hH (by repeat (first | exact w_nil | refine w_cons (Or.inl (y_m rfl)) ?_ | refine w_cons (Or.inr (by assumption)) ?_)) (by repeat (first | exact w_nil | refine w_cons (Or.inl (y_m rfl)) ?_ | refine w_cons (Or.inr (by assumption)) ?_))
      refine c_hasCase e2.1 (fun H3 h3 _ _ c0 c7 => ⟨fun n e => (by cases e), ?_⟩) (fun H3 h3 => ⟨fun n e => (by cases e), ?_⟩)
      · exact T31 (y_sq e2 h3 rfl rfl) a0 a9 (by omega) c0 c7
      · exact T31n (y_sq e2 h3 rfl rfl)
  refine w_go z_hl [] [19] 30 hr ?_
  intro H hH
  have e : y_fr h H [] [] := y_st (y_rf hr) hH (by repeat (first | exact w_nil | refine w_cons (Or.inl (y_m rfl)) ?_ | refine w_cons (Or.inr (by assumption)) ?_)) (by repeat (first | exact w_nil | refine w_cons (Or.inl (y_m rfl)) ?_ | refine w_cons (Or.inr (by assumption)) ?_))
  refine c_has e.1 (fun H3 h3 a0 a9 => ⟨fun n e => (by cases e), ?_⟩) (fun H3 h3 => ⟨fun n e => (by cases e), ?_⟩)
  · exact T8 (y_sq e h3 rfl rfl) a0 a9
  · exact T8n (y_sq e h3 rfl rfl)
theorem c_row (hr : w_hr z_D h) {a : Int32} (hk : ∀ (r : Int64) (H : aH), y_fr h H [] [] → K0 (some (.long r)) H C S) (ht : ∀ (H : aH), y_fr h H [] [] → K0 (some (.retAddr 0)) (H ++ [.inr (a_exc, [])]) (C + 1) (S + 6)) : aOK s_P X d a_m172 0 [some (.ref 2), some (.int a)] [] h C S K0 := by
  have w0 : (0 : Int32).toInt = 0 := by decide
  have T15 : ∀ {G : aH}, y_fr h G [] [] → aOK s_P X d a_m172 15 [some (.ref 2), some (.int a)] [] G C S K0 := fun e => aOK_thr rfl (by cases X <;> rfl) rfl (ht _ e)
  refine w_go z_hl [15] [] 30 hr ?_
  refine ⟨fun _ => fun H hH => T15 (y_st (y_rf hr) hH (by repeat (first | exact w_nil | refine w_cons (Or.inl (y_m rfl)) ?_ | refine w_cons (Or.inr (by assumption)) ?_)) (by repeat (first | exact w_nil | refine w_cons (Or.inl (y_m rfl)) ?_ | refine w_cons (Or.inr (by assumption)) ?_))), fun q => ?_⟩
  intro x hx x0 x1
  refine ⟨fun q2 => ?_, fun _ => fun H hH => T15 (y_st (y_rf hr) hH (by repeat (first | exact w_nil | refine w_cons (Or.inl (y_m rfl)) ?_ | refine w_cons (Or.inr (by assumption)) ?_)) (by repeat (first | exact w_nil | refine w_cons (Or.inl (y_m rfl)) ?_ | refine w_cons (Or.inr (by assumption)) ?_)))⟩
  have g1 : ¬ (a.toInt < (0 : Int32).toInt) := y_cif q
  have g2 : a.toInt < x.toInt := (y_ci .lt _ _).mp q2
  exact ⟨⟨by omega, by omega⟩, fun l hl len bb => fun H hH => hk _ H (y_st (y_rf hr) hH (by repeat (first | exact w_nil | refine w_cons (Or.inl (y_m rfl)) ?_ | refine w_cons (Or.inr (by assumption)) ?_)) (by repeat (first | exact w_nil | refine w_cons (Or.inl (y_m rfl)) ?_ | refine w_cons (Or.inr (by assumption)) ?_)))⟩
end WC
