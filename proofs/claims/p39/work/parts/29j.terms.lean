/-! ===== v3: the reference's alone, termOf ===== -/
def y_low (H : aH) : Prop := ∃ l : Int64, w_f H 19588 = some (.long l) ∧ 1 ≤ l.toInt
theorem y_low_fr {h H : aH} {fs as : List Nat} (q : y_low h) (e : y_fr h H fs as) (h1 : fs.elem 19588 = false) : y_low H := by
  obtain ⟨l, l1, l2⟩ := q
  exact ⟨l, (y_fe e h1).trans l1, l2⟩
def y_sd (h : aH) (nd : Int32) (sg : List Int32) (wl : List Int64) (r : Nat) (ac kd : List Int32) (nu : List Int64) (be fi : List Int32) : Prop := y_sc h nd sg wl ∧ w_a h 165 = some (0, .inl ac) ∧ w_a h 166 = some (0, .inl kd) ∧ w_a h 167 = some (1, .inr (.inl nu)) ∧ w_a h 168 = some (0, .inl be) ∧ w_a h 169 = some (0, .inl fi) ∧ y_s1 ac kd nu be fi sg r ∧ r ≤ 11
theorem y_sd_fr {h H : aH} {nd : Int32} {sg : List Int32} {wl : List Int64} {r : Nat} {ac kd be fi : List Int32} {nu : List Int64} {fs : List Nat} (s : y_sd h nd sg wl r ac kd nu be fi) (e : y_fr h H fs []) (h1 : fs.elem 19591 = false) : y_sd H nd sg wl r ac kd nu be fi := ⟨y_sc_fr s.1 e h1 rfl rfl, (y_ae e rfl).trans s.2.1, (y_ae e rfl).trans s.2.2.1, (y_ae e rfl).trans s.2.2.2.1, (y_ae e rfl).trans s.2.2.2.2.1, (y_ae e rfl).trans s.2.2.2.2.2.1, s.2.2.2.2.2.2⟩
section WG
variable {X : aX} {C S d : Nat} {K0 : Option Value → aH → Nat → Nat → Prop} {nd : Int32} {sg : List Int32} {wl : List Int64}
theorem y_alone_end {h : aH} (hr : w_hr z_D h) {rI fI tI gI uI kI : Int32} {gv n dd : Int64} {o13 o14 o16 : Option Value} (hk : tI.toInt ≤ kI.toInt) (lo : y_low h) (hK : ∀ (x : Int32) (H : aH), y_fr h H [] [] → y_low H → K0 (some (.int x)) H C S) : aOK s_P X d a_m244 32 [some (.ref 155), some (.int rI), some (.int fI), some (.int tI), some (.int gI), some (.int uI), some (.long gv), none, some (.long n), none, some (.long dd), none, some (.int kI), o13, o14, none, o16, none] [] h C S K0 := by
  refine w_go z_hl [32] [] 40 hr ?_
  refine ⟨fun _ => ?_, fun q => ?_⟩
  · intro x hx _ _
    refine ⟨fun _ => fun H hH => ?_, fun _ => fun H hH => ?_⟩
    · have e : y_fr h H [] [] := y_st (y_rf hr) hH (by repeat (first | exact w_nil | refine w_cons (Or.inl (y_m rfl)) ?_ | refine w_cons (Or.inr (by assumption)) ?_)) (by repeat (first | exact w_nil | refine w_cons (Or.inl (y_m rfl)) ?_ | refine w_cons (Or.inr (by assumption)) ?_))
      exact hK _ H e (y_low_fr lo e rfl)
    · have e : y_fr h H [] [] := y_st (y_rf hr) hH (by repeat (first | exact w_nil | refine w_cons (Or.inl (y_m rfl)) ?_ | refine w_cons (Or.inr (by assumption)) ?_)) (by repeat (first | exact w_nil | refine w_cons (Or.inl (y_m rfl)) ?_ | refine w_cons (Or.inr (by assumption)) ?_))
      exact hK _ H e (y_low_fr lo e rfl)
  · have q1 : ¬ (tI.toInt ≤ kI.toInt) := y_cif q
    omega
theorem y_alone_loop {rI fI tI gI uI : Int32} {r till : Nat} {gv : Int64} (h1 : rI.toInt = r) (r11 : r ≤ 11) (h3 : tI.toInt = till) (t40 : till ≤ 40) (okg : 0 ≤ gI.toInt → y_ok1 (y_tx sg r) 40 gI.toInt uI.toInt) (gv1 : 1 ≤ gv.toInt) : ∀ (m : Nat) (h : aH) (n dd : Int64) (kI : Int32) (k N : Nat) (o13 o14 o16 : Option Value), y_sc h nd sg wl → kI.toInt = k → till - k ≤ m → N ≤ 162 → y_E (y_tx sg r) till N 1 k till → 0 ≤ n.toInt → 1 ≤ dd.toInt →
    (∀ (x : Int32) (H : aH), y_fr h H [19587, 19588, 19589, 19616, 19617, 19618] [] → y_low H → K0 (some (.int x)) H C S) →
    aOK s_P X (d + 168) a_m244 32 [some (.ref 155), some (.int rI), some (.int fI), some (.int tI), some (.int gI), some (.int uI), some (.long gv), none, some (.long n), none, some (.long dd), none, some (.int kI), o13, o14, none, o16, none] [] h C S K0 := by
  intro m
  induction m with
  | zero =>
    intro h n dd kI k N o13 o14 o16 s hk hm hN hE n0 d1 hK
    have lt := (y_E_lt (T := y_tx sg r) (st := till) N).1 1 (by decide) hE
    omega
  | succ m ih =>
    intro h n dd kI k N o13 o14 o16 s hk hm hN hE n0 d1 hK
    obtain ⟨N', rfl⟩ : ∃ N', N = N' + 1 := by
      cases N with
      | zero => exact hE.elim
      | succ N' => exact ⟨N', rfl⟩
    obtain ⟨e0, hE1, hE2⟩ := hE
    have lt := (y_E_lt (T := y_tx sg r) (st := till) N').1 0 (by decide) hE1
    have le := (y_E_lt (T := y_tx sg r) (st := till) N').2.1 hE2
    have ed : e0 = till ∨ y_tx sg r e0 = 38 := by
      cases N' with
      | zero => exact hE2.elim
      | succ N'' =>
        rcases hE2 with ⟨-, x⟩ | ⟨x, -⟩
        · exact Or.inl x.symm
        · exact Or.inr x
    -- the piece
    have ok : y_ok1 (y_tx sg r) 40 (k : Int) (e0 : Int) := by
      refine ⟨by omega, by omega, by omega, ?_⟩
      have a : y_E (y_tx sg r) e0 N' 0 k e0 := y_E_c (fun _ _ => rfl) le N' (by decide) (Nat.le_refl _) hE1
      have nx : ∀ c : Int, ¬ (y_tx sg r e0 = c ∧ e0 < e0) := fun c x => by have := x.2; omega
      cases N' with
      | zero => exact a.elim
      | succ M =>
        have x3 : y_E (y_tx sg r) e0 (M + 1) 3 e0 e0 := Or.inl ⟨nx 38, rfl⟩
        have x1 : y_E (y_tx sg r) e0 (M + 1 + 1) 1 k e0 := ⟨e0, a, x3⟩
        have x4 : y_E (y_tx sg r) e0 (M + 1 + 1) 4 e0 e0 := Or.inl ⟨nx 124, rfl⟩
        have x2 : y_E (y_tx sg r) e0 (M + 1 + 1 + 1) 2 k e0 := ⟨e0, x1, x4⟩
        exact y_E_m (by decide) (by omega) x2
    have T99 : ∀ {G : aH} {eI : Int32} {p q u l : Int64}, y_fr h G [19587, 19588, 19589, 19616, 19617, 19618] [] → eI.toInt = e0 → w_f G 19587 = some (.long u) → w_f G 19588 = some (.long l) → 0 ≤ u.toInt → 1 ≤ l.toInt → aOK s_P X (d + 168) a_m244 99 [some (.ref 155), some (.int rI), some (.int fI), some (.int tI), some (.int gI), some (.int uI), some (.long gv), none, some (.long n), none, some (.long dd), none, some (.int kI), some (.int eI), some (.long p), none, some (.long q), none] [] G C S K0 := by
      intro G eI p q u l e he f1 f2 u0 l1
      have ine : (eI + Int32.ofInt 1).toInt = ((e0 + 1 : Nat) : Int) := by rw [y_inc (by omega), he]; rfl
      refine w_go z_hl [32] [] 40 e.1 ?_
      intro x hx _ _
      obtain rfl := y_fl f1 hx
      intro y hy _ _
      obtain rfl := y_fl f2 hy
      intro H hH
      have f : y_fr G H [] [] := y_st (y_rf e.1) hH (by repeat (first | exact w_nil | refine w_cons (Or.inl (y_m rfl)) ?_ | refine w_cons (Or.inr (by assumption)) ?_)) (by repeat (first | exact w_nil | refine w_cons (Or.inl (y_m rfl)) ?_ | refine w_cons (Or.inr (by assumption)) ?_))
      have e2 := y_sq e f rfl rfl
      have lo : y_low H := ⟨l, (y_fe f rfl).trans f2, l1⟩
      by_cases hx : e0 = till
      · exact y_alone_end f.1 (show tI.toInt ≤ (eI + Int32.ofInt 1).toInt by omega) lo (fun x H2 f2 lo2 => hK x H2 (y_sq e2 f2 rfl rfl) lo2)
      · have hE3 : y_E (y_tx sg r) till N' 1 (e0 + 1) till := by
          cases N' with
          | zero => exact hE2.elim
          | succ N'' =>
            rcases hE2 with ⟨-, x⟩ | ⟨-, -, s1, x, y⟩
            · omega
            · exact ⟨s1, x, y⟩
        exact ih H _ _ _ (e0 + 1) N' _ _ _ (y_sc_fr s e2 rfl rfl rfl) ine (by omega) (by omega) hE3 u0 l1 (fun x H2 f2 lo2 => hK x H2 (y_sq e2 f2 rfl rfl) lo2)
    have T67 : ∀ {G : aH} {eI : Int32} {u l : Int64}, y_fr h G [19587, 19588, 19589, 19616, 19617, 19618] [] → eI.toInt = e0 → w_f G 19587 = some (.long u) → w_f G 19588 = some (.long l) → 0 ≤ u.toInt → 1 ≤ l.toInt → aOK s_P X (d + 168) a_m244 67 [some (.ref 155), some (.int rI), some (.int fI), some (.int tI), some (.int gI), some (.int uI), some (.long gv), none, some (.long n), none, some (.long dd), none, some (.int kI), some (.int eI), o14, none, o16, none] [] G C S K0 := by
      intro G eI u l e he f1 f2 u0 l1
      refine w_go z_hl [] [215] 40 e.1 ?_
      intro x hx _ _
      obtain rfl := y_fl f1 hx
      intro y hy _ _
      obtain rfl := y_fl f2 hy
      refine ⟨rfl, y_zin (y_l64 n).1 (y_l64 n).2, rfl, y_zin (by show 0 ≤ dd.toInt; omega) (y_l64 dd).2, fun H hH => ?_⟩
      have e2 := y_st e hH (by repeat (first | exact w_nil | refine w_cons (Or.inl (y_m rfl)) ?_ | refine w_cons (Or.inr (by assumption)) ?_)) (by repeat (first | exact w_nil | refine w_cons (Or.inl (y_m rfl)) ?_ | refine w_cons (Or.inr (by assumption)) ?_))
      refine y_times (n := u) (m := l) e2.1 u0 l1 (hH.2.1 19587 _ rfl) (hH.2.1 19588 _ rfl) n0 d1 (fun u' l' H2 a0 b0 a1 b1 g1 g2 e3 => ⟨fun n e => (by cases e), ?_⟩)
      exact T99 (y_sq e2 e3 rfl rfl) he g1 g2 a0 b0
    have T62 : ∀ {G : aH} {eI : Int32} {x : Int64}, y_fr h G [19587, 19588, 19589, 19616, 19617, 19618] [] → eI.toInt = e0 → 0 ≤ x.toInt → aOK s_P X (d + 168) a_m244 62 [some (.ref 155), some (.int rI), some (.int fI), some (.int tI), some (.int gI), some (.int uI), some (.long gv), none, some (.long n), none, some (.long dd), none, some (.int kI), some (.int eI), o14, none, o16, none] [.long x, .ref 155] G C S K0 := by
      intro G eI x e he x0
      refine w_go z_hl [] [194] 40 e.1 ?_
      intro H hH
      have e2 := y_st e hH (by repeat (first | exact w_nil | refine w_cons (Or.inl (y_m rfl)) ?_ | refine w_cons (Or.inr (by assumption)) ?_)) (by repeat (first | exact w_nil | refine w_cons (Or.inl (y_m rfl)) ?_ | refine w_cons (Or.inr (by assumption)) ?_))
      refine q_lowest (n := x) (m := gv) e2.1 (by omega) gv1 (fun u l H2 e3 g1 g2 g3 g4 g5 g6 g7 => ⟨fun n e => (by cases e), ?_⟩)
      exact T67 (y_sq e2 e3 rfl rfl) he g1 g2 (g7 x0) g3
    have T46 : ∀ {G : aH} {eI : Int32}, y_fr h G [19587, 19588, 19589, 19616, 19617, 19618] [] → eI.toInt = e0 → aOK s_P X (d + 168) a_m244 46 [some (.ref 155), some (.int rI), some (.int fI), some (.int tI), some (.int gI), some (.int uI), some (.long gv), none, some (.long n), none, some (.long dd), none, some (.int kI), o13, o14, none, o16, none] [.int eI] G C S K0 := by
      intro G eI e he
      refine w_go z_hl [] [236] 40 e.1 ?_
      intro H hH
      have e2 := y_st e hH (by repeat (first | exact w_nil | refine w_cons (Or.inl (y_m rfl)) ?_ | refine w_cons (Or.inr (by assumption)) ?_)) (by repeat (first | exact w_nil | refine w_cons (Or.inl (y_m rfl)) ?_ | refine w_cons (Or.inr (by assumption)) ?_))
      refine y_wob (y_sc_fr s e2 rfl rfl rfl) h1 r11 (fun _ => by rw [hk, he]; exact ok) okg (fun x H2 f2 x0 x8 => ⟨fun n e => (by cases e), ?_⟩)
      exact T62 (y_sq e2 f2 rfl rfl) he x0
    refine w_go z_hl [32] [245] 40 s.1 ?_
    refine ⟨fun q => ?_, fun _ => fun H hH => ?_⟩
    · have q1 : tI.toInt ≤ kI.toInt := (y_ci .ge _ _).mp q
      omega
    · have f : y_fr h H [] [] := y_st (y_rf s.1) hH (by repeat (first | exact w_nil | refine w_cons (Or.inl (y_m rfl)) ?_ | refine w_cons (Or.inr (by assumption)) ?_)) (by repeat (first | exact w_nil | refine w_cons (Or.inl (y_m rfl)) ?_ | refine w_cons (Or.inr (by assumption)) ?_))
      refine y_thingEnd f.1 ((y_ae f rfl).trans s.2.2.1) h1 r11 hk h3 t40 hE1 le ed (fun eI H2 f2 he => ⟨fun n e => (by cases e), ?_⟩)
      exact T46 (y_sq (y_mo f rfl rfl) f2 rfl rfl) he
theorem y_alone {h : aH} (s : y_sc h nd sg wl) {rI fI tI gI uI : Int32} {r b f : Nat} (h1 : rI.toInt = r) (r11 : r ≤ 11) (h2 : fI.toInt = b) (h3 : tI.toInt = f) (f40 : f ≤ 40) (hE : y_E (y_tx sg r) f 162 1 b f) (okg : 0 ≤ gI.toInt → y_ok1 (y_tx sg r) 40 gI.toInt uI.toInt) (hK : ∀ (x : Int32) (H : aH), y_fr h H [19587, 19588, 19589, 19616, 19617, 19618] [] → (0 ≤ x.toInt → y_low H) → K0 (some (.int x)) H C S) : aOK s_P X (d + 168) a_m244 0 [some (.ref 155), some (.int rI), some (.int fI), some (.int tI), some (.int gI), some (.int uI), none, none, none, none, none, none, none, none, none, none, none, none] [] h C S K0 := by
  have T11 : ∀ {G : aH} {x : Int64}, y_fr h G [19587, 19588, 19589, 19616, 19617, 19618] [] → 0 ≤ x.toInt → aOK s_P X (d + 168) a_m244 11 [some (.ref 155), some (.int rI), some (.int fI), some (.int tI), some (.int gI), some (.int uI), none, none, none, none, none, none, none, none, none, none, none, none] [.long x] G C S K0 := by
    intro G x e x0
    refine w_go z_hl [32] [] 40 e.1 ?_
    refine ⟨fun q => fun H hH => ?_, fun _ => fun H hH => ?_⟩
    · have q2 : x.toInt ≠ (Int64.ofNat 0).toInt := (y_cl .ne _ _).mp q
      rw [show (Int64.ofNat 0).toInt = 0 by decide] at q2
      have e2 := y_st e hH (by repeat (first | exact w_nil | refine w_cons (Or.inl (y_m rfl)) ?_ | refine w_cons (Or.inr (by assumption)) ?_)) (by repeat (first | exact w_nil | refine w_cons (Or.inl (y_m rfl)) ?_ | refine w_cons (Or.inr (by assumption)) ?_))
      exact y_alone_loop h1 r11 h3 f40 okg (by omega) 40 H _ _ _ b 162 _ _ _ (y_sc_fr s e2 rfl rfl rfl) h2 (by omega) (by omega) hE (by decide) (by decide) (fun x H2 f2 lo => hK x H2 (y_sq e2 f2 rfl rfl) (fun _ => lo))
    · exact hK _ H (y_st e hH (by repeat (first | exact w_nil | refine w_cons (Or.inl (y_m rfl)) ?_ | refine w_cons (Or.inr (by assumption)) ?_)) (by repeat (first | exact w_nil | refine w_cons (Or.inl (y_m rfl)) ?_ | refine w_cons (Or.inr (by assumption)) ?_))) (fun q => absurd q (by decide))
  refine w_go z_hl [] [236] 40 s.1 ?_
  intro H hH
  have e : y_fr h H [19587, 19588, 19589, 19616, 19617, 19618] [] := y_st (y_mo (y_rf s.1) rfl rfl) hH (by repeat (first | exact w_nil | refine w_cons (Or.inl (y_m rfl)) ?_ | refine w_cons (Or.inr (by assumption)) ?_)) (by repeat (first | exact w_nil | refine w_cons (Or.inl (y_m rfl)) ?_ | refine w_cons (Or.inr (by assumption)) ?_))
  refine y_wob (y_sc_fr s e rfl rfl rfl) h1 r11 (fun q => absurd q (by decide)) okg (fun x H2 f2 x0 x8 => ⟨fun n e => (by cases e), ?_⟩)
  exact T11 (y_sq e f2 rfl rfl) x0
end WG
