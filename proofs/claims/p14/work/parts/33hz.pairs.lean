section PT33he
/-! ===== v10: weight (laid by wip/tools/mk10f.py) ===== -/
theorem y_wt_F {F F' : Nat → Nat → Int} {w : Nat} : ∀ {k : Nat}, (∀ v, v < k → F' v w = F v w) → y_wt F' w k = y_wt F w k
  | 0, _ => rfl
  | k + 1, h => by
    show y_wt F' w k * F' k w = y_wt F w k * F k w
    rw [y_wt_F (fun v hv => h v (by omega)), h k (by omega)]
theorem y_W_fo {nd : Int32} {le de ta fo fo' : List Int32} {w k : Nat} (h : ∀ v, v < k → y_N fo' v = y_N fo v) : y_W nd le de ta fo' w k = y_W nd le de ta fo w k := y_wt_F (fun v hv => by
  unfold y_fa
  rw [h v hv])
theorem y_l2i {x : Int64} (h0 : 0 ≤ x.toInt) (h1 : x.toInt ≤ 2147483647) : x.toInt32.toInt = x.toInt := by
  rw [Int64.toInt_toInt32]
  exact Int.bmod_eq_of_le (by omega) (by omega)
abbrev n_wtV (a nd : Int32) : Prop := 0 ≤ a.toInt ∧ a.toInt < (y_ways nd : Int)
noncomputable def n_s28 (us : List Int32) (v : Nat → Int32) : (Nat → Int32) × Int32 := match us with
  | [a] => (n_up v 143 (Int32.ofInt 1), if n_wtV a (v 128) then Int32.ofInt (y_W (v 128) (n_ls v 701000 10) (n_ls v 702000 10) (n_ls v 700000 80) (n_ls v 704000 10) a.toInt.toNat (v 128).toInt.toNat) else Int32.ofInt (-1))
  | _ => (v, 0)
section NWT
variable {X : aX} {C S d : Nat} {K0 : Option Value → aH → Nat → Nat → Prop}
theorem c_weightOf {h : aH} (hr : w_hr z_D h) {a nd : Int32} {wl : List Int32} (g0 : w_f h 128 = some (.int nd)) (h0 : 0 ≤ nd.toInt) (h10 : nd.toInt ≤ 10) (a9 : w_a h 9 = some (0, .inl wl)) (yes : n_wtV a nd → ∀ H, y_fr h H [] [] → K0 (some (.int (wl.getD a.toInt.toNat 0))) H C S) (no : ¬ n_wtV a nd → ∀ H, y_fr h H [] [] → K0 (some (.int (Int32.ofInt (-1)))) H C S) : aOK s_P X (d + 1) a_m32 0 [some (.ref 3), some (.int a)] [] h C S K0 := by
  have T5 : ∀ {G : aH}, n_wtV a nd → y_fr h G [] [] → aOK s_P X (d + 1) a_m32 5 [some (.ref 3), some (.int a)] [.int (y_01 true)] G C S K0 := by
    intro G q e
    obtain ⟨v1, v2⟩ := id q
    have wle : y_ways nd ≤ 1024 := (y_all h0 h10).2.2
    refine w_go z_hl [] [] 40 e.1 ?_
    refine ⟨fun q => absurd q (by decide), fun _ => ⟨⟨by omega, by omega⟩, fun l hl len bb => fun H hH => ?_⟩⟩
    obtain rfl := y_ai ((y_ae e rfl).trans a9) hl
    exact yes q H (y_st e hH (by repeat (first | exact w_nil | refine w_cons (Or.inl (y_m rfl)) ?_ | refine w_cons (Or.inr (by assumption)) ?_)) (by repeat (first | exact w_nil | refine w_cons (Or.inl (y_m rfl)) ?_ | refine w_cons (Or.inr (by assumption)) ?_)))
  have T5n : ∀ {G : aH}, ¬ n_wtV a nd → y_fr h G [] [] → aOK s_P X (d + 1) a_m32 5 [some (.ref 3), some (.int a)] [.int (y_01 false)] G C S K0 := by
    intro G nv e
    refine w_go z_hl [] [] 40 e.1 ?_
    exact ⟨fun _ => fun H hH => no nv H (y_st e hH (by repeat (first | exact w_nil | refine w_cons (Or.inl (y_m rfl)) ?_ | refine w_cons (Or.inr (by assumption)) ?_)) (by repeat (first | exact w_nil | refine w_cons (Or.inl (y_m rfl)) ?_ | refine w_cons (Or.inr (by assumption)) ?_))), fun q => absurd q (by decide)⟩
  refine w_go z_hl [] [14] 30 hr ?_
  intro H hH
  have e : y_fr h H [] [] := y_st (y_rf hr) hH (by repeat (first | exact w_nil | refine w_cons (Or.inl (y_m rfl)) ?_ | refine w_cons (Or.inr (by assumption)) ?_)) (by repeat (first | exact w_nil | refine w_cons (Or.inl (y_m rfl)) ?_ | refine w_cons (Or.inr (by assumption)) ?_))
  refine c_hasAll (v := a) e.1 ((y_fe e rfl).trans g0) h0 h10 (fun H2 h2 v1 v2 => ⟨fun n e => (by cases e), ?_⟩) (fun H2 h2 nv => ⟨fun n e => (by cases e), ?_⟩)
  · exact T5 ⟨v1, v2⟩ (y_sq e h2 rfl rfl)
  · exact T5n nv (y_sq e h2 rfl rfl)
theorem c_weight {h : aH} (hr : w_hr z_D h) {a nd F G fr : Int32} {le lc lo de ta fo wl : List Int32} (hn : c_net h nd F G le lc lo de ta fo) (hf : ∀ k : Nat, (k : Int) < nd.toInt → -1 ≤ y_N fo k ∧ y_N fo k ≤ 1) (gf : w_f h 143 = some (.int fr)) (a9 : w_a h 9 = some (0, .inl wl)) (l9 : wl.length = 1024) (hw : fr.toInt ≠ 0 → c_wk nd le de ta fo nd.toInt.toNat wl) (hK : ∀ (H : aH) (wl' : List Int32) (r : Int32), y_fr h H [143] [9] → w_f H 143 = some (.int (Int32.ofInt 1)) → w_a H 9 = some (0, .inl wl') → c_wk nd le de ta fo nd.toInt.toNat wl' → (n_wtV a nd → r = wl'.getD a.toInt.toNat 0) → (¬ n_wtV a nd → r = Int32.ofInt (-1)) → K0 (some (.int r)) H C S) : aOK s_P X (d + 3) a_m28 0 [some (.ref 2), some (.int a)] [] h C S K0 := by
  have b0 := hn.2.2.1
  have g0 := hn.1.1
  have T15 : ∀ {J : aH} {wl' : List Int32} {r : Int32}, y_fr h J [143] [9] → w_f J 143 = some (.int (Int32.ofInt 1)) → w_a J 9 = some (0, .inl wl') → c_wk nd le de ta fo nd.toInt.toNat wl' → (n_wtV a nd → r = wl'.getD a.toInt.toNat 0) → (¬ n_wtV a nd → r = Int32.ofInt (-1)) → aOK s_P X (d + 3) a_m28 15 [some (.ref 2), some (.int a)] [.int r] J C S K0 := by
    intro J wl' r e u1 u2 u3 y n
    refine w_go z_hl [] [] 20 e.1 ?_
    intro H hH
    have f : y_fr J H [] [] := y_st (y_rf e.1) hH (by repeat (first | exact w_nil | refine w_cons (Or.inl (y_m rfl)) ?_ | refine w_cons (Or.inr (by assumption)) ?_)) (by repeat (first | exact w_nil | refine w_cons (Or.inl (y_m rfl)) ?_ | refine w_cons (Or.inr (by assumption)) ?_))
    exact hK H wl' r (y_sq e f rfl rfl) ((y_fe f rfl).trans u1) ((y_ae f rfl).trans u2) u3 y n
  have T7 : ∀ {J : aH} {wl' : List Int32}, y_fr h J [143] [9] → w_f J 143 = some (.int (Int32.ofInt 1)) → w_a J 9 = some (0, .inl wl') → c_wk nd le de ta fo nd.toInt.toNat wl' → aOK s_P X (d + 3) a_m28 7 [some (.ref 2), some (.int a)] [] J C S K0 := by
    intro J wl' e u1 u2 u3
    refine w_go z_hl [] [32] 30 e.1 ?_
    intro H hH
    have f : y_fr J H [] [] := y_st (y_rf e.1) hH (by repeat (first | exact w_nil | refine w_cons (Or.inl (y_m rfl)) ?_ | refine w_cons (Or.inr (by assumption)) ?_)) (by repeat (first | exact w_nil | refine w_cons (Or.inl (y_m rfl)) ?_ | refine w_cons (Or.inr (by assumption)) ?_))
    have e2 : y_fr h H [143] [9] := y_sq e f rfl rfl
    refine c_weightOf (d := d + 1) (a := a) e2.1 ((y_fe e2 rfl).trans g0) b0.1 b0.2 ((y_ae f rfl).trans u2) (fun q H3 h3 => ⟨fun n e => (by cases e), ?_⟩) (fun q H3 h3 => ⟨fun n e => (by cases e), ?_⟩)
    · exact T15 (y_sq e2 h3 rfl rfl) ((y_fe h3 rfl).trans ((y_fe f rfl).trans u1)) ((y_ae h3 rfl).trans ((y_ae f rfl).trans u2)) u3 (fun _ => rfl) (fun w => absurd q w)
    · exact T15 (y_sq e2 h3 rfl rfl) ((y_fe h3 rfl).trans ((y_fe f rfl).trans u1)) ((y_ae h3 rfl).trans ((y_ae f rfl).trans u2)) u3 (fun w => absurd w q) (fun _ => rfl)
  refine w_go z_hl [] [29] 30 hr ?_
  intro H hH
  have e : y_fr h H [] [] := y_st (y_rf hr) hH (by repeat (first | exact w_nil | refine w_cons (Or.inl (y_m rfl)) ?_ | refine w_cons (Or.inr (by assumption)) ?_)) (by repeat (first | exact w_nil | refine w_cons (Or.inl (y_m rfl)) ?_ | refine w_cons (Or.inr (by assumption)) ?_))
  refine c_refresh (d := d) e.1 (c_net_y hn e rfl rfl) hf ((y_fe e rfl).trans gf) ((y_ae e rfl).trans a9) l9 hw (fun H2 wl' f u1 u2 u3 => ⟨fun n e => (by cases e), ?_⟩)
  exact T7 (y_sq (y_mo e rfl rfl) f rfl rfl) u1 u2 u3
theorem f_weight {h : aH} (hr : w_hr z_D h) (hJ : y_J h) {a nd : Int32} {le de ta fo : List Int32} (m1 : w_f h 19591 = some (.int nd)) (m2 : w_a h 156 = some (0, .inl le)) (m3 : w_a h 157 = some (0, .inl de)) (m4 : w_a h 158 = some (0, .inl ta)) (m5 : w_a h 159 = some (0, .inl fo)) (hk : ∀ (r : Int32) (H : aH), y_fr h H [19584] [] → (n_wtV a nd → r.toInt = y_W nd le de ta fo a.toInt.toNat nd.toInt.toNat) → (¬ n_wtV a nd → r = Int32.ofInt (-1)) → K0 (some (.int r)) H C S) : aOK s_P X (d + 2) a_m183 0 [some (.ref 155), some (.int a)] [] h C S K0 := by
  obtain ⟨nd0, le0, de0, ta0, n1, n2, n3, n4, c1, c2, c3, c4, c5⟩ := id hJ.1
  obtain rfl := y_fi m1 n1
  obtain rfl := y_ai m2 n2
  obtain rfl := y_ai m3 n3
  obtain rfl := y_ai m4 n4
  obtain ⟨b1, b2⟩ := y_ndb hr n1
  obtain ⟨ea, l1, l2⟩ := y_all b1 b2
  have net : y_net h nd le de ta fo := ⟨n1, n2, n3, n4, m5, c1, c2, c3, c4⟩
  have T18 : ∀ {G : aH} {x : Int64}, n_wtV a nd → x.toInt = y_W nd le de ta fo a.toInt.toNat nd.toInt.toNat → y_fr h G [19584] [] → aOK s_P X (d + 2) a_m183 18 [some (.ref 155), some (.int a)] [.long x] G C S K0 := by
    intro G x q hx e
    have hta : ∀ x ∈ ta, 0 ≤ x.toInt := by
      obtain ⟨l, g1, g2, g3⟩ := w_arrI hr (o := 158) (t := 0) (n := 80) (lo := 0) (hi := 10000000) (by decide) rfl
      have e := (w_a_at g1).symm.trans n4
      cases e
      exact fun x hx => (g3 x hx).1
    have wb := y_W_b net b2 hta (wy := a.toInt.toNat) (k := nd.toInt.toNat) (by omega)
    refine w_go z_hl [] [] 30 e.1 ?_
    exact fun H hH => hk _ H (y_st e hH (by repeat (first | exact w_nil | refine w_cons (Or.inl (y_m rfl)) ?_ | refine w_cons (Or.inr (by assumption)) ?_)) (by repeat (first | exact w_nil | refine w_cons (Or.inl (y_m rfl)) ?_ | refine w_cons (Or.inr (by assumption)) ?_))) (fun _ => by rw [y_l2i (by omega) (by omega)]; exact hx) (fun w => absurd q w)
  have T10 : ∀ {G : aH}, n_wtV a nd → y_fr h G [19584] [] → aOK s_P X (d + 2) a_m183 10 [some (.ref 155), some (.int a)] [.int (y_01 true)] G C S K0 := by
    intro G q e
    obtain ⟨v1, v2⟩ := id q
    refine w_go z_hl [] [184] 30 e.1 ?_
    refine ⟨fun q => absurd q (by decide), fun _ => fun H hH => ?_⟩
    have e2 := y_st e hH (by repeat (first | exact w_nil | refine w_cons (Or.inl (y_m rfl)) ?_ | refine w_cons (Or.inr (by assumption)) ?_)) (by repeat (first | exact w_nil | refine w_cons (Or.inl (y_m rfl)) ?_ | refine w_cons (Or.inr (by assumption)) ?_))
    refine y_weightOf (wy := a.toInt.toNat) (by omega) (by omega) e2.1 (y_net_fr2 e2 rfl rfl net) b1 (fun r H2 e3 hr3 => ⟨fun n e => (by cases e), ?_⟩)
    exact T18 q hr3 (y_sq e2 e3 rfl rfl)
  have T10n : ∀ {G : aH}, ¬ n_wtV a nd → y_fr h G [19584] [] → aOK s_P X (d + 2) a_m183 10 [some (.ref 155), some (.int a)] [.int (y_01 false)] G C S K0 := by
    intro G q e
    refine w_go z_hl [] [] 30 e.1 ?_
    exact ⟨fun _ => fun H hH => hk _ H (y_st e hH (by repeat (first | exact w_nil | refine w_cons (Or.inl (y_m rfl)) ?_ | refine w_cons (Or.inr (by assumption)) ?_)) (by repeat (first | exact w_nil | refine w_cons (Or.inl (y_m rfl)) ?_ | refine w_cons (Or.inr (by assumption)) ?_))) (fun w => absurd w q) (fun _ => rfl), fun q => absurd q (by decide)⟩
  refine w_go z_hl [] [174] 30 hr ?_
  refine ⟨rfl, y_zini (by decide) (by decide), fun H hH => ?_⟩
  have e : y_fr h H [19584] [] := y_st (y_mo (y_rf hr) rfl rfl) hH (by repeat (first | exact w_nil | refine w_cons (Or.inl (y_m rfl)) ?_ | refine w_cons (Or.inr (by assumption)) ?_)) (by repeat (first | exact w_nil | refine w_cons (Or.inl (y_m rfl)) ?_ | refine w_cons (Or.inr (by assumption)) ?_))
  refine y_isSet (v := a) e.1 ((y_fe e rfl).trans n1) b1 b2 (fun H3 h3 => ⟨fun n e => (by cases e), ?_⟩)
  cases hset : decide (0 ≤ a.toInt ∧ a.toInt < (y_ways nd : Int)) with
  | true => exact T10 (of_decide_eq_true hset) (y_sq e h3 rfl rfl)
  | false => exact T10n (of_decide_eq_false hset) (y_sq e h3 rfl rfl)
end NWT
theorem n_c28 {X : aX} : n_pc X a_m28 1 false n_s28 := by
  intro us h v C S K0 hl _ hI hc hm hk
  match us, hl with
  | [a], _ =>
    have f0 := hc.1 128 (by decide)
    have b0 := n_bd (lo := 0) (hi := 10) hI.1 f0 rfl
    obtain ⟨lc, lo, wl, fr, q8, q9, q10, q11, q12, q13⟩ := n_toW hI.1 hI.2.1.1 hc hm
    refine c_weight (d := 197) (a := a) hI.1 q8 q9 q10 q11 q12 q13 (fun H wl' r e u1 u2 u3 y n => ?_)
    have er : r = (n_s28 [a] v).2 := by
      by_cases q : n_wtV a (v 128)
      · rw [show (n_s28 [a] v).2 = Int32.ofInt (y_W (v 128) (n_ls v 701000 10) (n_ls v 702000 10) (n_ls v 700000 80) (n_ls v 704000 10) a.toInt.toNat (v 128).toInt.toNat) from if_pos q, y q]
        have q2 : a.toInt < ((2 ^ (v 128).toInt.toNat : Nat) : Int) := q.2
        have q1 := q.1
        have wb := c_W_b q8.2.2 (k := (v 128).toInt.toNat) (w := a.toInt.toNat) (by omega)
        refine Int32.toInt_inj.mp ?_
        rw [u3.2 _ (by omega), Int32.toInt_ofInt, show (Int32.size : Nat) = 4294967296 from rfl]
        exact (Int.bmod_eq_of_le (by omega) (by omega)).symm
      · rw [show (n_s28 [a] v).2 = Int32.ofInt (-1) from if_neg q]
        exact n q
    rw [er]
    obtain ⟨fr', hc'⟩ := n_ofW e.1 hc (fun k hk' e3 => e.2.1 k (fun w => e3 (List.mem_singleton.mp w))) (fun o _ e9 => e.2.2 o (fun w => e9 (List.mem_singleton.mp w))) ⟨lc, lo, wl', _, c_net_y q8 e rfl rfl, q9, u1, u2, u3.1, fun _ => u3⟩
    have e1 : n_up v 143 fr' 143 = Int32.ofInt 1 := y_fi (hc'.1 143 (by decide)) u1
    have e2 : fr' = Int32.ofInt 1 := e1
    rw [e2] at hc'
    exact hk H ⟨e.1, y_jfr y_JA_x e rfl rfl hI.2.1, t_day_frc e rfl hI.2.2⟩ hc' (n_mS_V (n_fm_ok e rfl) hm)
theorem n_r183 {X : aX} : n_pr X a_m183 1 false n_s28 := by
  intro us h w v C S K0 hl _ hI hc hm hk
  match us, hl with
  | [a], _ =>
    have g0 : w_f h 19591 = some (.int (v 128)) := hm.1 (128, 19591) (by decide)
    have b0 := n_bd (lo := 0) (hi := 10) hI.1 g0 rfl
    obtain ⟨fo, o1, o2, o3⟩ := id hm.2.1.2.2.2.2.2.2.1
    refine f_weight (d := 198) (a := a) hI.1 hI.2.1.1 g0 hm.2.1.2.2.1 hm.2.1.2.2.2.1 hm.2.1.2.2.2.2.1 o1 (fun r H e y n => ?_)
    have er : r = (n_s28 [a] v).2 := by
      by_cases q : n_wtV a (v 128)
      · rw [show (n_s28 [a] v).2 = Int32.ofInt (y_W (v 128) (n_ls v 701000 10) (n_ls v 702000 10) (n_ls v 700000 80) (n_ls v 704000 10) a.toInt.toNat (v 128).toInt.toNat) from if_pos q]
        have ew : y_W (v 128) (n_ls v 701000 10) (n_ls v 702000 10) (n_ls v 700000 80) (n_ls v 704000 10) a.toInt.toNat (v 128).toInt.toNat = y_W (v 128) (n_ls v 701000 10) (n_ls v 702000 10) (n_ls v 700000 80) fo a.toInt.toNat (v 128).toInt.toNat := y_W_fo (fun u hu => by
          unfold y_N
          rw [n_ls_at (by omega), o3 u (by omega)])
        have yr := y q
        refine Int32.toInt_inj.mp ?_
        rw [ew, ← yr, Int32.ofInt_toInt]
      · rw [show (n_s28 [a] v).2 = Int32.ofInt (-1) from if_neg q]
        exact n q
    rw [er]
    exact hk H ⟨e.1, ⟨y_J_fr e rfl rfl hI.2.1.1, j_say_e e rfl rfl hI.2.1.2.1, j_cost_e e rfl rfl hI.2.1.2.2⟩, t_day_fr e rfl hI.2.2⟩ (n_cS_V (n_fk_c (ex := []) e rfl) hc) (n_mV_3 (n_mS_V (n_fk_m e rfl) hm))
end PT33he
section PT33hf
/-! ===== v11: sums of weights over what is seen (laid by wip/tools/mk11c.py) ===== -/
def c_ok (g : Nat → Int) : Nat → Nat → Bool
  | 0, _ => true
  | k + 1, w => c_ok g k w && ((!decide (g k = 1) || w.testBit k) && (!decide (g k = 0) || !w.testBit k))
theorem c_ok_iff {g : Nat → Int} {w : Nat} : ∀ {k : Nat}, c_ok g k w = true ↔ ∀ j, j < k → (g j = 1 → w.testBit j = true) ∧ (g j = 0 → w.testBit j = false) := by
  intro k
  induction k with
  | zero => exact ⟨fun _ j hj => absurd hj (Nat.not_lt_zero j), fun _ => rfl⟩
  | succ k ih =>
    show (c_ok g k w && ((!decide (g k = 1) || w.testBit k) && (!decide (g k = 0) || !w.testBit k))) = true ↔ _
    have one : ((!decide (g k = 1) || w.testBit k) && (!decide (g k = 0) || !w.testBit k)) = true ↔ (g k = 1 → w.testBit k = true) ∧ (g k = 0 → w.testBit k = false) := by
      by_cases h1 : g k = 1
      · have h0 : ¬ g k = 0 := by omega
        rw [decide_eq_true h1, decide_eq_false h0]
        cases w.testBit k
        · exact ⟨fun q => absurd q (by decide), fun q => absurd (q.1 h1) (by decide)⟩
        · exact ⟨fun _ => ⟨fun _ => rfl, fun q => absurd q h0⟩, fun _ => rfl⟩
      · by_cases h0 : g k = 0
        · rw [decide_eq_false h1, decide_eq_true h0]
          cases w.testBit k
          · exact ⟨fun _ => ⟨fun q => absurd q h1, fun _ => rfl⟩, fun _ => rfl⟩
          · exact ⟨fun q => absurd q (by decide), fun q => absurd (q.2 h0) (by decide)⟩
        · rw [decide_eq_false h1, decide_eq_false h0]
          exact ⟨fun _ => ⟨fun q => absurd q h1, fun q => absurd q h0⟩, fun _ => rfl⟩
    rw [Bool.and_eq_true, one, ih]
    constructor
    · intro h j hj
      by_cases q : j = k
      · subst q
        exact h.2
      · exact h.1 j (by omega)
    · intro h
      exact ⟨fun j hj => h j (by omega), h k (by omega)⟩
/-- the sum over all ways that are as g tells (1 so, 0 not, else free) -/
def c_T (f : Nat → Int) (n : Nat) (g : Nat → Int) : Int := y_S (fun w => if c_ok g n w then f w else 0) (2 ^ n)
def c_up (g : Nat → Int) (k : Nat) (x : Int) : Nat → Int := fun j => if j = k then x else g j
/-- and have one as it is told besides -/
def c_TW (f : Nat → Int) (n : Nat) (g : Nat → Int) (k : Nat) (x : Int) : Int := if 0 ≤ g k ∧ g k ≠ x then 0 else c_T f n (c_up g k x)
section NTS
variable {f f' g g' : Nat → Int} {n k m b : Nat} {x : Int}
theorem c_T_c (hf : ∀ w, w < 2 ^ n → f w = f' w) (hg : ∀ j, j < n → g j = g' j) : c_T f n g = c_T f' n g' := by
  refine c_yS_c (fun w hw => ?_)
  have e : c_ok g n w = c_ok g' n w := Bool.eq_iff_iff.mpr (by
    rw [c_ok_iff, c_ok_iff]
    exact ⟨fun h j hj => by rw [← hg j hj]; exact h j hj, fun h j hj => by rw [hg j hj]; exact h j hj⟩)
  show (if c_ok g n w then f w else 0) = (if c_ok g' n w then f' w else 0)
  rw [e, hf w hw]
theorem c_T_b (f0 : ∀ i, i < 2 ^ n → 0 ≤ f i) : 0 ≤ c_T f n g ∧ c_T f n g ≤ y_S f (2 ^ n) := by
  constructor
  · have h := c_yS_le (f := fun _ => 0) (g := fun w => if c_ok g n w then f w else 0) (n := 2 ^ n) (fun i hi => by
      show (0 : Int) ≤ if c_ok g n i then f i else 0
      split
      · exact f0 i hi
      · exact Int.le_refl 0)
    rw [c_yS_0] at h
    exact h
  · refine c_yS_le (fun i hi => ?_)
    show (if c_ok g n i then f i else 0) ≤ f i
    split
    · exact Int.le_refl _
    · exact f0 i hi
theorem c_TW_b (f0 : ∀ i, i < 2 ^ n → 0 ≤ f i) : 0 ≤ c_TW f n g k x ∧ c_TW f n g k x ≤ y_S f (2 ^ n) := by
  unfold c_TW
  split
  · have := c_T_b (n := n) (g := g) f0
    omega
  · exact c_T_b f0
theorem c_T_S (hm : ∀ j, j < n → m.testBit j = decide (0 ≤ g j)) (hb : ∀ j, j < n → b.testBit j = decide (g j = 1)) (hg : ∀ j, j < n → g j ≤ 1) : c_S m b f n 0 = c_T f n g := by
  rw [← c_S_P]
  refine c_yS_c (fun w hw => ?_)
  have e : c_P m b n w = c_ok g n w := Bool.eq_iff_iff.mpr (by
    rw [c_P_iff, c_ok_iff]
    constructor
    · intro h j hj
      refine ⟨fun q => ?_, fun q => ?_⟩
      · rw [h j hj (by rw [hm j hj]; exact decide_eq_true (by omega)), hb j hj]
        exact decide_eq_true q
      · rw [h j hj (by rw [hm j hj]; exact decide_eq_true (by omega)), hb j hj]
        exact decide_eq_false (by omega)
    · intro h j hj q
      rw [hm j hj] at q
      have q := of_decide_eq_true q
      have := hg j hj
      rw [hb j hj]
      by_cases z : g j = 1
      · rw [decide_eq_true z]
        exact (h j hj).1 z
      · rw [decide_eq_false z]
        exact (h j hj).2 (by omega))
  show (if c_P m b n w then f (0 ||| w) else 0) = _
  rw [e, Nat.zero_or]
theorem c_yS_pl {p q : Nat → Int} : ∀ {n : Nat}, y_S (fun w => p w + q w) n = y_S p n + y_S q n
  | 0 => rfl
  | n + 1 => by
    show y_S (fun w => p w + q w) n + (p n + q n) = y_S p n + p n + (y_S q n + q n)
    rw [c_yS_pl]
    omega
theorem c_upk : c_up g k x k = x := if_pos rfl
theorem c_upo {j : Nat} (h : j ≠ k) : c_up g k x j = g j := if_neg h
theorem c_up_s (h : g k = x) : c_T f n (c_up g k x) = c_T f n g := c_T_c (fun _ _ => rfl) (fun j _ => by
  by_cases e : j = k
  · rw [e, c_upk, h]
  · exact c_upo e)
/-- one way or the other -/
theorem c_T_sp (hk : k < n) (h0 : -1 ≤ g k) (h1 : g k ≤ 1) : c_T f n g = c_TW f n g k 1 + c_TW f n g k 0 := by
  unfold c_TW
  by_cases z1 : g k = 1
  · rw [if_neg (by omega), if_pos (by omega), c_up_s z1]
    omega
  · by_cases z0 : g k = 0
    · rw [if_pos (by omega), if_neg (by omega), c_up_s z0]
      omega
    · rw [if_neg (by omega), if_neg (by omega)]
      show y_S _ (2 ^ n) = y_S _ (2 ^ n) + y_S _ (2 ^ n)
      rw [← c_yS_pl]
      refine c_yS_c (fun w hw => ?_)
      have e1 : c_ok (c_up g k 1) n w = (c_ok g n w && w.testBit k) := Bool.eq_iff_iff.mpr (by
        rw [Bool.and_eq_true, c_ok_iff, c_ok_iff]
        constructor
        · intro h
          refine ⟨fun j hj => ?_, (h k hk).1 c_upk⟩
          by_cases e : j = k
          · rw [e]
            exact ⟨fun q => absurd q z1, fun q => absurd q z0⟩
          · have := h j hj
            rw [c_upo e] at this
            exact this
        · intro h j hj
          by_cases e : j = k
          · rw [e, c_upk]
            exact ⟨fun _ => h.2, fun q => absurd q (by decide)⟩
          · rw [c_upo e]
            exact h.1 j hj)
      have e0 : c_ok (c_up g k 0) n w = (c_ok g n w && !w.testBit k) := Bool.eq_iff_iff.mpr (by
        rw [Bool.and_eq_true, Bool.not_eq_true', c_ok_iff, c_ok_iff]
        constructor
        · intro h
          refine ⟨fun j hj => ?_, (h k hk).2 c_upk⟩
          by_cases e : j = k
          · rw [e]
            exact ⟨fun q => absurd q z1, fun q => absurd q z0⟩
          · have := h j hj
            rw [c_upo e] at this
            exact this
        · intro h j hj
          by_cases e : j = k
          · rw [e, c_upk]
            exact ⟨fun q => absurd q (by decide), fun _ => h.2⟩
          · rw [c_upo e]
            exact h.1 j hj)
      show (if c_ok g n w then f w else 0) = (if c_ok (c_up g k 1) n w then f w else 0) + (if c_ok (c_up g k 0) n w then f w else 0)
      rw [e1, e0]
      cases c_ok g n w <;> cases w.testBit k
      · show (0 : Int) = 0 + 0
        rfl
      · show (0 : Int) = 0 + 0
        rfl
      · show f w = 0 + f w
        omega
      · show f w = f w + 0
        omega
end NTS
/-- bits that tell a state of each -/
def c_gb (F G : Int32) (n : Nat) (g : Nat → Int) : Prop := (0 ≤ F.toInt ∧ F.toInt < ((2 ^ n : Nat) : Int)) ∧ (0 ≤ G.toInt ∧ G.toInt < ((2 ^ n : Nat) : Int)) ∧ ∀ j, j < n → F.toInt.toNat.testBit j = decide (0 ≤ g j) ∧ G.toInt.toNat.testBit j = decide (g j = 1) ∧ -1 ≤ g j ∧ g j ≤ 1
/-- weights of the class -/
def c_ws (h : aH) (n : Nat) (f : Nat → Int) : Prop := ∃ (nd : Int32) (wl : List Int32), w_f h 128 = some (.int nd) ∧ nd.toInt = n ∧ n ≤ 10 ∧ w_a h 9 = some (0, .inl wl) ∧ (∀ i, i < 2 ^ n → (wl.getD i 0).toInt = f i) ∧ (∀ i, 0 ≤ f i) ∧ y_S f (2 ^ n) ≤ 100000000
theorem c_ws_fr {h H : aH} {n : Nat} {f : Nat → Int} {fs as : List Nat} (e : y_fr h H fs as) (h1 : fs.elem 128 = false) (h2 : as.elem 9 = false) (q : c_ws h n f) : c_ws H n f := by
  obtain ⟨nd, wl, g0, q1, q2, a9, q3⟩ := q
  exact ⟨nd, wl, (e.2.1 _ (n_nel h1)).trans g0, q1, q2, (e.2.2 _ (n_nel h2)).trans a9, q3⟩
theorem c_fb_lt {A B : Int32} {o n : Nat} {b : Bool} (n10 : n ≤ 10) (on : o < n) (a0 : 0 ≤ A.toInt) (a1 : A.toInt < ((2 ^ n : Nat) : Int)) (hb : c_fb A B o b) : 0 ≤ B.toInt ∧ B.toInt < ((2 ^ n : Nat) : Int) := by
  refine ⟨hb.1.1, ?_⟩
  have h1 : B.toInt.toNat < 2 ^ n := Nat.lt_pow_two_of_testBit _ (fun k hk => by
    by_cases k10 : k < 10
    · have h3 := hb.2 k k10
      rw [if_neg (by omega), n_tb0 a0 a1 hk] at h3
      exact h3
    · exact c_fb_hi hb.1 (by omega))
  have := hb.1.1
  omega
theorem c_0shl {x : Int32} {k : Nat} (hx : x.toInt = k) (k10 : k < 10) : y_01 false <<< (x &&& 31) = Int32.ofInt 0 := by
  rw [(y_ofNat hx (by omega)).1]
  rcases (show k = 0 ∨ k = 1 ∨ k = 2 ∨ k = 3 ∨ k = 4 ∨ k = 5 ∨ k = 6 ∨ k = 7 ∨ k = 8 ∨ k = 9 by omega) with rfl | rfl | rfl | rfl | rfl | rfl | rfl | rfl | rfl | rfl <;> decide
abbrev c_01 (s : Bool) : Int := if s then 1 else 0
theorem c_gb_up {F G node : Int32} {n k : Nat} {g : Nat → Int} {s : Bool} (hg : c_gb F G n g) (n10 : n ≤ 10) (hk : node.toInt = k) (kn : k < n) (nc : ¬ (0 ≤ g k ∧ g k ≠ c_01 s)) : c_gb (F ||| (Int32.ofInt 1 <<< (node &&& 31))) (G ||| (y_01 s <<< (node &&& 31))) n (c_up g k (c_01 s)) := by
  obtain ⟨⟨p1, p2⟩, ⟨p3, p4⟩, p5⟩ := hg
  have pw : 2 ^ n ≤ 2 ^ 10 := n_p2 n10
  have bF := c_fb1 (F := F) (k := node) p1 (by omega) hk (by omega)
  have lF := c_fb_lt n10 kn p1 p2 bF
  cases s with
  | true =>
    have bG : c_fb G (G ||| (y_01 true <<< (node &&& 31))) k true := c_fb1 (F := G) (k := node) p3 (by omega) hk (by omega)
    refine ⟨lF, c_fb_lt n10 kn p3 p4 bG, fun j hj => ?_⟩
    rw [bF.2 j (by omega), bG.2 j (by omega)]
    by_cases e : j = k
    · rw [if_pos e, if_pos e, e, c_upk]
      exact ⟨rfl, rfl, by decide, by decide⟩
    · rw [if_neg e, if_neg e, c_upo e]
      exact p5 j hj
  | false =>
    rw [c_0shl hk (by omega), i_or0]
    refine ⟨lF, ⟨p3, p4⟩, fun j hj => ?_⟩
    rw [bF.2 j (by omega)]
    by_cases e : j = k
    · rw [if_pos e, e, c_upk, (p5 k kn).2.1]
      refine ⟨rfl, ?_, by decide, by decide⟩
      have z : ¬ (0 ≤ g k ∧ g k ≠ 0) := nc
      rw [decide_eq_false (show ¬ g k = 1 by omega)]
      rfl
    · rw [if_neg e, c_upo e]
      exact p5 j hj
section NTC
variable {X : aX} {C S d : Nat} {K0 : Option Value → aH → Nat → Nat → Prop}
theorem c_weighG {h : aH} (hr : w_hr z_D h) {n : Nat} {f g : Nat → Int} {mask bits : Int32} (hw : c_ws h n f) (hg : c_gb mask bits n g) (hK : ∀ (H : aH) (s : Int32), y_fr h H [] [] → s.toInt = c_T f n g → K0 (some (.int s)) H C S) : aOK s_P X (d + 1) a_m36 0 [some (.ref 3), some (.int mask), some (.int bits), none, none, none, none, none] [] h C S K0 := by
  obtain ⟨nd, wl, g0, en, n10, a9, wf, f0, f8⟩ := hw
  obtain ⟨⟨p1, p2⟩, ⟨p3, p4⟩, p5⟩ := hg
  have en' : nd.toInt.toNat = n := by omega
  refine c_weigh (d := d) (m := mask.toInt.toNat) (b := bits.toInt.toNat) (f := f) hr g0 (by omega) (by omega) (by omega) (by omega) (by rw [en']; omega) (fun j hj => ?_) a9 (by rw [en']; exact wf) f0 (by rw [en']; exact f8) (fun H s e hs => hK H s e ?_)
  · by_cases z : j < n
    · rw [(p5 j z).2.1] at hj
      have := of_decide_eq_true hj
      rw [(p5 j z).1]
      exact decide_eq_true (by omega)
    · rw [n_tb0 p3 p4 (by omega)] at hj
      cases hj
  · rw [hs, en']
    exact c_T_S (fun j hj => (p5 j hj).1) (fun j hj => (p5 j hj).2.1) (fun j hj => (p5 j hj).2.2.2)
theorem c_weighWith {h : aH} (hr : w_hr z_D h) {n k : Nat} {f g : Nat → Int} {mask bits node : Int32} {s : Bool} (hw : c_ws h n f) (hg : c_gb mask bits n g) (hk : node.toInt = k) (kn : k < n) (hK : ∀ (H : aH) (r : Int32), y_fr h H [] [] → r.toInt = c_TW f n g k (c_01 s) → K0 (some (.int r)) H C S) : aOK s_P X (d + 2) a_m38 0 [some (.ref 3), some (.int mask), some (.int bits), some (.int node), some (.int (y_01 s))] [] h C S K0 := by
  have n10 : n ≤ 10 := by
    obtain ⟨nd, wl, g0, en, n10, -⟩ := hw
    exact n10
  obtain ⟨⟨p1, p2⟩, ⟨p3, p4⟩, p5⟩ := id hg
  have pw : 2 ^ n ≤ 2 ^ 10 := n_p2 n10
  have m1 := c_b01 (bits := mask) (k := node) (b := mask.toInt.toNat) (o := k) (by omega) (by omega) hk (by omega)
  have m2 := c_b01 (bits := bits) (k := node) (b := bits.toInt.toNat) (o := k) (by omega) (by omega) hk (by omega)
  obtain ⟨u1, u2, u3, u4⟩ := p5 k kn
  rw [u1] at m1
  rw [u2] at m2
  have T20 : ∀ {G : aH}, y_fr h G [] [] → ¬ (0 ≤ g k ∧ g k ≠ c_01 s) → aOK s_P X (d + 2) a_m38 20 [some (.ref 3), some (.int mask), some (.int bits), some (.int node), some (.int (y_01 s))] [] G C S K0 := by
    intro G e nc
    refine w_go z_hl [] [36] 40 e.1 ?_
    intro H hH
    have e2 : y_fr h H [] [] := y_st e hH (by repeat (first | exact w_nil | refine w_cons (Or.inl (y_m rfl)) ?_ | refine w_cons (Or.inr (by assumption)) ?_)) (by repeat (first | exact w_nil | refine w_cons (Or.inl (y_m rfl)) ?_ | refine w_cons (Or.inr (by assumption)) ?_))
    refine c_weighG (d := d) e2.1 (c_ws_fr e2 rfl rfl hw) (c_gb_up hg n10 hk kn nc) (fun H3 r f3 hr3 => ⟨fun n e => (by cases e), ?_⟩)
    have e3 := y_sq e2 f3 rfl rfl
    refine w_go z_hl [] [] 20 e3.1 ?_
    intro H4 h4
    exact hK H4 r (y_st e3 h4 (by repeat (first | exact w_nil | refine w_cons (Or.inl (y_m rfl)) ?_ | refine w_cons (Or.inr (by assumption)) ?_)) (by repeat (first | exact w_nil | refine w_cons (Or.inl (y_m rfl)) ?_ | refine w_cons (Or.inr (by assumption)) ?_))) (by rw [hr3]; exact (if_neg nc).symm)
  refine w_go z_hl [20] [] 60 hr ?_
  refine ⟨fun q => fun H hH => ?_, fun q => ⟨fun q2 => fun H hH => ?_, fun q2 => fun H hH => ?_⟩⟩
  · have z : ((mask >>> (node &&& 31)) &&& Int32.ofInt 1).toInt = (0 : Int32).toInt := (y_ci .eq _ _).mp q
    have z2 : ((mask >>> (node &&& 31)) &&& Int32.ofInt 1).toInt = 0 := z
    refine T20 (y_st (y_rf hr) hH (by repeat (first | exact w_nil | refine w_cons (Or.inl (y_m rfl)) ?_ | refine w_cons (Or.inr (by assumption)) ?_)) (by repeat (first | exact w_nil | refine w_cons (Or.inl (y_m rfl)) ?_ | refine w_cons (Or.inr (by assumption)) ?_))) (fun w => ?_)
    rw [decide_eq_true w.1, if_pos rfl] at m1
    omega
  · have z : ((bits >>> (node &&& 31)) &&& Int32.ofInt 1).toInt = (y_01 s).toInt := (y_ci .eq _ _).mp q2
    refine T20 (y_st (y_rf hr) hH (by repeat (first | exact w_nil | refine w_cons (Or.inl (y_m rfl)) ?_ | refine w_cons (Or.inr (by assumption)) ?_)) (by repeat (first | exact w_nil | refine w_cons (Or.inl (y_m rfl)) ?_ | refine w_cons (Or.inr (by assumption)) ?_))) (fun w => ?_)
    rw [m2] at z
    cases s with
    | true =>
      rw [show (y_01 true).toInt = 1 by decide] at z
      have w2 : g k ≠ 1 := w.2
      rw [decide_eq_false w2, if_neg (by decide)] at z
      omega
    | false =>
      rw [show (y_01 false).toInt = 0 by decide] at z
      have w1 := w.1
      have w2 : g k ≠ 0 := w.2
      rw [decide_eq_true (show g k = 1 by omega), if_pos rfl] at z
      omega
  · have z0 : ¬ (((mask >>> (node &&& 31)) &&& Int32.ofInt 1).toInt = (0 : Int32).toInt) := y_cif q
    have z : ¬ (((bits >>> (node &&& 31)) &&& Int32.ofInt 1).toInt = (y_01 s).toInt) := y_cif q2
    have nc : 0 ≤ g k ∧ g k ≠ c_01 s := by
      have w1 : 0 ≤ g k := by
        by_cases w : 0 ≤ g k
        · exact w
        · rw [decide_eq_false w, if_neg (by decide)] at m1
          exact absurd (show _ = (0 : Int32).toInt from m1) z0
      refine ⟨w1, fun w => z ?_⟩
      rw [m2]
      cases s with
      | true =>
        have w2 : g k = 1 := w
        rw [decide_eq_true w2]
        decide
      | false =>
        have w2 : g k = 0 := w
        rw [decide_eq_false (show ¬ g k = 1 by omega)]
        decide
    exact hK H _ (y_st (y_rf hr) hH (by repeat (first | exact w_nil | refine w_cons (Or.inl (y_m rfl)) ?_ | refine w_cons (Or.inr (by assumption)) ?_)) (by repeat (first | exact w_nil | refine w_cons (Or.inl (y_m rfl)) ?_ | refine w_cons (Or.inr (by assumption)) ?_))) (by rw [show c_TW f n g k (c_01 s) = 0 from if_pos nc]; decide)
end NTC
/-- by what is held -/
def n_W (v : Nat → Int32) (w : Nat) : Int := y_W (v 128) (n_ls v 701000 10) (n_ls v 702000 10) (n_ls v 700000 80) (n_ls v 704000 10) w (v 128).toInt.toNat
def n_sg (v : Nat → Int32) (k : Nat) : Int := (v (705000 + k)).toInt
def n_now (v : Nat → Int32) : Int := c_T (n_W v) ((v 128).toInt.toNat) (n_sg v)
def n_nwW (v : Nat → Int32) (k : Nat) (s : Bool) : Int := c_TW (n_W v) ((v 128).toInt.toNat) (n_sg v) k (c_01 s)
/-- what a call leaves that works the weights, then tells a row -/
def z_qm : List Nat := [143, 1152, 1281, 1408, 19328, 19329, 19456, 19457]
def n_Qs (v : Nat → Int32) (h H : aH) : Prop := w_hr z_D H ∧ y_JA H ∧ z_frm z_D z_qm h H ∧ n_Wv v H ∧ w_f H 143 = some (.int (Int32.ofInt 1))
section NQS
variable {X : aX} {C S d : Nat} {K0 : Option Value → aH → Nat → Nat → Prop} {h G H : aH} {v : Nat → Int32}
theorem n_Qs_y (q : n_Qs v h G) (e : y_fr G H [] []) : n_Qs v h H := ⟨e.1, y_jfr y_JA_x e rfl rfl q.2.1, z_frm_tr q.2.2.1 (y_frm q.1 e rfl rfl), n_Wv_p G H (fun k _ => e.2.1 k List.not_mem_nil) (fun o _ => e.2.2 o List.not_mem_nil) q.2.2.2.1, (y_fe e rfl).trans q.2.2.2.2⟩
theorem n_Qs_l (hr : w_hr z_D h) (e : y_fr h G [] []) (q : n_Qs v G H) : n_Qs v h H := ⟨q.1, q.2.1, z_frm_tr (y_frm hr e rfl rfl) q.2.2.1, q.2.2.2⟩
theorem n_Qs_z {ms : List Nat} (q : n_Qs v h G) (hr' : w_hr z_D H) (hJ' : y_JA H) (hf : z_frm z_D ms G H) (h1 : ms.all (fun x => z_qm.elem x) = true) (h2 : z_pm ms = true) : n_Qs v h H := by
  unfold z_pm at h2
  rw [Bool.and_eq_true] at h2
  have A : ∀ k ∈ z_pF, w_f H k = w_f G k := fun k hk => n_dk q.1 hf (List.all_eq_true.mp z_pd k hk) (by
    have := List.all_eq_true.mp h2.1 k hk
    rw [Bool.not_eq_true'] at this
    exact this)
  have B : ∀ o ∈ z_pA, w_a H o = w_a G o := fun o ho => n_da hf (List.all_eq_true.mp z_pd2 o ho) (by
    have := List.all_eq_true.mp h2.2 o ho
    rw [Bool.not_eq_true'] at this
    exact this)
  exact ⟨hr', hJ', z_frm_tr q.2.2.1 (n_zmo hf h1), n_Wv_p G H A B q.2.2.2.1, (A 143 (by decide)).trans q.2.2.2.2⟩
theorem c_refreshQ (hr : w_hr z_D h) (hJ : y_JA h) (hW : n_Wv v h) (hK : ∀ H, n_Qs v h H → K0 none H C S) : aOK s_P X (d + 2) a_m29 0 [some (.ref 3), none] [] h C S K0 := by
  obtain ⟨lc, lo, wl, fr, q8, q9, q10, q11, q12, q13⟩ := hW
  refine c_refresh (d := d) hr q8 q9 q10 q11 q12 q13 (fun H wl' f u1 u2 u3 => hK H ?_)
  exact ⟨f.1, y_jfr y_JA_x f rfl rfl hJ, y_frm hr f rfl rfl, ⟨lc, lo, wl', _, c_net_y q8 f rfl rfl, q9, u1, u2, u3.1, fun _ => u3⟩, u1⟩
theorem n_W_s {F G : Int32} {lc lo : List Int32} (q : c_nok (v 128) F G (n_ls v 701000 10) lc lo (n_ls v 702000 10) (n_ls v 700000 80) (n_ls v 704000 10)) : (∀ i, 0 ≤ n_W v i) ∧ y_S (n_W v) (2 ^ (v 128).toInt.toNat) ≤ 100000000 := by
  obtain ⟨b, -, -, q4, q5, q6, q7⟩ := id q
  refine ⟨fun i => (c_W_b q (by omega)).1, ?_⟩
  refine Int.le_trans (y_fa_sum (n := (v 128).toInt.toNat) (le := y_Nn (n_ls v 701000 10)) (de := y_N (n_ls v 702000 10)) (ta := y_N (n_ls v 700000 80)) (fo := y_N (n_ls v 704000 10)) (fun u hu => (q4 u (by omega)).1) (fun u hu => Nat.le_trans (y_pl_m (show (v 128).toInt.toNat ≤ 10 by omega)) (q4 u (by omega)).2.1) (fun u c hu hc => ?_) (fun u hu => Int.le_trans (by decide) (q6 u (by omega)).1)) q7
  have h1 := q5 (8 * u + c) (by omega)
  rw [show (8 * u + c) / 8 = u by omega] at h1
  exact h1
theorem n_Qs_ws (q : n_Qs v h G) : c_ws G ((v 128).toInt.toNat) (n_W v) := by
  obtain ⟨lc, lo, wl, fr, q8, q9, q10, q11, q12, q13⟩ := q.2.2.2.1
  have e : fr = Int32.ofInt 1 := y_fi q10 q.2.2.2.2
  have wk := q13 (by rw [e]; decide)
  have b0 := q8.2.2.1
  obtain ⟨s1, s2⟩ := n_W_s q8.2.2
  exact ⟨v 128, wl, q8.1.1, by omega, by omega, q11, wk.2, s1, s2⟩
theorem n_Qs_sn (hr : w_hr z_D h) (hc : n_cV h v) (q : n_Qs v h G) : w_f G 138 = some (.int (v 138)) ∧ w_f G 139 = some (.int (v 139)) ∧ c_gb (v 138) (v 139) ((v 128).toInt.toNat) (n_sg v) := by
  have hm : n_mk z_qm [143, 1152] = true := by decide +kernel
  obtain ⟨p1, p2, p3⟩ := id hc.2.2.2.2.2.2.2.2.2.2.2.2.1
  refine ⟨(n_mk_c hr q.2.2.1 hm 138 (by decide) (by decide)).trans (hc.1 138 (by decide)), (n_mk_c hr q.2.2.1 hm 139 (by decide) (by decide)).trans (hc.1 139 (by decide)), p1, p2, fun j hj => ?_⟩
  exact p3 j (by omega)
theorem n_Qs_pc (hI : t_I h) (hc : n_cV h v) (hm : n_mV h v) (q : n_Qs v h H) : t_I H ∧ n_cV H (n_up v 143 (Int32.ofInt 1)) ∧ n_mV H v := by
  obtain ⟨q1, q2, q3, q4, q5⟩ := q
  have h6 : n_mk z_qm [143, 1152] = true := by decide +kernel
  have A1 : ∀ k ∈ nC, k ≠ 143 → w_f H k = w_f h k := fun k hk e => n_mk_c hI.1 q3 h6 k hk (fun w => by
    have z : nC.all (fun k => decide (k ≠ 1152)) = true := rfl
    have z := of_decide_eq_true (List.all_eq_true.mp z k hk)
    simp only [List.mem_cons, List.not_mem_nil, or_false] at w
    omega)
  have A2 : ∀ o ∈ nCA, o ≠ 9 → w_a H o = w_a h o := fun o ho e => n_mk_a q3 h6 o ho (fun w => by
    simp only [List.mem_cons, List.not_mem_nil, or_false] at w
    omega)
  obtain ⟨fr, hc'⟩ := n_ofW q1 hc A1 A2 q4
  have e1 : n_up v 143 fr 143 = Int32.ofInt 1 := y_fi (hc'.1 143 (by decide)) q5
  have e2 : fr = Int32.ofInt 1 := e1
  rw [e2] at hc'
  exact ⟨⟨q1, q2, t_day_frm hI.1 q3 (by decide) hI.2.2⟩, hc', n_mS_V (n_mk_m (ex := [143, 1152]) hI.1 q3 h6) hm⟩
theorem c_wNow (hr : w_hr z_D h) (hc : n_cV h v) (q : n_Qs v h G) (hK : ∀ (H : aH) (r : Int32), n_Qs v h H → r.toInt = n_now v → K0 (some (.int r)) H C S) : aOK s_P X (d + 2) a_m35 0 [some (.ref 3)] [] G C S K0 := by
  obtain ⟨g1, g2, gb⟩ := n_Qs_sn hr hc q
  refine w_go z_hl [] [36] 40 q.1 ?_
  intro x hx _ _
  obtain rfl := y_fi g1 hx
  intro y hy _ _
  obtain rfl := y_fi g2 hy
  intro H hH
  have e : y_fr G H [] [] := y_st (y_rf q.1) hH (by repeat (first | exact w_nil | refine w_cons (Or.inl (y_m rfl)) ?_ | refine w_cons (Or.inr (by assumption)) ?_)) (by repeat (first | exact w_nil | refine w_cons (Or.inl (y_m rfl)) ?_ | refine w_cons (Or.inr (by assumption)) ?_))
  refine c_weighG (d := d) e.1 (c_ws_fr e rfl rfl (n_Qs_ws q)) gb (fun H3 r f3 hr3 => ⟨fun n e => (by cases e), ?_⟩)
  refine w_go z_hl [] [] 20 f3.1 ?_
  intro H4 h4
  exact hK H4 r (n_Qs_y q (y_st (y_sq e f3 rfl rfl) h4 (by repeat (first | exact w_nil | refine w_cons (Or.inl (y_m rfl)) ?_ | refine w_cons (Or.inr (by assumption)) ?_)) (by repeat (first | exact w_nil | refine w_cons (Or.inl (y_m rfl)) ?_ | refine w_cons (Or.inr (by assumption)) ?_)))) hr3
theorem c_weighNowWith (hr : w_hr z_D h) (hc : n_cV h v) (q : n_Qs v h G) {node : Int32} {k : Nat} {s : Bool} (hk : node.toInt = k) (kn : k < (v 128).toInt.toNat) (hK : ∀ (H : aH) (r : Int32), n_Qs v h H → r.toInt = n_nwW v k s → K0 (some (.int r)) H C S) : aOK s_P X (d + 3) a_m37 0 [some (.ref 3), some (.int node), some (.int (y_01 s))] [] G C S K0 := by
  obtain ⟨g1, g2, gb⟩ := n_Qs_sn hr hc q
  refine w_go z_hl [] [38] 40 q.1 ?_
  intro x hx _ _
  obtain rfl := y_fi g1 hx
  intro y hy _ _
  obtain rfl := y_fi g2 hy
  intro H hH
  have e : y_fr G H [] [] := y_st (y_rf q.1) hH (by repeat (first | exact w_nil | refine w_cons (Or.inl (y_m rfl)) ?_ | refine w_cons (Or.inr (by assumption)) ?_)) (by repeat (first | exact w_nil | refine w_cons (Or.inl (y_m rfl)) ?_ | refine w_cons (Or.inr (by assumption)) ?_))
  refine c_weighWith (d := d) (s := s) e.1 (c_ws_fr e rfl rfl (n_Qs_ws q)) gb hk kn (fun H3 r f3 hr3 => ⟨fun n e => (by cases e), ?_⟩)
  refine w_go z_hl [] [] 20 f3.1 ?_
  intro H4 h4
  exact hK H4 r (n_Qs_y q (y_st (y_sq e f3 rfl rfl) h4 (by repeat (first | exact w_nil | refine w_cons (Or.inl (y_m rfl)) ?_ | refine w_cons (Or.inr (by assumption)) ?_)) (by repeat (first | exact w_nil | refine w_cons (Or.inl (y_m rfl)) ?_ | refine w_cons (Or.inr (by assumption)) ?_)))) hr3
/-- a fraction is put, and told -/
theorem c_put1 (q : n_Qs v h G) {a b : Int64} (hK : ∀ H, n_Qs v h H → K0 none H C S) : aOK s_P X (d + 1) a_m39 0 [some (.ref 153), some (.long a), none, some (.long b), none, none, none] [] G C S K0 := by
  have b1 := a.toInt_lt
  have b2 := a.le_toInt
  have b3 := b.toInt_lt
  have b4 := b.le_toInt
  exact n_boxv [.long a, .long b] (z_x13_s (y_jx_l y_JA_x)) rfl rfl rfl q.1 q.2.1 (n_Bl (by omega) (by omega) (n_Bl (by omega) (by omega) n_B0)) (fun q hq => by cases hq) (by decide) rfl (by decide +kernel) (fun H' r1 r2 r3 => hK H' (n_Qs_z q r1 r2 r3 (by decide) (by decide)))
theorem c_tell1 (q : n_Qs v h G) (hK : ∀ H, n_Qs v h H → K0 none H C S) : aOK s_P X (d + 2) a_m42 0 [some (.ref 12), some (.ref 153)] [] G C S K0 := n_boxv [] (z_x17_s (y_jx_l y_JA_x)) rfl rfl rfl q.1 q.2.1 n_B0 (fun q hq => by cases hq) (by decide) rfl (by decide +kernel) (fun H' r1 r2 r3 => hK H' (n_Qs_z q r1 r2 r3 (by decide) (by decide)))
end NQS
/-- the reference's sums -/
theorem y_ws_S {wl : List Int64} {a b : Int32} : ∀ {n : Nat}, y_ws wl a b n = y_S (fun w => if y_sel a b (Int32.ofNat w) then (wl.getD w 0).toInt else 0) n
  | 0 => rfl
  | n + 1 => by
    show y_ws wl a b n + _ = y_S _ n + _
    rw [y_ws_S]
theorem c_and_i {x y : Int32} {n m : Nat} (hx : x.toInt = n) (hy : y.toInt = m) : (x &&& y = y ↔ ∀ j, m.testBit j = true → n.testBit j = true) ∧ (x &&& y = 0 ↔ ∀ j, m.testBit j = true → n.testBit j = false) := by
  have e := c_and hx hy
  constructor
  · constructor
    · intro h j hj
      have h2 : n &&& m = m := by
        rw [h, hy] at e
        omega
      have h3 : (n &&& m).testBit j = true := by rw [h2]; exact hj
      rw [Nat.testBit_and, Bool.and_eq_true] at h3
      exact h3.1
    · intro h
      refine Int32.toInt_inj.mp ?_
      rw [e, hy]
      have : n &&& m = m := Nat.eq_of_testBit_eq (fun j => by
        rw [Nat.testBit_and]
        cases hj : m.testBit j with
        | true => rw [h j hj]; rfl
        | false => exact Bool.and_false _)
      rw [this]
  · constructor
    · intro h j hj
      have h2 : n &&& m = 0 := by
        rw [h, show (0 : Int32).toInt = 0 by decide] at e
        omega
      have h3 : (n &&& m).testBit j = false := by rw [h2]; exact Nat.zero_testBit j
      rw [Nat.testBit_and, hj, Bool.and_true] at h3
      exact h3
    · intro h
      refine Int32.toInt_inj.mp ?_
      rw [e, show (0 : Int32).toInt = 0 by decide]
      have : n &&& m = 0 := Nat.eq_of_testBit_eq (fun j => by
        rw [Nat.testBit_and, Nat.zero_testBit]
        cases hj : m.testBit j with
        | true => rw [h j hj]; rfl
        | false => exact Bool.and_false _)
      rw [this]
      rfl
theorem y_sel_i {a b : Int32} {A B w : Nat} (ha : a.toInt = A) (hb : b.toInt = B) (w10 : w < 1024) : y_sel a b (Int32.ofNat w) = true ↔ ∀ j, (A.testBit j = true → w.testBit j = true) ∧ (B.testBit j = true → w.testBit j = false) := by
  have hw : (Int32.ofNat w).toInt = w := Int32.toInt_ofNat_of_lt (by omega)
  unfold y_sel
  rw [Bool.and_eq_true, decide_eq_true_eq, decide_eq_true_eq, (c_and_i hw ha).1, (c_and_i hw hb).2]
  exact ⟨fun h j => ⟨h.1 j, h.2 j⟩, fun h => ⟨fun j => (h j).1, fun j => (h j).2⟩⟩
theorem y_bits_N {p : Nat → Bool} : ∀ {n : Nat}, n ≤ 10 → ∃ A : Nat, (y_bits p n).toInt = A ∧ A < 1024 ∧ ∀ j, A.testBit j = (decide (j < n) && p j) := by
  intro n
  induction n with
  | zero =>
    intro _
    refine ⟨0, show (Int32.ofInt 0).toInt = ((0 : Nat) : Int) by decide, by decide, fun j => ?_⟩
    rw [Nat.zero_testBit, decide_eq_false (Nat.not_lt_zero j)]
    rfl
  | succ n ih =>
    intro n10
    obtain ⟨A, h1, h2, h3⟩ := ih (by omega)
    have hn : (Int32.ofNat n).toInt = n := Int32.toInt_ofNat_of_lt (by omega)
    have sh := c_shlN hn (by omega)
    have p10 : 2 ^ n < 2 ^ 10 := Nat.pow_lt_pow_right (by decide) (by omega)
    cases hp : p n with
    | true =>
      have e : y_bits p (n + 1) = y_bits p n ||| (Int32.ofInt 1 <<< (Int32.ofNat n &&& 31)) := by
        show y_bits p n ||| cond (p n) _ _ = _
        rw [hp]
        rfl
      obtain ⟨o1, o2⟩ := c_orN h1 sh h2 (by omega)
      refine ⟨_, by rw [e]; exact o1, o2, fun j => ?_⟩
      rw [Nat.testBit_or, h3 j, Nat.testBit_two_pow]
      by_cases z : n = j
      · subst z
        rw [decide_eq_true (rfl : n = n), decide_eq_true (Nat.lt_succ_self n), hp, Bool.or_true]
        rfl
      · rw [decide_eq_false z, Bool.or_false]
        by_cases y : j < n
        · rw [decide_eq_true y, decide_eq_true (show j < n + 1 by omega)]
        · rw [decide_eq_false y, decide_eq_false (show ¬ j < n + 1 by omega)]
    | false =>
      have e : y_bits p (n + 1) = y_bits p n := by
        show y_bits p n ||| cond (p n) _ _ = _
        rw [hp]
        exact i_or0 _
      refine ⟨A, by rw [e]; exact h1, h2, fun j => ?_⟩
      rw [h3 j]
      by_cases z : j = n
      · subst z
        rw [hp, Bool.and_false, Bool.and_false]
      · by_cases y : j < n
        · rw [decide_eq_true y, decide_eq_true (show j < n + 1 by omega)]
        · rw [decide_eq_false y, decide_eq_false (show ¬ j < n + 1 by omega)]
/-- a sum of the reference, where no bit is asked both ways -/
theorem y_ws_T {wl : List Int64} {a b : Int32} {A B n : Nat} {f g : Nat → Int} (ha : a.toInt = A) (hb : b.toInt = B) (n10 : n ≤ 10) (hA : ∀ j, A.testBit j = true ↔ (j < n ∧ g j = 1)) (hB : ∀ j, B.testBit j = true ↔ (j < n ∧ g j = 0)) (hf : ∀ w, w < 2 ^ n → (wl.getD w 0).toInt = f w) : y_ws wl a b (2 ^ n) = c_T f n g := by
  have pw : 2 ^ n ≤ 2 ^ 10 := Nat.pow_le_pow_right (by decide) n10
  rw [y_ws_S]
  refine c_yS_c (fun w hw => ?_)
  have e : y_sel a b (Int32.ofNat w) = c_ok g n w := Bool.eq_iff_iff.mpr (by
    rw [y_sel_i ha hb (by omega), c_ok_iff]
    constructor
    · intro h j hj
      exact ⟨fun q => (h j).1 ((hA j).mpr ⟨hj, q⟩), fun q => (h j).2 ((hB j).mpr ⟨hj, q⟩)⟩
    · intro h j
      exact ⟨fun q => (h j ((hA j).mp q).1).1 ((hA j).mp q).2, fun q => (h j ((hB j).mp q).1).2 ((hB j).mp q).2⟩)
  show (if y_sel a b (Int32.ofNat w) then (wl.getD w 0).toInt else 0) = (if c_ok g n w then f w else 0)
  rw [e, hf w hw]
/-- and 0 where one is -/
theorem y_ws_0 {wl : List Int64} {a b : Int32} {A B n j : Nat} (ha : a.toInt = A) (hb : b.toInt = B) (n10 : n ≤ 10) (jA : A.testBit j = true) (jB : B.testBit j = true) : y_ws wl a b (2 ^ n) = 0 := by
  have pw : 2 ^ n ≤ 2 ^ 10 := Nat.pow_le_pow_right (by decide) n10
  rw [y_ws_S, c_yS_c (g := fun _ => 0) (fun w hw => ?_), c_yS_0]
  have e : y_sel a b (Int32.ofNat w) = false := by
    cases q : y_sel a b (Int32.ofNat w) with
    | false => rfl
    | true =>
      have h := (y_sel_i ha hb (by omega)).mp q j
      have := h.1 jA
      rw [h.2 jB] at this
      cases this
  show (if y_sel a b (Int32.ofNat w) then (wl.getD w 0).toInt else 0) = 0
  rw [e]
  rfl
/-- what is seen but one -/
def n_bu (g : Nat → Int) (but : Int32) (j : Nat) : Int := if (j : Int) = but.toInt then -1 else g j
theorem y_pS_i {sa : List Int32} {but : Int32} {j n : Nat} {g : Nat → Int} (hs : ∀ j, j < n → y_N sa j = g j) (hj : j < n) : y_pS sa but j = true ↔ n_bu g but j = 1 := by
  unfold y_pS n_bu
  rw [Bool.and_eq_true, Bool.not_eq_true', decide_eq_false_iff_not, decide_eq_true_eq, hs j hj]
  by_cases e : (j : Int) = but.toInt
  · rw [if_pos e]
    exact ⟨fun q => absurd e q.1, fun q => absurd q (by decide)⟩
  · rw [if_neg e]
    exact ⟨fun q => q.2, fun q => ⟨e, q⟩⟩
theorem y_pN_i {sa : List Int32} {but : Int32} {j n : Nat} {g : Nat → Int} (hs : ∀ j, j < n → y_N sa j = g j) (hj : j < n) : y_pN sa but j = true ↔ n_bu g but j = 0 := by
  unfold y_pN n_bu
  rw [Bool.and_eq_true, Bool.not_eq_true', decide_eq_false_iff_not, decide_eq_true_eq, hs j hj]
  by_cases e : (j : Int) = but.toInt
  · rw [if_pos e]
    exact ⟨fun q => absurd e q.1, fun q => absurd q (by decide)⟩
  · rw [if_neg e]
    exact ⟨fun q => q.2, fun q => ⟨e, q⟩⟩
theorem y_nw_T {sa : List Int32} {nd but : Int32} {wl : List Int64} {n : Nat} {f g : Nat → Int} {s : Bool} (hn : nd.toInt = n) (n10 : n ≤ 10) (hs : ∀ j, j < n → y_N sa j = g j) (hf : ∀ w, w < 2 ^ n → (wl.getD w 0).toInt = f w) : y_nw sa nd wl (Int32.ofInt (-1)) s but = c_T f n (n_bu g but) := by
  have en : nd.toInt.toNat = n := by omega
  obtain ⟨A, a1, a2, a3⟩ := y_bits_N (p := y_pS sa but) n10
  obtain ⟨B, b1, b2, b3⟩ := y_bits_N (p := y_pN sa but) n10
  unfold y_nw
  have eb : y_bt (Int32.ofInt (-1)) = Int32.ofInt 0 := by decide
  have ew : y_ways nd = 2 ^ n := by unfold y_ways; rw [en]
  rw [eb, en, ew, show cond s (Int32.ofInt 0) (Int32.ofInt 0) = Int32.ofInt 0 by cases s <;> rfl, i_or0, i_or0]
  refine y_ws_T a1 b1 n10 (fun j => ?_) (fun j => ?_) hf
  · rw [a3 j, Bool.and_eq_true, decide_eq_true_eq]
    exact ⟨fun q => ⟨q.1, (y_pS_i hs q.1).mp q.2⟩, fun q => ⟨q.1, (y_pS_i hs q.1).mpr q.2⟩⟩
  · rw [b3 j, Bool.and_eq_true, decide_eq_true_eq]
    exact ⟨fun q => ⟨q.1, (y_pN_i hs q.1).mp q.2⟩, fun q => ⟨q.1, (y_pN_i hs q.1).mpr q.2⟩⟩
theorem y_nw_W {sa : List Int32} {nd node but : Int32} {wl : List Int64} {n k : Nat} {f g : Nat → Int} {s : Bool} (hn : nd.toInt = n) (n10 : n ≤ 10) (hk : node.toInt = k) (kn : k < n) (hs : ∀ j, j < n → y_N sa j = g j) (h1 : g k ≤ 1) (hf : ∀ w, w < 2 ^ n → (wl.getD w 0).toInt = f w) : y_nw sa nd wl node s but = c_TW f n (n_bu g but) k (c_01 s) := by
  have en : nd.toInt.toNat = n := by omega
  obtain ⟨A, a1, a2, a3⟩ := y_bits_N (p := y_pS sa but) n10
  obtain ⟨B, b1, b2, b3⟩ := y_bits_N (p := y_pN sa but) n10
  have a4 : ∀ j, A.testBit j = true ↔ (j < n ∧ n_bu g but j = 1) := fun j => by
    rw [a3 j, Bool.and_eq_true, decide_eq_true_eq]
    exact ⟨fun q => ⟨q.1, (y_pS_i hs q.1).mp q.2⟩, fun q => ⟨q.1, (y_pS_i hs q.1).mpr q.2⟩⟩
  have b4 : ∀ j, B.testBit j = true ↔ (j < n ∧ n_bu g but j = 0) := fun j => by
    rw [b3 j, Bool.and_eq_true, decide_eq_true_eq]
    exact ⟨fun q => ⟨q.1, (y_pN_i hs q.1).mp q.2⟩, fun q => ⟨q.1, (y_pN_i hs q.1).mpr q.2⟩⟩
  have g1 : n_bu g but k ≤ 1 := by
    unfold n_bu
    split
    · decide
    · exact h1
  have p10 : 2 ^ k < 2 ^ 10 := Nat.pow_lt_pow_right (by decide) (by omega)
  have sh := c_shlN hk (by omega)
  have eb : y_bt node = Int32.ofInt 1 <<< (node &&& 31) := if_neg (by omega)
  have ew : y_ways nd = 2 ^ n := by unfold y_ways; rw [en]
  unfold y_nw
  rw [eb, en, ew]
  have ob : ∀ {D j : Nat}, (D ||| 2 ^ k).testBit j = true ↔ (D.testBit j = true ∨ k = j) := fun {D j} => by
    rw [Nat.testBit_or, Nat.testBit_two_pow, Bool.or_eq_true, decide_eq_true_eq]
  cases s with
  | true =>
    rw [show cond true (Int32.ofInt 1 <<< (node &&& 31)) (Int32.ofInt 0) = Int32.ofInt 1 <<< (node &&& 31) from rfl, show cond true (Int32.ofInt 0) (Int32.ofInt 1 <<< (node &&& 31)) = Int32.ofInt 0 from rfl, i_or0]
    obtain ⟨o1, o2⟩ := c_orN a1 sh a2 (by omega)
    by_cases z : 0 ≤ n_bu g but k ∧ n_bu g but k ≠ 1
    · rw [show c_TW f n (n_bu g but) k (c_01 true) = 0 from if_pos z]
      exact y_ws_0 (j := k) o1 b1 n10 (ob.mpr (Or.inr rfl)) ((b4 k).mpr ⟨kn, by omega⟩)
    · rw [show c_TW f n (n_bu g but) k (c_01 true) = c_T f n (c_up (n_bu g but) k 1) from if_neg z]
      refine y_ws_T o1 b1 n10 (fun j => ?_) (fun j => ?_) hf
      · rw [ob, a4 j]
        by_cases e : j = k
        · rw [e, c_upk]
          exact ⟨fun _ => ⟨kn, rfl⟩, fun _ => Or.inr rfl⟩
        · rw [c_upo e]
          exact ⟨fun q => q.resolve_right (fun w => e w.symm), fun q => Or.inl q⟩
      · rw [b4 j]
        by_cases e : j = k
        · rw [e, c_upk]
          exact ⟨fun q => absurd ⟨by omega, by omega⟩ z, fun q => absurd q.2 (by decide)⟩
        · rw [c_upo e]
  | false =>
    rw [show cond false (Int32.ofInt 1 <<< (node &&& 31)) (Int32.ofInt 0) = Int32.ofInt 0 from rfl, show cond false (Int32.ofInt 0) (Int32.ofInt 1 <<< (node &&& 31)) = Int32.ofInt 1 <<< (node &&& 31) from rfl, i_or0]
    obtain ⟨o1, o2⟩ := c_orN b1 sh b2 (by omega)
    by_cases z : 0 ≤ n_bu g but k ∧ n_bu g but k ≠ 0
    · rw [show c_TW f n (n_bu g but) k (c_01 false) = 0 from if_pos z]
      exact y_ws_0 (j := k) a1 o1 n10 ((a4 k).mpr ⟨kn, by omega⟩) (ob.mpr (Or.inr rfl))
    · rw [show c_TW f n (n_bu g but) k (c_01 false) = c_T f n (c_up (n_bu g but) k 0) from if_neg z]
      refine y_ws_T a1 o1 n10 (fun j => ?_) (fun j => ?_) hf
      · rw [a4 j]
        by_cases e : j = k
        · rw [e, c_upk]
          exact ⟨fun q => absurd ⟨by omega, by omega⟩ z, fun q => absurd q.2 (by decide)⟩
        · rw [c_upo e]
      · rw [ob, b4 j]
        by_cases e : j = k
        · rw [e, c_upk]
          exact ⟨fun _ => ⟨kn, rfl⟩, fun _ => Or.inr rfl⟩
        · rw [c_upo e]
          exact ⟨fun q => q.resolve_right (fun w => e w.symm), fun q => Or.inl q⟩
theorem n_bu_n {g : Nat → Int} {j : Nat} : n_bu g (Int32.ofInt (-1)) j = g j := by
  unfold n_bu
  exact if_neg (by rw [show (Int32.ofInt (-1)).toInt = -1 by decide]; omega)
section NRS
variable {X : aX} {C S d : Nat} {K0 : Option Value → aH → Nat → Nat → Prop} {h : aH} {v : Nat → Int32}
/-- the reference's weights, by what is held -/
theorem f_up (hr : w_hr z_D h) (hJ : y_J h) (hm : n_mV h v) (hK : ∀ (wl : List Int64) (H : aH), y_fr h H [] [163] → y_J H → y_wl H wl → (∀ i, i < 2 ^ (v 128).toInt.toNat → (wl.getD i 0).toInt = n_W v i) → K0 none H C S) : aOK s_P X (d + 2) a_m188 0 [some (.ref 155), none] [] h C S K0 := by
  obtain ⟨q1, q2, q3, q4, q5, q6, q7⟩ := id hJ
  obtain ⟨nd, le, de, ta, n1, n2, n3, n4, c1, c2, c3, c4, c5⟩ := id q1
  obtain ⟨nd', wl, w1, w2, w3, w4, w5⟩ := q4
  obtain rfl := y_fi n1 w1
  have g0 : w_f h 19591 = some (.int (v 128)) := hm.1 (128, 19591) (by decide)
  have e0 : nd = v 128 := y_fi n1 g0
  have e1 : le = n_ls v 701000 10 := y_ai n2 hm.2.1.2.2.1
  have e2 : de = n_ls v 702000 10 := y_ai n3 hm.2.1.2.2.2.1
  have e3 : ta = n_ls v 700000 80 := y_ai n4 hm.2.1.2.2.2.2.1
  obtain ⟨fo, o1, o2, o3⟩ := id hm.2.1.2.2.2.2.2.2.1
  obtain ⟨b1, b2⟩ := y_ndb hr n1
  have net : y_net h nd le de ta fo := ⟨n1, n2, n3, n4, o1, c1, c2, c3, c4⟩
  refine y_weighsUp hr net w2 w5 (fun wl' H e hw' hok => ?_)
  have net2 : y_net H nd le de ta fo := y_net_fr2 e rfl rfl net
  have hwl := y_wok_wl net2 e.1 b1 b2 hw' hok
  refine hK wl' H e ⟨j_net_e (y_fe e rfl) (y_ae e rfl) (y_ae e rfl) (y_ae e rfl) q1, j_dp_e (y_fe e rfl) (y_fe e rfl) (y_ae e rfl) q2, j_old_e (y_ae e rfl) (y_ae e rfl) (y_ae e rfl) (y_ae e rfl) (y_ae e rfl) (y_ae e rfl) q3, ⟨nd, wl', (y_fe e rfl).trans n1, hw', hwl.2.1, hwl.2.2, hok.2⟩, j_seen_e (y_fe e rfl) (y_fe e rfl) (y_ae e rfl) (y_ae e rfl) q5, j_kept_e (y_fe e rfl) (y_ae e rfl) (y_ae e rfl) (y_ae e rfl) (y_ae e rfl) q6, j_land_e (y_fe e rfl) (y_ae e rfl) q7⟩ hwl (fun i hi => ?_)
  have hi' : i < y_ways nd := by rw [e0]; exact hi
  have b3 : (v 128).toInt ≤ 10 := by rw [← e0]; exact b2
  rw [hok.1 i hi', e0, e1, e2, e3]
  unfold n_W
  exact y_W_fo (fun u hu => by
    unfold y_N
    rw [n_ls_at (by omega), o3 u (by omega)])
/-- what the reference has seen, by what is held -/
theorem f_sn (hr : w_hr z_D h) (hJ : y_J h) (hm : n_mV h v) : ∃ sa : List Int32, w_a h 160 = some (0, .inl sa) ∧ (∀ j, j < (v 128).toInt.toNat → y_N sa j = n_sg v j) ∧ (∀ j, j < (v 128).toInt.toNat → -1 ≤ n_sg v j ∧ n_sg v j ≤ 1) ∧ (v 128).toInt = (v 128).toInt.toNat ∧ (v 128).toInt.toNat ≤ 10 := by
  have g0 : w_f h 19591 = some (.int (v 128)) := hm.1 (128, 19591) (by decide)
  have b0 := n_bd (lo := 0) (hi := 10) hr g0 rfl
  obtain ⟨sa, u1, u2, u3⟩ := id hm.2.1.2.2.2.2.2.2.2.2.1
  obtain ⟨l, l1, l2, l3⟩ := c_arr hr (ob := 160) (n := 10) rfl
  have el : l = sa := y_ai l1 u1
  have sj : ∀ j, j < (v 128).toInt.toNat → y_N sa j = n_sg v j := fun j hj => congrArg Int32.toInt (u3 j (by omega) (by omega))
  refine ⟨sa, u1, sj, fun j hj => ?_, by omega, by omega⟩
  rw [← sj j hj]
  rw [el] at l2 l3
  exact l3 _ (z_gd (0 : Int32) (by omega))
end NRS
end PT33hf
section PT33hg
/-! ===== v11: chance (laid by wip/tools/mk11c.py) ===== -/
abbrev n_hasV (a nd : Int32) : Prop := 0 ≤ a.toInt ∧ a.toInt < nd.toInt
abbrev n_m2 : Int32 := (Int8.ofInt (-2)).toInt32
noncomputable def n_s33 (us : List Int32) (v : Nat → Int32) : (Nat → Int32) × Int32 := match us with
  | [a] => if n_hasV a (v 128) then (n_up v 143 (Int32.ofInt 1), if n_now v = 0 then n_m2 else Int32.ofInt 0) else (v, Int32.ofInt (-1))
  | _ => (v, 0)
section NCH
variable {X : aX} {C S d : Nat} {K0 : Option Value → aH → Nat → Nat → Prop} {h : aH} {v : Nat → Int32}
theorem c_putChance {G : aH} (hr : w_hr z_D h) (hc : n_cV h v) (q : n_Qs v h G) {a : Int32} {k : Nat} (hk : a.toInt = k) (kn : k < (v 128).toInt.toNat) (yes : n_now v ≠ 0 → ∀ H, n_Qs v h H → K0 (some (.int (Int32.ofInt 1))) H C S) (no : n_now v = 0 → ∀ H, n_Qs v h H → K0 (some (.int (Int32.ofInt 0))) H C S) : aOK s_P X (d + 4) a_m34 0 [some (.ref 3), some (.int a), some (.ref 153), none] [] G C S K0 := by
  have T24 : ∀ {G : aH} {w : Int32}, n_now v ≠ 0 → n_Qs v h G → aOK s_P X (d + 4) a_m34 24 [some (.ref 3), some (.int a), some (.ref 153), some (.int w)] [] G C S K0 := by
    intro G w nz q
    refine w_go z_hl [] [] 20 q.1 ?_
    exact ⟨by decide, fun H hH => yes nz H (n_Qs_y q (y_st (y_rf q.1) hH (by repeat (first | exact w_nil | refine w_cons (Or.inl (y_m rfl)) ?_ | refine w_cons (Or.inr (by assumption)) ?_)) (by repeat (first | exact w_nil | refine w_cons (Or.inl (y_m rfl)) ?_ | refine w_cons (Or.inr (by assumption)) ?_))))⟩
  have T18 : ∀ {G : aH} {w r : Int32}, n_now v ≠ 0 → n_Qs v h G → aOK s_P X (d + 4) a_m34 18 [some (.ref 3), some (.int a), some (.ref 153), some (.int w)] [.int r, .ref 153] G C S K0 := by
    intro G w r nz q
    refine w_go z_hl [] [39] 30 q.1 ?_
    intro H hH
    refine c_put1 (d := d + 2) (n_Qs_y q (y_st (y_rf q.1) hH (by repeat (first | exact w_nil | refine w_cons (Or.inl (y_m rfl)) ?_ | refine w_cons (Or.inr (by assumption)) ?_)) (by repeat (first | exact w_nil | refine w_cons (Or.inl (y_m rfl)) ?_ | refine w_cons (Or.inr (by assumption)) ?_)))) (fun H3 q3 => ⟨fun n e => (by cases e), ?_⟩)
    exact T24 nz q3
  have T11 : ∀ {G : aH} {w : Int32}, n_now v ≠ 0 → n_Qs v h G → aOK s_P X (d + 4) a_m34 11 [some (.ref 3), some (.int a), some (.ref 153), some (.int w)] [] G C S K0 := by
    intro G w nz q
    refine w_go z_hl [] [37] 30 q.1 ?_
    intro H hH
    refine c_weighNowWith (d := d) (s := true) hr hc (n_Qs_y q (y_st (y_rf q.1) hH (by repeat (first | exact w_nil | refine w_cons (Or.inl (y_m rfl)) ?_ | refine w_cons (Or.inr (by assumption)) ?_)) (by repeat (first | exact w_nil | refine w_cons (Or.inl (y_m rfl)) ?_ | refine w_cons (Or.inr (by assumption)) ?_)))) hk kn (fun H3 r q3 _ => ⟨fun n e => (by cases e), ?_⟩)
    exact T18 nz q3
  have T4 : ∀ {G : aH} {w : Int32}, w.toInt = n_now v → n_Qs v h G → aOK s_P X (d + 4) a_m34 4 [some (.ref 3), some (.int a), some (.ref 153), none] [.int w] G C S K0 := by
    intro G w hw q
    refine w_go z_hl [11] [] 30 q.1 ?_
    refine ⟨fun z => fun H hH => ?_, fun z => ⟨by decide, fun H hH => ?_⟩⟩
    · have z1 : w.toInt ≠ (0 : Int32).toInt := (y_ci .ne _ _).mp z
      have z2 : w.toInt ≠ 0 := z1
      exact T11 (by omega) (n_Qs_y q (y_st (y_rf q.1) hH (by repeat (first | exact w_nil | refine w_cons (Or.inl (y_m rfl)) ?_ | refine w_cons (Or.inr (by assumption)) ?_)) (by repeat (first | exact w_nil | refine w_cons (Or.inl (y_m rfl)) ?_ | refine w_cons (Or.inr (by assumption)) ?_))))
    · have z1 : ¬ (w.toInt ≠ (0 : Int32).toInt) := y_cif z
      have z2 : w.toInt = 0 := Decidable.not_not.mp z1
      exact no (by omega) H (n_Qs_y q (y_st (y_rf q.1) hH (by repeat (first | exact w_nil | refine w_cons (Or.inl (y_m rfl)) ?_ | refine w_cons (Or.inr (by assumption)) ?_)) (by repeat (first | exact w_nil | refine w_cons (Or.inl (y_m rfl)) ?_ | refine w_cons (Or.inr (by assumption)) ?_))))
  refine w_go z_hl [] [35] 30 q.1 ?_
  intro H hH
  refine c_wNow (d := d + 1) hr hc (n_Qs_y q (y_st (y_rf q.1) hH (by repeat (first | exact w_nil | refine w_cons (Or.inl (y_m rfl)) ?_ | refine w_cons (Or.inr (by assumption)) ?_)) (by repeat (first | exact w_nil | refine w_cons (Or.inl (y_m rfl)) ?_ | refine w_cons (Or.inr (by assumption)) ?_)))) (fun H3 r q3 hr3 => ⟨fun n e => (by cases e), ?_⟩)
  exact T4 hr3 q3
theorem c_chance (hr : w_hr z_D h) (hJ : y_JA h) (hc : n_cV h v) (hW : n_Wv v h) {a : Int32} (yes : n_hasV a (v 128) → ∀ H, n_Qs v h H → K0 (some (.int (if n_now v = 0 then n_m2 else Int32.ofInt 0))) H C S) (no : ¬ n_hasV a (v 128) → ∀ H, y_fr h H [] [] → K0 (some (.int (Int32.ofInt (-1)))) H C S) : aOK s_P X (d + 5) a_m33 0 [some (.ref 2), some (.int a)] [] h C S K0 := by
  have g0 := hc.1 128 (by decide)
  have T49 : ∀ {G : aH}, n_hasV a (v 128) → n_now v ≠ 0 → n_Qs v h G → aOK s_P X (d + 5) a_m33 49 [some (.ref 2), some (.int a)] [] G C S K0 := by
    intro G hv nz q
    refine w_go z_hl [] [] 20 q.1 ?_
    intro H hH
    have := yes hv H (n_Qs_y q (y_st (y_rf q.1) hH (by repeat (first | exact w_nil | refine w_cons (Or.inl (y_m rfl)) ?_ | refine w_cons (Or.inr (by assumption)) ?_)) (by repeat (first | exact w_nil | refine w_cons (Or.inl (y_m rfl)) ?_ | refine w_cons (Or.inr (by assumption)) ?_))))
    rw [if_neg nz] at this
    exact this
  have T32 : ∀ {G : aH}, n_hasV a (v 128) → n_now v ≠ 0 → n_Qs v h G → aOK s_P X (d + 5) a_m33 32 [some (.ref 2), some (.int a)] [.int (Int32.ofInt 1)] G C S K0 := by
    intro G hv nz q
    refine w_go z_hl [] [42] 30 q.1 ?_
    refine ⟨fun _ => fun H hH => ?_, fun z => absurd z (by decide)⟩
    refine c_tell1 (d := d + 2) (n_Qs_y q (y_st (y_rf q.1) hH (by repeat (first | exact w_nil | refine w_cons (Or.inl (y_m rfl)) ?_ | refine w_cons (Or.inr (by assumption)) ?_)) (by repeat (first | exact w_nil | refine w_cons (Or.inl (y_m rfl)) ?_ | refine w_cons (Or.inr (by assumption)) ?_)))) (fun H3 q3 => ⟨fun n e => (by cases e), ?_⟩)
    exact T49 hv nz q3
  have T32n : ∀ {G : aH}, n_hasV a (v 128) → n_now v = 0 → n_Qs v h G → aOK s_P X (d + 5) a_m33 32 [some (.ref 2), some (.int a)] [.int (Int32.ofInt 0)] G C S K0 := by
    intro G hv nz q
    refine w_go z_hl [] [42] 30 q.1 ?_
    refine ⟨fun z => absurd z (by decide), fun _ => fun H hH => ?_⟩
    have := yes hv H (n_Qs_y q (y_st (y_rf q.1) hH (by repeat (first | exact w_nil | refine w_cons (Or.inl (y_m rfl)) ?_ | refine w_cons (Or.inr (by assumption)) ?_)) (by repeat (first | exact w_nil | refine w_cons (Or.inl (y_m rfl)) ?_ | refine w_cons (Or.inr (by assumption)) ?_))))
    rw [if_pos nz] at this
    exact this
  have T20 : ∀ {G : aH}, n_hasV a (v 128) → n_Qs v h G → aOK s_P X (d + 5) a_m33 20 [some (.ref 2), some (.int a)] [] G C S K0 := by
    intro G hv q
    obtain ⟨v1, v2⟩ := id hv
    refine w_go z_hl [] [34] 30 q.1 ?_
    intro H hH
    refine c_putChance (d := d) (k := a.toInt.toNat) hr hc (n_Qs_y q (y_st (y_rf q.1) hH (by repeat (first | exact w_nil | refine w_cons (Or.inl (y_m rfl)) ?_ | refine w_cons (Or.inr (by assumption)) ?_)) (by repeat (first | exact w_nil | refine w_cons (Or.inl (y_m rfl)) ?_ | refine w_cons (Or.inr (by assumption)) ?_)))) (by omega) (by omega) (fun nz H3 q3 => ⟨fun n e => (by cases e), ?_⟩) (fun nz H3 q3 => ⟨fun n e => (by cases e), ?_⟩)
    · exact T32 hv nz q3
    · exact T32n hv nz q3
  have T8 : ∀ {G : aH}, n_hasV a (v 128) → y_fr h G [] [] → aOK s_P X (d + 5) a_m33 8 [some (.ref 2), some (.int a)] [.int (y_01 true)] G C S K0 := by
    intro G hv e
    refine w_go z_hl [] [29] 30 e.1 ?_
    refine ⟨fun _ => fun H hH => ?_, fun z => absurd z (by decide)⟩
    have e2 : y_fr h H [] [] := y_st e hH (by repeat (first | exact w_nil | refine w_cons (Or.inl (y_m rfl)) ?_ | refine w_cons (Or.inr (by assumption)) ?_)) (by repeat (first | exact w_nil | refine w_cons (Or.inl (y_m rfl)) ?_ | refine w_cons (Or.inr (by assumption)) ?_))
    refine c_refreshQ (d := d + 2) (v := v) e2.1 (y_jfr y_JA_x e2 rfl rfl hJ) (n_Wv_p h H (fun k _ => e2.2.1 k List.not_mem_nil) (fun o _ => e2.2.2 o List.not_mem_nil) hW) (fun H3 q3 => ⟨fun n e => (by cases e), ?_⟩)
    exact T20 hv (n_Qs_l hr e2 q3)
  have T8n : ∀ {G : aH}, ¬ n_hasV a (v 128) → y_fr h G [] [] → aOK s_P X (d + 5) a_m33 8 [some (.ref 2), some (.int a)] [.int (y_01 false)] G C S K0 := by
    intro G hv e
    refine w_go z_hl [] [29] 30 e.1 ?_
    exact ⟨fun z => absurd z (by decide), fun _ => fun H hH => no hv H (y_st e hH (by repeat (first | exact w_nil | refine w_cons (Or.inl (y_m rfl)) ?_ | refine w_cons (Or.inr (by assumption)) ?_)) (by repeat (first | exact w_nil | refine w_cons (Or.inl (y_m rfl)) ?_ | refine w_cons (Or.inr (by assumption)) ?_)))⟩
  refine w_go z_hl [] [19] 30 hr ?_
  intro H hH
  have e : y_fr h H [] [] := y_st (y_rf hr) hH (by repeat (first | exact w_nil | refine w_cons (Or.inl (y_m rfl)) ?_ | refine w_cons (Or.inr (by assumption)) ?_)) (by repeat (first | exact w_nil | refine w_cons (Or.inl (y_m rfl)) ?_ | refine w_cons (Or.inr (by assumption)) ?_))
  refine c_hasN (v := a) e.1 ((y_fe e rfl).trans g0) (fun v1 v2 H2 h2 => ⟨fun n e => (by cases e), ?_⟩) (fun nv H2 h2 => ⟨fun n e => (by cases e), ?_⟩)
  · exact T8 ⟨v1, v2⟩ (y_sq e h2 rfl rfl)
  · exact T8n nv (y_sq e h2 rfl rfl)
theorem f_chance_tail {h : aH} {nd node : Int32} {sa : List Int32} {wl : List Int64} (hr : w_hr z_D h) (g1 : w_f h 19591 = some (.int nd)) (g2 : w_a h 160 = some (0, .inl sa)) (hw : y_wl h wl) (hk : ∀ (r : Int32) (H : aH), y_fr h H [19585, 19587, 19588] [154] → r = (if y_nw sa nd wl (Int32.ofInt (-1)) true (Int32.ofInt (-1)) = 0 then n_m2 else Int32.ofInt 0) → K0 (some (.int r)) H C S) : aOK s_P X (d + 4) a_m187 19 [some (.ref 155), some (.int node)] [] h C S K0 := by
  obtain ⟨b1, b2⟩ := y_ndb hr g1
  have T55 : ∀ {G : aH}, y_fr h G [19585, 19587, 19588] [154] → y_nw sa nd wl (Int32.ofInt (-1)) true (Int32.ofInt (-1)) ≠ 0 → aOK s_P X (d + 4) a_m187 55 [some (.ref 155), some (.int node)] [] G C S K0 := by
    intro G e hne
    refine w_go z_hl [] [] 30 e.1 ?_
    intro H hH
    exact hk _ H (y_st e hH (by repeat (first | exact w_nil | refine w_cons (Or.inl (y_m rfl)) ?_ | refine w_cons (Or.inr (by assumption)) ?_)) (by repeat (first | exact w_nil | refine w_cons (Or.inl (y_m rfl)) ?_ | refine w_cons (Or.inr (by assumption)) ?_))) (if_neg hne).symm
  have T46 : ∀ {G : aH}, y_fr h G [19585, 19587, 19588] [154] → y_nw sa nd wl (Int32.ofInt (-1)) true (Int32.ofInt (-1)) ≠ 0 → aOK s_P X (d + 4) a_m187 46 [some (.ref 155), some (.int node)] [] G C S K0 := by
    intro G e hne
    refine w_go z_hl [] [196] 30 e.1 ?_
    refine ⟨rfl, y_zini (by decide) (by decide), fun H hH => ?_⟩
    have e2 := y_st e hH (by repeat (first | exact w_nil | refine w_cons (Or.inl (y_m rfl)) ?_ | refine w_cons (Or.inr (by assumption)) ?_)) (by repeat (first | exact w_nil | refine w_cons (Or.inl (y_m rfl)) ?_ | refine w_cons (Or.inr (by assumption)) ?_))
    refine y_tells e2.1 (hH.2.1 19585 _ rfl) (by decide) (by decide) (fun H2 r2 e3 _ _ => ⟨fun n e => (by cases e), ?_⟩)
    exact T55 (y_sq e2 e3 rfl rfl) hne
  have T43 : ∀ {G : aH} {a b : Int64}, y_fr h G [] [] → 0 ≤ a.toInt → 1 ≤ b.toInt → y_nw sa nd wl (Int32.ofInt (-1)) true (Int32.ofInt (-1)) ≠ 0 → aOK s_P X (d + 4) a_m187 43 [some (.ref 155), some (.int node)] [.long b, .long a, .ref 155] G C S K0 := by
    intro G a b e ha hb hne
    refine w_go z_hl [] [194] 30 e.1 ?_
    intro H hH
    have e2 := y_st e hH (by repeat (first | exact w_nil | refine w_cons (Or.inl (y_m rfl)) ?_ | refine w_cons (Or.inr (by assumption)) ?_)) (by repeat (first | exact w_nil | refine w_cons (Or.inl (y_m rfl)) ?_ | refine w_cons (Or.inr (by assumption)) ?_))
    refine q_lowest e2.1 (by omega) hb (fun u l H2 e3 _ _ _ _ _ _ _ => ⟨fun n e => (by cases e), ?_⟩)
    exact T46 (y_sq (y_mo e2 rfl rfl) e3 rfl rfl) hne
  have T39 : ∀ {G : aH} {a : Int64}, y_fr h G [] [] → 0 ≤ a.toInt → y_nw sa nd wl (Int32.ofInt (-1)) true (Int32.ofInt (-1)) ≠ 0 → aOK s_P X (d + 4) a_m187 39 [some (.ref 155), some (.int node)] [.long a, .ref 155] G C S K0 := by
    intro G a e ha hne
    refine w_go z_hl [] [189] 30 e.1 ?_
    intro H hH
    have e2 := y_st e hH (by repeat (first | exact w_nil | refine w_cons (Or.inl (y_m rfl)) ?_ | refine w_cons (Or.inr (by assumption)) ?_)) (by repeat (first | exact w_nil | refine w_cons (Or.inl (y_m rfl)) ?_ | refine w_cons (Or.inr (by assumption)) ?_))
    refine y_now e2.1 ((y_fe e2 rfl).trans g1) ((y_ae e2 rfl).trans g2) (y_wl_fr e2 (fun q => by cases q) hw) (fun r H2 e3 hr3 => ⟨fun n e => (by cases e), ?_⟩)
    have := y_nw_b (sa := sa) (node := Int32.ofInt (-1)) (so := true) (but := Int32.ofInt (-1)) hw b1 b2
    exact T43 (y_sq e2 e3 rfl rfl) ha (by omega) hne
  have T31 : ∀ {G : aH}, y_fr h G [] [] → y_nw sa nd wl (Int32.ofInt (-1)) true (Int32.ofInt (-1)) ≠ 0 → aOK s_P X (d + 4) a_m187 31 [some (.ref 155), some (.int node)] [] G C S K0 := by
    intro G e hne
    refine w_go z_hl [] [190] 30 e.1 ?_
    intro H hH
    have e2 := y_st e hH (by repeat (first | exact w_nil | refine w_cons (Or.inl (y_m rfl)) ?_ | refine w_cons (Or.inr (by assumption)) ?_)) (by repeat (first | exact w_nil | refine w_cons (Or.inl (y_m rfl)) ?_ | refine w_cons (Or.inr (by assumption)) ?_))
    refine y_nowWith (b := true) e2.1 ((y_fe e2 rfl).trans g1) ((y_ae e2 rfl).trans g2) (y_wl_fr e2 (fun q => by cases q) hw) (fun r H2 e3 hr3 => ⟨fun n e => (by cases e), ?_⟩)
    have := y_nw_b (sa := sa) (node := node) (so := true) (but := Int32.ofInt (-1)) hw b1 b2
    exact T39 (y_sq e2 e3 rfl rfl) (by omega) hne
  have T23 : ∀ {G : aH} {r : Int64}, y_fr h G [] [] → r.toInt = y_nw sa nd wl (Int32.ofInt (-1)) true (Int32.ofInt (-1)) → aOK s_P X (d + 4) a_m187 23 [some (.ref 155), some (.int node)] [.long r] G C S K0 := by
    intro G r e hr3
    refine w_go z_hl [31] [] 30 e.1 ?_
    refine ⟨fun q => ?_, fun q => ?_⟩
    · have q2 : r.toInt ≠ (Int64.ofNat 0).toInt := (y_cl .ne _ _).mp q
      intro H hH
      exact T31 (y_st e hH (by repeat (first | exact w_nil | refine w_cons (Or.inl (y_m rfl)) ?_ | refine w_cons (Or.inr (by assumption)) ?_)) (by repeat (first | exact w_nil | refine w_cons (Or.inl (y_m rfl)) ?_ | refine w_cons (Or.inr (by assumption)) ?_))) (fun e0 => q2 (by rw [hr3, e0]; decide))
    · have q2 : ¬ (r.toInt ≠ (Int64.ofNat 0).toInt) := y_clf q
      have q3 : r.toInt = 0 := Decidable.not_not.mp q2
      intro H hH
      exact hk _ H (y_st (y_mo e rfl rfl) hH (by repeat (first | exact w_nil | refine w_cons (Or.inl (y_m rfl)) ?_ | refine w_cons (Or.inr (by assumption)) ?_)) (by repeat (first | exact w_nil | refine w_cons (Or.inl (y_m rfl)) ?_ | refine w_cons (Or.inr (by assumption)) ?_))) (if_pos (by omega)).symm
  refine w_go z_hl [] [189] 30 hr ?_
  intro H hH
  have e2 : y_fr h H [] [] := y_st (y_rf hr) hH (by repeat (first | exact w_nil | refine w_cons (Or.inl (y_m rfl)) ?_ | refine w_cons (Or.inr (by assumption)) ?_)) (by repeat (first | exact w_nil | refine w_cons (Or.inl (y_m rfl)) ?_ | refine w_cons (Or.inr (by assumption)) ?_))
  refine y_now e2.1 ((y_fe e2 rfl).trans g1) ((y_ae e2 rfl).trans g2) (y_wl_fr e2 (fun q => by cases q) hw) (fun r H2 e3 hr3 => ⟨fun n e => (by cases e), ?_⟩)
  exact T23 (y_sq e2 e3 rfl rfl) hr3
theorem f_chance (hr : w_hr z_D h) (hJ : y_J h) (hm : n_mV h v) {node : Int32} (yes : n_hasV node (v 128) → ∀ (H : aH), y_fr h H [19584, 19585, 19587, 19588] [154, 163] → y_J H → K0 (some (.int (if n_now v = 0 then n_m2 else Int32.ofInt 0))) H C S) (no : ¬ n_hasV node (v 128) → ∀ (H : aH), y_fr h H [19584] [] → K0 (some (.int (Int32.ofInt (-1)))) H C S) : aOK s_P X (d + 4) a_m187 0 [some (.ref 155), some (.int node)] [] h C S K0 := by
  have g0 : w_f h 19591 = some (.int (v 128)) := hm.1 (128, 19591) (by decide)
  obtain ⟨sa, s4, s5, s6, n1, n10⟩ := f_sn hr hJ hm
  have T10 : ∀ {G : aH}, n_hasV node (v 128) → y_fr h G [19584] [] → aOK s_P X (d + 4) a_m187 10 [some (.ref 155), some (.int node)] [.int (y_01 true)] G C S K0 := by
    intro G hv e
    refine w_go z_hl [] [188] 30 e.1 ?_
    refine ⟨fun _ => ?_, fun z => absurd z (by decide)⟩
    intro H hH
    have e2 := y_st e hH (by repeat (first | exact w_nil | refine w_cons (Or.inl (y_m rfl)) ?_ | refine w_cons (Or.inr (by assumption)) ?_)) (by repeat (first | exact w_nil | refine w_cons (Or.inl (y_m rfl)) ?_ | refine w_cons (Or.inr (by assumption)) ?_))
    have J2 := y_J_fr e2 rfl rfl hJ
    refine f_up e2.1 J2 (n_mS_V (n_fk_m e2 rfl) hm) (fun wl H2 e3 J3 hw hf => ⟨fun n e => (by cases e), ?_⟩)
    have e4 : y_fr h H2 [19584] [163] := y_sq (y_mo e2 rfl rfl) e3 rfl rfl
    refine f_chance_tail e4.1 ((y_fe e4 rfl).trans g0) ((y_ae e4 rfl).trans s4) hw (fun r H5 e5 er => ?_)
    have en : y_nw sa (v 128) wl (Int32.ofInt (-1)) true (Int32.ofInt (-1)) = n_now v := by
      rw [y_nw_T n1 n10 s5 hf]
      exact c_T_c (fun _ _ => rfl) (fun j _ => n_bu_n)
    rw [er, en]
    exact yes hv H5 (y_sq (y_mo e4 rfl rfl) e5 rfl rfl) (y_J_fr e5 rfl rfl J3)
  have T10n : ∀ {G : aH}, ¬ n_hasV node (v 128) → y_fr h G [19584] [] → aOK s_P X (d + 4) a_m187 10 [some (.ref 155), some (.int node)] [.int (y_01 false)] G C S K0 := by
    intro G hv e
    refine w_go z_hl [] [188] 30 e.1 ?_
    exact ⟨fun z => absurd z (by decide), fun _ => fun H hH => no hv H (y_st e hH (by repeat (first | exact w_nil | refine w_cons (Or.inl (y_m rfl)) ?_ | refine w_cons (Or.inr (by assumption)) ?_)) (by repeat (first | exact w_nil | refine w_cons (Or.inl (y_m rfl)) ?_ | refine w_cons (Or.inr (by assumption)) ?_)))⟩
  refine w_go z_hl [] [178] 30 hr ?_
  refine ⟨rfl, y_zini (by decide) (by decide), fun H1 h1 => ?_⟩
  have e1 : y_fr h H1 [19584] [] := y_st (y_mo (y_rf hr) rfl rfl) h1 (by repeat (first | exact w_nil | refine w_cons (Or.inl (y_m rfl)) ?_ | refine w_cons (Or.inr (by assumption)) ?_)) (by repeat (first | exact w_nil | refine w_cons (Or.inl (y_m rfl)) ?_ | refine w_cons (Or.inr (by assumption)) ?_))
  refine q_isNode2 (v := node) e1.1 ((y_fe e1 rfl).trans g0) (fun H2 vv h2 hv hv2 hvc => ⟨fun n e => (by cases e), ?_⟩) (fun H2 h2 nn => ⟨fun n e => (by cases e), ?_⟩)
  · exact T10 ⟨by omega, by omega⟩ (y_sq e1 h2 rfl rfl)
  · exact T10n nn (y_sq e1 h2 rfl rfl)
end NCH
theorem n_c33 {X : aX} : n_pc X a_m33 1 false n_s33 := by
  intro us h v C S K0 hl _ hI hc hm hk
  match us, hl with
  | [a], _ =>
    refine c_chance (d := 195) hI.1 hI.2.1 hc (n_toW hI.1 hI.2.1.1 hc hm) (fun q H e => ?_) (fun q H e => ?_)
    · rw [show n_s33 [a] v = (n_up v 143 (Int32.ofInt 1), if n_now v = 0 then n_m2 else Int32.ofInt 0) from if_pos q] at hk
      dsimp only at hk
      obtain ⟨r1, r2, r3⟩ := n_Qs_pc hI hc hm e
      exact hk H r1 r2 r3
    · rw [show n_s33 [a] v = (v, Int32.ofInt (-1)) from if_neg q] at hk
      dsimp only at hk
      exact hk H ⟨e.1, y_jfr y_JA_x e rfl rfl hI.2.1, t_day_frc e rfl hI.2.2⟩ (n_cS_V (n_fk_c (ex := []) e rfl) hc) (n_mS_V (n_fm_ok e rfl) hm)
theorem n_r187 {X : aX} : n_pr X a_m187 1 false n_s33 := by
  intro us h w v C S K0 hl _ hI hc hm hk
  match us, hl with
  | [a], _ =>
    refine f_chance (d := 196) hI.1 hI.2.1.1 hm (fun q H e qJ => ?_) (fun q H e => ?_)
    · rw [show n_s33 [a] v = (n_up v 143 (Int32.ofInt 1), if n_now v = 0 then n_m2 else Int32.ofInt 0) from if_pos q] at hk
      dsimp only at hk
      exact hk H ⟨e.1, ⟨qJ, j_say_e e rfl rfl hI.2.1.2.1, j_cost_e e rfl rfl hI.2.1.2.2⟩, t_day_fr e rfl hI.2.2⟩ (n_cS_V (n_fk_c (ex := []) e rfl) hc) (n_mV_3 (n_mS_V (n_fk_m e rfl) hm))
    · rw [show n_s33 [a] v = (v, Int32.ofInt (-1)) from if_neg q] at hk
      dsimp only at hk
      exact hk H ⟨e.1, ⟨y_J_fr e rfl rfl hI.2.1.1, j_say_e e rfl rfl hI.2.1.2.1, j_cost_e e rfl rfl hI.2.1.2.2⟩, t_day_fr e rfl hI.2.2⟩ (n_cS_V (n_fk_c (ex := []) e rfl) hc) (n_mS_V (n_fk_m e rfl) hm)
end PT33hg
section PT33hh
/-! ===== v11: what calls ask of both (laid by wip/tools/mk11d.py) ===== -/
section NAS
variable {X : aX} {C S d : Nat} {K0 : Option Value → aH → Nat → Nat → Prop} {h G : aH} {v : Nat → Int32}
abbrev n_isV (v : Nat → Int32) (a : Int32) : Prop := n_hasV a (v 128) ∧ 0 ≤ n_sg v a.toInt.toNat
theorem c_isSn (hr : w_hr z_D h) (hc : n_cV h v) (e : y_fr h G [] []) {a : Int32} (yes : n_isV v a → ∀ H, y_fr h H [] [] → K0 (some (.int (y_01 true))) H C S) (no : ¬ n_isV v a → ∀ H, y_fr h H [] [] → K0 (some (.int (y_01 false))) H C S) : aOK s_P X (d + 1) a_m50 0 [some (.ref 3), some (.int a)] [] G C S K0 := by
  have g0 := hc.1 128 (by decide)
  have b0 := n_bd (lo := 0) (hi := 10) hr g0 rfl
  have g1 := hc.1 138 (by decide)
  obtain ⟨⟨p1, p2⟩, -, p3⟩ := id hc.2.2.2.2.2.2.2.2.2.2.2.2.1
  have pw : 2 ^ (v 128).toInt.toNat ≤ 2 ^ 10 := n_p2 (by omega)
  have T5 : ∀ {G : aH}, n_hasV a (v 128) → y_fr h G [] [] → aOK s_P X (d + 1) a_m50 5 [some (.ref 3), some (.int a)] [.int (y_01 true)] G C S K0 := by
    intro G hv e
    obtain ⟨v1, v2⟩ := id hv
    have m1 := c_b01 (bits := v 138) (k := a) (b := (v 138).toInt.toNat) (o := a.toInt.toNat) (by omega) (by omega) (by omega) (by omega)
    rw [(p3 a.toInt.toNat (by omega)).1] at m1
    refine w_go z_hl [] [] 40 e.1 ?_
    refine ⟨fun z => absurd z (by decide), fun _ => ?_⟩
    intro x hx _ _
    obtain rfl := y_fi ((y_fe e rfl).trans g1) hx
    refine ⟨fun z => ⟨by decide, fun H hH => ?_⟩, fun z => ⟨by decide, fun H hH => ?_⟩⟩
    · have z1 : ((v 138 >>> (a &&& 31)) &&& Int32.ofInt 1).toInt = (0 : Int32).toInt := (y_ci .eq _ _).mp z
      have z2 : ((v 138 >>> (a &&& 31)) &&& Int32.ofInt 1).toInt = 0 := z1
      refine no (fun w => ?_) H (y_st e hH (by repeat (first | exact w_nil | refine w_cons (Or.inl (y_m rfl)) ?_ | refine w_cons (Or.inr (by assumption)) ?_)) (by repeat (first | exact w_nil | refine w_cons (Or.inl (y_m rfl)) ?_ | refine w_cons (Or.inr (by assumption)) ?_)))
      rw [decide_eq_true (show 0 ≤ (v (705000 + a.toInt.toNat)).toInt from w.2), if_pos rfl] at m1
      omega
    · have z1 : ¬ (((v 138 >>> (a &&& 31)) &&& Int32.ofInt 1).toInt = (0 : Int32).toInt) := y_cif z
      refine yes ⟨hv, ?_⟩ H (y_st e hH (by repeat (first | exact w_nil | refine w_cons (Or.inl (y_m rfl)) ?_ | refine w_cons (Or.inr (by assumption)) ?_)) (by repeat (first | exact w_nil | refine w_cons (Or.inl (y_m rfl)) ?_ | refine w_cons (Or.inr (by assumption)) ?_)))
      by_cases w : 0 ≤ (v (705000 + a.toInt.toNat)).toInt
      · exact w
      · rw [decide_eq_false w, if_neg (by decide)] at m1
        exact absurd (show _ = (0 : Int32).toInt from m1) z1
  have T5n : ∀ {G : aH}, ¬ n_hasV a (v 128) → y_fr h G [] [] → aOK s_P X (d + 1) a_m50 5 [some (.ref 3), some (.int a)] [.int (y_01 false)] G C S K0 := by
    intro G hv e
    refine w_go z_hl [] [] 40 e.1 ?_
    exact ⟨fun _ => ⟨by decide, fun H hH => no (fun w => hv w.1) H (y_st e hH (by repeat (first | exact w_nil | refine w_cons (Or.inl (y_m rfl)) ?_ | refine w_cons (Or.inr (by assumption)) ?_)) (by repeat (first | exact w_nil | refine w_cons (Or.inl (y_m rfl)) ?_ | refine w_cons (Or.inr (by assumption)) ?_)))⟩, fun z => absurd z (by decide)⟩
  refine w_go z_hl [] [19] 30 e.1 ?_
  intro H hH
  have e1 : y_fr h H [] [] := y_st e hH (by repeat (first | exact w_nil | refine w_cons (Or.inl (y_m rfl)) ?_ | refine w_cons (Or.inr (by assumption)) ?_)) (by repeat (first | exact w_nil | refine w_cons (Or.inl (y_m rfl)) ?_ | refine w_cons (Or.inr (by assumption)) ?_))
  refine c_hasN (v := a) e1.1 ((y_fe e1 rfl).trans g0) (fun v1 v2 H2 h2 => ⟨fun n e => (by cases e), ?_⟩) (fun nv H2 h2 => ⟨fun n e => (by cases e), ?_⟩)
  · exact T5 ⟨v1, v2⟩ (y_sq e1 h2 rfl rfl)
  · exact T5n nv (y_sq e1 h2 rfl rfl)
/-- the second fraction -/
theorem c_put2 (q : n_Qs v h G) {a b : Int64} (hK : ∀ H, n_Qs v h H → K0 none H C S) : aOK s_P X (d + 1) a_m39 0 [some (.ref 154), some (.long a), none, some (.long b), none, none, none] [] G C S K0 := by
  have b1 := a.toInt_lt
  have b2 := a.le_toInt
  have b3 := b.toInt_lt
  have b4 := b.le_toInt
  exact n_boxv [.long a, .long b] (z_x24_s (y_jx_l y_JA_x)) rfl rfl rfl q.1 q.2.1 (n_Bl (by omega) (by omega) (n_Bl (by omega) (by omega) n_B0)) (fun q hq => by cases hq) (by decide) rfl (by decide +kernel) (fun H' r1 r2 r3 => hK H' (n_Qs_z q r1 r2 r3 (by decide) (by decide)))
theorem c_tellToo2 (q : n_Qs v h G) (hK : ∀ H, n_Qs v h H → K0 none H C S) : aOK s_P X (d + 1) a_m44 0 [some (.ref 12), some (.ref 154)] [] G C S K0 := n_boxv [] (z_x25_s (y_jx_l y_JA_x)) rfl rfl rfl q.1 q.2.1 n_B0 (fun q hq => by cases hq) (by decide) rfl (by decide +kernel) (fun H' r1 r2 r3 => hK H' (n_Qs_z q r1 r2 r3 (by decide) (by decide)))
/-- what the reference weighs by -/
def f_wc (h : aH) (v : Nat → Int32) (sa : List Int32) (wl : List Int64) : Prop := y_wc h (v 128) sa wl ∧ (∀ j, j < (v 128).toInt.toNat → y_N sa j = n_sg v j) ∧ (∀ j, j < (v 128).toInt.toNat → -1 ≤ n_sg v j ∧ n_sg v j ≤ 1) ∧ (∀ i, i < 2 ^ (v 128).toInt.toNat → (wl.getD i 0).toInt = n_W v i) ∧ (v 128).toInt = (v 128).toInt.toNat ∧ (v 128).toInt.toNat ≤ 10
theorem f_wc_fr {H : aH} {sa : List Int32} {wl : List Int64} {fs as : List Nat} (s : f_wc h v sa wl) (e : y_fr h H fs as) (h1 : fs.elem 19591 = false) (h2 : as.elem 160 = false) (h3 : as.elem 163 = false) : f_wc H v sa wl := ⟨y_wc_fr s.1 e h1 h2 h3, s.2⟩
variable {sa : List Int32} {wl : List Int64}
theorem f_wc_0 (s : f_wc h v sa wl) : ∀ i, i < 2 ^ (v 128).toInt.toNat → 0 ≤ n_W v i := fun i hi => by
  rw [← s.2.2.2.1 i hi]
  exact y_getD s.1.2.2.2.2.1 i
theorem r_now (s : f_wc h v sa wl) (hK : ∀ (r : Int64) (H : aH), y_fr h H [] [] → 0 ≤ r.toInt → r.toInt ≤ 100000000 → r.toInt = n_now v → K0 (some (.long r)) H C S) : aOK s_P X (d + 3) a_m189 0 [some (.ref 155)] [] h C S K0 := by
  obtain ⟨s1, s2, s3, s4, s5, s6⟩ := s
  refine y_now s1.1 s1.2.1 s1.2.2.1 s1.2.2.2 (fun r H e hr => ?_)
  have b := y_nw_b (sa := sa) (node := Int32.ofInt (-1)) (so := true) (but := Int32.ofInt (-1)) s1.2.2.2 (by omega) (by omega : (v 128).toInt ≤ 10)
  refine hK r H e (by omega) (by omega) ?_
  rw [hr, y_nw_T s5 s6 s2 s4]
  exact c_T_c (fun _ _ => rfl) (fun j _ => n_bu_n)
theorem c_TW_c {f g g' : Nat → Int} {n k : Nat} {x : Int} (kn : k < n) (hg : ∀ j, j < n → g j = g' j) : c_TW f n g k x = c_TW f n g' k x := by
  unfold c_TW
  rw [hg k kn]
  by_cases z : 0 ≤ g' k ∧ g' k ≠ x
  · rw [if_pos z, if_pos z]
  · rw [if_neg z, if_neg z]
    refine c_T_c (fun _ _ => rfl) (fun j hj => ?_)
    by_cases e : j = k
    · rw [e, c_upk, c_upk]
    · rw [c_upo e, c_upo e, hg j hj]
theorem r_nowWith (s : f_wc h v sa wl) {node : Int32} {k : Nat} {b : Bool} (hk : node.toInt = k) (kn : k < (v 128).toInt.toNat) (hK : ∀ (r : Int64) (H : aH), y_fr h H [] [] → 0 ≤ r.toInt → r.toInt ≤ 100000000 → r.toInt = n_nwW v k b → K0 (some (.long r)) H C S) : aOK s_P X (d + 2) a_m190 0 [some (.ref 155), some (.int node), some (.int (y_01 b)), some (.int (Int32.ofInt (-1))), none] [] h C S K0 := by
  obtain ⟨s1, s2, s3, s4, s5, s6⟩ := s
  refine y_nowWith s1.1 s1.2.1 s1.2.2.1 s1.2.2.2 (fun r H e hr => ?_)
  have bb := y_nw_b (sa := sa) (node := node) (so := b) (but := Int32.ofInt (-1)) s1.2.2.2 (by omega) (by omega : (v 128).toInt ≤ 10)
  refine hK r H e (by omega) (by omega) ?_
  rw [hr, y_nw_W s5 s6 hk kn s2 (s3 k kn).2 s4]
  exact c_TW_c kn (fun j _ => n_bu_n)
/-- the weights are worked: all that the reference weighs by -/
theorem r_up (hr : w_hr z_D h) (hJ : y_J h) (hm : n_mV h v) (hK : ∀ (sa : List Int32) (wl : List Int64) (H : aH), y_fr h H [] [163] → y_J H → f_wc H v sa wl → K0 none H C S) : aOK s_P X (d + 2) a_m188 0 [some (.ref 155), none] [] h C S K0 := by
  have g0 : w_f h 19591 = some (.int (v 128)) := hm.1 (128, 19591) (by decide)
  obtain ⟨sa, s4, s5, s6, n1, n10⟩ := f_sn hr hJ hm
  exact f_up hr hJ hm (fun wl H e J hw hf => hK sa wl H e J ⟨⟨e.1, (y_fe e rfl).trans g0, (y_ae e rfl).trans s4, hw⟩, s5, s6, hf, n1, n10⟩)
/-- now is one way and the other -/
theorem n_now_sp {k : Nat} (f0 : ∀ i, i < 2 ^ (v 128).toInt.toNat → 0 ≤ n_W v i) (kn : k < (v 128).toInt.toNat) (h0 : -1 ≤ n_sg v k) (h1 : n_sg v k ≤ 1) : n_now v = n_nwW v k true + n_nwW v k false ∧ 0 ≤ n_nwW v k true ∧ 0 ≤ n_nwW v k false := ⟨c_T_sp kn h0 h1, (c_TW_b f0).1, (c_TW_b f0).1⟩
end NAS
end PT33hh
section PT33hi
/-! ===== v11: the class's fractions, exactly (laid by wip/tools/mk11e.py) ===== -/
theorem c_half {L r : Nat} (h0 : 0 < r) (hr : r < L) : 2 * (L % r) < L := by
  have h1 : L % r < r := Nat.mod_lt _ h0
  have h2 : L % r + r ≤ L := by
    have h3 := Nat.div_add_mod L r
    have h4 : 1 ≤ L / r := Nat.div_pos (Nat.le_of_lt hr) h0
    have h5 : r * 1 ≤ r * (L / r) := Nat.mul_le_mul_left r h4
    omega
  omega
section NFR
variable {X : aX} {C S d : Nat} {K0 : Option Value → aH → Nat → Nat → Prop}
theorem c_200 : ((Int16.ofInt 200).toInt32).toInt = 200 := by decide
theorem c_cd_exit {h : aH} (hr : w_hr z_D h) {a b G0 L0 : Int64} {iI : Int32} {o9 : Option Value} {i : Nat} (hi : iI.toInt = i) (i2 : i < 200) (hL : L0.toInt = 0) (hK : ∀ (H : aH), y_fr h H [] [] → K0 (some (.long G0)) H C S) : aOK s_P X d a_m41 9 [some (.long a), none, some (.long b), none, some (.long G0), none, some (.long L0), none, some (.int iI), o9, none] [] h C S K0 := by
  refine w_go z_hl [9] [] 40 hr ?_
  refine ⟨fun q => ?_, fun _ => ⟨fun _ => fun H hH => hK H (y_st (y_rf hr) hH (by repeat (first | exact w_nil | refine w_cons (Or.inl (y_m rfl)) ?_ | refine w_cons (Or.inr (by assumption)) ?_)) (by repeat (first | exact w_nil | refine w_cons (Or.inl (y_m rfl)) ?_ | refine w_cons (Or.inr (by assumption)) ?_))), fun q => ?_⟩⟩
  · have : ((Int16.ofInt 200).toInt32).toInt ≤ iI.toInt := (y_ci .ge _ _).mp q
    rw [c_200] at this
    omega
  · have z : ¬ (L0.toInt = (Int64.ofNat 0).toInt) := y_clf q
    exact absurd (show L0.toInt = (Int64.ofNat 0).toInt from hL) z
theorem c_cd_step {h : aH} (hr : w_hr z_D h) {a b G0 L0 : Int64} {iI : Int32} {o9 : Option Value} {i : Nat} (hi : iI.toInt = i) (i2 : i < 200) (hG : 0 ≤ G0.toInt) (hL : 1 ≤ L0.toInt) (nx : ∀ (H : aH) (R : Int64) (kI : Int32) (o9 : Option Value), y_fr h H [] [] → R.toInt = ((G0.toInt.toNat % L0.toInt.toNat : Nat) : Int) → kI.toInt = ((i + 1 : Nat) : Int) → aOK s_P X d a_m41 9 [some (.long a), none, some (.long b), none, some (.long L0), none, some (.long R), none, some (.int kI), o9, none] [] H C S K0) : aOK s_P X d a_m41 9 [some (.long a), none, some (.long b), none, some (.long G0), none, some (.long L0), none, some (.int iI), o9, none] [] h C S K0 := by
  have ink : (iI + Int32.ofInt 1).toInt = ((i + 1 : Nat) : Int) := by rw [y_inc (by omega), hi]; rfl
  have l0 : L0 ≠ 0 := fun e => by
    rw [e] at hL
    exact absurd hL (by decide)
  have er : (G0 - G0 / L0 * L0).toInt = ((G0.toInt.toNat % L0.toInt.toNat : Nat) : Int) := by
    rw [s_i64rem, Int.tmod_eq_emod_of_nonneg hG, ← Int.toNat_emod hG (by omega)]
    have := Int.emod_nonneg G0.toInt (show L0.toInt ≠ 0 by omega)
    omega
  refine w_go z_hl [9] [] 60 hr ?_
  refine ⟨fun q => ?_, fun _ => ⟨fun q => ?_, fun q => ⟨l0, fun H hH => nx H _ _ _ (y_st (y_rf hr) hH (by repeat (first | exact w_nil | refine w_cons (Or.inl (y_m rfl)) ?_ | refine w_cons (Or.inr (by assumption)) ?_)) (by repeat (first | exact w_nil | refine w_cons (Or.inl (y_m rfl)) ?_ | refine w_cons (Or.inr (by assumption)) ?_))) er ink⟩⟩⟩
  · have : ((Int16.ofInt 200).toInt32).toInt ≤ iI.toInt := (y_ci .ge _ _).mp q
    rw [c_200] at this
    omega
  · have z : L0.toInt = (Int64.ofNat 0).toInt := (y_cl .eq _ _).mp q
    have z2 : L0.toInt = 0 := z
    omega
theorem c_cd_loop {a b : Int64} : ∀ (k : Nat) (h : aH) (G0 L0 : Int64) (iI : Int32) (o9 : Option Value) (i : Nat), w_hr z_D h → 0 ≤ G0.toInt → 0 ≤ L0.toInt → L0.toInt < ((2 ^ k : Nat) : Int) → iI.toInt = i → i + 2 * k + 1 ≤ 200 → (∀ (H : aH) (g : Int64), y_fr h H [] [] → g.toInt = ((Nat.gcd G0.toInt.toNat L0.toInt.toNat : Nat) : Int) → K0 (some (.long g)) H C S) → aOK s_P X d a_m41 9 [some (.long a), none, some (.long b), none, some (.long G0), none, some (.long L0), none, some (.int iI), o9, none] [] h C S K0 := by
  have stop : ∀ (h : aH) (G0 L0 : Int64) (iI : Int32) (o9 : Option Value) (i : Nat), w_hr z_D h → 0 ≤ G0.toInt → L0.toInt = 0 → iI.toInt = i → i < 200 → (∀ (H : aH) (g : Int64), y_fr h H [] [] → g.toInt = ((Nat.gcd G0.toInt.toNat L0.toInt.toNat : Nat) : Int) → K0 (some (.long g)) H C S) → aOK s_P X d a_m41 9 [some (.long a), none, some (.long b), none, some (.long G0), none, some (.long L0), none, some (.int iI), o9, none] [] h C S K0 := by
    intro h G0 L0 iI o9 i hr hG hL hi i2 hK
    refine c_cd_exit hr hi i2 hL (fun H e => hK H G0 e ?_)
    rw [hL, Int.toNat_zero, Nat.gcd_zero_right]
    omega
  intro k
  induction k with
  | zero =>
    intro h G0 L0 iI o9 i hr hG hL hk hi ib hK
    have hk1 : L0.toInt < 1 := hk
    exact stop h G0 L0 iI o9 i hr hG (by omega) hi (by omega) hK
  | succ k ih =>
    intro h G0 L0 iI o9 i hr hG hL hk hi ib hK
    by_cases z : L0.toInt = 0
    · exact stop h G0 L0 iI o9 i hr hG z hi (by omega) hK
    · refine c_cd_step hr hi (by omega) hG (by omega) (fun H R kI o9 e hR hkI => ?_)
      have g1 : Nat.gcd G0.toInt.toNat L0.toInt.toNat = Nat.gcd L0.toInt.toNat R.toInt.toNat := by
        rw [show R.toInt.toNat = G0.toInt.toNat % L0.toInt.toNat by omega, Nat.gcd_comm, Nat.gcd_rec, Nat.gcd_comm]
      have rl : G0.toInt.toNat % L0.toInt.toNat < L0.toInt.toNat := Nat.mod_lt _ (by omega)
      by_cases z1 : R.toInt = 0
      · refine stop H L0 R kI o9 (i + 1) e.1 (by omega) z1 hkI (by omega) (fun H' g f hg => hK H' g (y_sq e f rfl rfl) (by rw [hg, g1]))
      · refine c_cd_step e.1 hkI (by omega) hL (by omega) (fun H2 R2 k2 o9 e2 hR2 hk2 => ?_)
        have g2 : Nat.gcd L0.toInt.toNat R.toInt.toNat = Nat.gcd R.toInt.toNat R2.toInt.toNat := by
          rw [show R2.toInt.toNat = L0.toInt.toNat % R.toInt.toNat by omega, Nat.gcd_comm, Nat.gcd_rec, Nat.gcd_comm]
        have hf := c_half (L := L0.toInt.toNat) (r := R.toInt.toNat) (by omega) (by omega)
        have pw : 2 ^ (k + 1) = 2 * 2 ^ k := by rw [Nat.pow_succ]; omega
        exact ih H2 R R2 k2 o9 (i + 1 + 1) e2.1 (by omega) (by omega) (by omega) hk2 (by omega) (fun H' g f hg => hK H' g (y_sq (y_sq e e2 rfl rfl) f rfl rfl) (by rw [hg, g1, g2]))
theorem c_cd {h : aH} (hr : w_hr z_D h) {a b : Int64} (ha : 0 ≤ a.toInt) (hb : 0 ≤ b.toInt) (hK : ∀ (H : aH) (g : Int64), y_fr h H [] [] → g.toInt = ((Nat.gcd a.toInt.toNat b.toInt.toNat : Nat) : Int) → K0 (some (.long g)) H C S) : aOK s_P X d a_m41 0 [some (.long a), none, some (.long b), none, none, none, none, none, none, none, none] [] h C S K0 := by
  have b2 := b.toInt_lt
  refine w_go z_hl [9] [] 40 hr ?_
  intro H hH
  have e : y_fr h H [] [] := y_st (y_rf hr) hH (by repeat (first | exact w_nil | refine w_cons (Or.inl (y_m rfl)) ?_ | refine w_cons (Or.inr (by assumption)) ?_)) (by repeat (first | exact w_nil | refine w_cons (Or.inl (y_m rfl)) ?_ | refine w_cons (Or.inr (by assumption)) ?_))
  exact c_cd_loop 63 H a b _ _ 0 e.1 ha hb (by show b.toInt < 9223372036854775808; omega) (by decide) (by decide) (fun H' g f hg => hK H' g (y_sq e f rfl rfl) hg)
theorem c_put153 {h : aH} (hr : w_hr z_D h) {n m : Int64} (hn : -9223372036854775808 < n.toInt) (hm : 1 ≤ m.toInt) (hK : ∀ (g : Nat) (u l : Int64) (H : aH), g = Nat.gcd n.toInt.natAbs m.toInt.natAbs → 1 ≤ g → u.toInt = n.toInt.tdiv g → l.toInt = m.toInt / g → 1 ≤ l.toInt → y_fr h H [19328, 19329] [] → w_f H 19328 = some (.long u) → w_f H 19329 = some (.long l) → K0 none H C S) : aOK s_P X (d + 1) a_m39 0 [some (.ref 153), some (.long n), none, some (.long m), none, none, none] [] h C S K0 := by
  have m2 := m.toInt_lt
  have n2 := n.toInt_lt
  have T8 : ∀ {G : aH} {g : Int64}, y_fr h G [] [] → g.toInt = ((Nat.gcd n.toInt.natAbs m.toInt.natAbs : Nat) : Int) → aOK s_P X (d + 1) a_m39 8 [some (.ref 153), some (.long n), none, some (.long m), none, none, none] [.long g] G C S K0 := by
    intro G g e hg
    have hgp : 1 ≤ Nat.gcd n.toInt.natAbs m.toInt.natAbs := Nat.gcd_pos_of_pos_right _ (by omega)
    have hgd : Nat.gcd n.toInt.natAbs m.toInt.natAbs ≤ m.toInt.natAbs := Nat.gcd_le_right _ (by omega)
    have hg1 : 1 ≤ g.toInt := by omega
    have hg0 : g ≠ 0 := fun e => by
      rw [e] at hg1
      exact absurd hg1 (by decide)
    have hu : (n / g).toInt = n.toInt.tdiv g.toInt := y_div hn hg1
    have hl : (m / g).toInt = m.toInt / g.toInt := by
      rw [y_div (by omega) hg1, Int.tdiv_eq_ediv_of_nonneg (by omega)]
    have hl1 : 1 ≤ m.toInt / g.toInt := Int.le_ediv_of_mul_le (by omega) (by omega)
    have le1 : ∀ {q : a_cnd .le (lg_cmp g (Int64.ofNat 1)) 0 = true}, g.toInt = 1 := fun {q} => by
      have z : g.toInt ≤ (Int64.ofNat 1).toInt := (y_cl .le _ _).mp q
      have z2 : g.toInt ≤ 1 := z
      omega
    have gt1 : ∀ {q : a_cnd .le (lg_cmp g (Int64.ofNat 1)) 0 = false}, g.toInt ≠ 1 := fun {q} => by
      have z : ¬ (g.toInt ≤ (Int64.ofNat 1).toInt) := y_clf q
      have z2 : ¬ (g.toInt ≤ 1) := z
      omega
    refine w_go z_hl [] [] 80 e.1 ?_
    refine ⟨fun q => ⟨rfl, y_zin (y_l64 _).1 (y_l64 _).2, ⟨fun q2 => ⟨rfl, y_zin (y_l64 _).1 (y_l64 _).2, fun H hH => ?_⟩, fun q2 => absurd (le1 (q := q)) (gt1 (q := q2))⟩⟩, fun q => ⟨hg0, rfl, y_zin (y_l64 _).1 (y_l64 _).2, ⟨fun q2 => absurd (le1 (q := q2)) (gt1 (q := q)), fun q2 => ⟨hg0, rfl, y_zin (y_l64 _).1 (y_l64 _).2, fun H hH => ?_⟩⟩⟩⟩
    · have e1 := le1 (q := q)
      refine hK _ n m H rfl hgp ?_ ?_ hm (y_st (y_mo e rfl rfl) hH (by repeat (first | exact w_nil | refine w_cons (Or.inl (y_m rfl)) ?_ | refine w_cons (Or.inr (by assumption)) ?_)) (by repeat (first | exact w_nil | refine w_cons (Or.inl (y_m rfl)) ?_ | refine w_cons (Or.inr (by assumption)) ?_))) (hH.2.1 19328 _ rfl) (hH.2.1 19329 _ rfl)
      · rw [← hg, e1, Int.tdiv_one]
      · rw [← hg, e1, Int.ediv_one]
    · refine hK _ _ _ H rfl hgp ?_ ?_ ?_ (y_st (y_mo e rfl rfl) hH (by repeat (first | exact w_nil | refine w_cons (Or.inl (y_m rfl)) ?_ | refine w_cons (Or.inr (by assumption)) ?_)) (by repeat (first | exact w_nil | refine w_cons (Or.inl (y_m rfl)) ?_ | refine w_cons (Or.inr (by assumption)) ?_))) (hH.2.1 19328 _ rfl) (hH.2.1 19329 _ rfl)
      · rw [hu, hg]
      · rw [hl, hg]
      · rw [hl]
        exact hl1
  refine w_go z_hl [] [41] 40 hr ?_
  refine ⟨fun q => fun H hH => ?_, fun q => fun H hH => ?_⟩
  · have n0 := y_ge q
    have e : y_fr h H [] [] := y_st (y_rf hr) hH (by repeat (first | exact w_nil | refine w_cons (Or.inl (y_m rfl)) ?_ | refine w_cons (Or.inr (by assumption)) ?_)) (by repeat (first | exact w_nil | refine w_cons (Or.inl (y_m rfl)) ?_ | refine w_cons (Or.inr (by assumption)) ?_))
    refine c_cd e.1 n0 (by omega) (fun H2 g e2 hg => ⟨fun n e => (by cases e), ?_⟩)
    exact T8 (y_sq e e2 rfl rfl) (by rw [hg, show n.toInt.toNat = n.toInt.natAbs by omega, show m.toInt.toNat = m.toInt.natAbs by omega])
  · have n0 := y_lt q
    have en := y_neg hn
    have e : y_fr h H [] [] := y_st (y_rf hr) hH (by repeat (first | exact w_nil | refine w_cons (Or.inl (y_m rfl)) ?_ | refine w_cons (Or.inr (by assumption)) ?_)) (by repeat (first | exact w_nil | refine w_cons (Or.inl (y_m rfl)) ?_ | refine w_cons (Or.inr (by assumption)) ?_))
    refine c_cd (a := -n) e.1 (by omega) (by omega) (fun H2 g e2 hg => ⟨fun n e => (by cases e), ?_⟩)
    exact T8 (y_sq e e2 rfl rfl) (by rw [hg, en, show (-n.toInt).toNat = n.toInt.natAbs by omega, show m.toInt.toNat = m.toInt.natAbs by omega])
theorem c_put154 {h : aH} (hr : w_hr z_D h) {n m : Int64} (hn : -9223372036854775808 < n.toInt) (hm : 1 ≤ m.toInt) (hK : ∀ (g : Nat) (u l : Int64) (H : aH), g = Nat.gcd n.toInt.natAbs m.toInt.natAbs → 1 ≤ g → u.toInt = n.toInt.tdiv g → l.toInt = m.toInt / g → 1 ≤ l.toInt → y_fr h H [19456, 19457] [] → w_f H 19456 = some (.long u) → w_f H 19457 = some (.long l) → K0 none H C S) : aOK s_P X (d + 1) a_m39 0 [some (.ref 154), some (.long n), none, some (.long m), none, none, none] [] h C S K0 := by
  have m2 := m.toInt_lt
  have n2 := n.toInt_lt
  have T8 : ∀ {G : aH} {g : Int64}, y_fr h G [] [] → g.toInt = ((Nat.gcd n.toInt.natAbs m.toInt.natAbs : Nat) : Int) → aOK s_P X (d + 1) a_m39 8 [some (.ref 154), some (.long n), none, some (.long m), none, none, none] [.long g] G C S K0 := by
    intro G g e hg
    have hgp : 1 ≤ Nat.gcd n.toInt.natAbs m.toInt.natAbs := Nat.gcd_pos_of_pos_right _ (by omega)
    have hgd : Nat.gcd n.toInt.natAbs m.toInt.natAbs ≤ m.toInt.natAbs := Nat.gcd_le_right _ (by omega)
    have hg1 : 1 ≤ g.toInt := by omega
    have hg0 : g ≠ 0 := fun e => by
      rw [e] at hg1
      exact absurd hg1 (by decide)
    have hu : (n / g).toInt = n.toInt.tdiv g.toInt := y_div hn hg1
    have hl : (m / g).toInt = m.toInt / g.toInt := by
      rw [y_div (by omega) hg1, Int.tdiv_eq_ediv_of_nonneg (by omega)]
    have hl1 : 1 ≤ m.toInt / g.toInt := Int.le_ediv_of_mul_le (by omega) (by omega)
    have le1 : ∀ {q : a_cnd .le (lg_cmp g (Int64.ofNat 1)) 0 = true}, g.toInt = 1 := fun {q} => by
      have z : g.toInt ≤ (Int64.ofNat 1).toInt := (y_cl .le _ _).mp q
      have z2 : g.toInt ≤ 1 := z
      omega
    have gt1 : ∀ {q : a_cnd .le (lg_cmp g (Int64.ofNat 1)) 0 = false}, g.toInt ≠ 1 := fun {q} => by
      have z : ¬ (g.toInt ≤ (Int64.ofNat 1).toInt) := y_clf q
      have z2 : ¬ (g.toInt ≤ 1) := z
      omega
    refine w_go z_hl [] [] 80 e.1 ?_
    refine ⟨fun q => ⟨rfl, y_zin (y_l64 _).1 (y_l64 _).2, ⟨fun q2 => ⟨rfl, y_zin (y_l64 _).1 (y_l64 _).2, fun H hH => ?_⟩, fun q2 => absurd (le1 (q := q)) (gt1 (q := q2))⟩⟩, fun q => ⟨hg0, rfl, y_zin (y_l64 _).1 (y_l64 _).2, ⟨fun q2 => absurd (le1 (q := q2)) (gt1 (q := q)), fun q2 => ⟨hg0, rfl, y_zin (y_l64 _).1 (y_l64 _).2, fun H hH => ?_⟩⟩⟩⟩
    · have e1 := le1 (q := q)
      refine hK _ n m H rfl hgp ?_ ?_ hm (y_st (y_mo e rfl rfl) hH (by repeat (first | exact w_nil | refine w_cons (Or.inl (y_m rfl)) ?_ | refine w_cons (Or.inr (by assumption)) ?_)) (by repeat (first | exact w_nil | refine w_cons (Or.inl (y_m rfl)) ?_ | refine w_cons (Or.inr (by assumption)) ?_))) (hH.2.1 19456 _ rfl) (hH.2.1 19457 _ rfl)
      · rw [← hg, e1, Int.tdiv_one]
      · rw [← hg, e1, Int.ediv_one]
    · refine hK _ _ _ H rfl hgp ?_ ?_ ?_ (y_st (y_mo e rfl rfl) hH (by repeat (first | exact w_nil | refine w_cons (Or.inl (y_m rfl)) ?_ | refine w_cons (Or.inr (by assumption)) ?_)) (by repeat (first | exact w_nil | refine w_cons (Or.inl (y_m rfl)) ?_ | refine w_cons (Or.inr (by assumption)) ?_))) (hH.2.1 19456 _ rfl) (hH.2.1 19457 _ rfl)
      · rw [hu, hg]
      · rw [hl, hg]
      · rw [hl]
        exact hl1
  refine w_go z_hl [] [41] 40 hr ?_
  refine ⟨fun q => fun H hH => ?_, fun q => fun H hH => ?_⟩
  · have n0 := y_ge q
    have e : y_fr h H [] [] := y_st (y_rf hr) hH (by repeat (first | exact w_nil | refine w_cons (Or.inl (y_m rfl)) ?_ | refine w_cons (Or.inr (by assumption)) ?_)) (by repeat (first | exact w_nil | refine w_cons (Or.inl (y_m rfl)) ?_ | refine w_cons (Or.inr (by assumption)) ?_))
    refine c_cd e.1 n0 (by omega) (fun H2 g e2 hg => ⟨fun n e => (by cases e), ?_⟩)
    exact T8 (y_sq e e2 rfl rfl) (by rw [hg, show n.toInt.toNat = n.toInt.natAbs by omega, show m.toInt.toNat = m.toInt.natAbs by omega])
  · have n0 := y_lt q
    have en := y_neg hn
    have e : y_fr h H [] [] := y_st (y_rf hr) hH (by repeat (first | exact w_nil | refine w_cons (Or.inl (y_m rfl)) ?_ | refine w_cons (Or.inr (by assumption)) ?_)) (by repeat (first | exact w_nil | refine w_cons (Or.inl (y_m rfl)) ?_ | refine w_cons (Or.inr (by assumption)) ?_))
    refine c_cd (a := -n) e.1 (by omega) (by omega) (fun H2 g e2 hg => ⟨fun n e => (by cases e), ?_⟩)
    exact T8 (y_sq e e2 rfl rfl) (by rw [hg, en, show (-n.toInt).toNat = n.toInt.natAbs by omega, show m.toInt.toNat = m.toInt.natAbs by omega])
end NFR
/-- a fraction's upper number has the sign that was told -/
theorem c_sgn {n u : Int} {g m : Nat} (hg : g = Nat.gcd n.natAbs m) (g1 : 1 ≤ g) (hu : u = n.tdiv g) : (0 < u ↔ 0 < n) ∧ (u < 0 ↔ n < 0) := by
  have dv : (g : Int) ∣ n := Int.ofNat_dvd_left.mpr (by rw [hg]; exact Nat.gcd_dvd_left _ _)
  have e : u * g = n := by
    rw [hu]
    exact Int.tdiv_mul_cancel dv
  constructor
  · constructor
    · intro h
      rw [← e]
      exact Int.mul_pos h (by omega)
    · intro h
      by_cases z : 0 < u
      · exact z
      · have : u * g ≤ 0 := Int.mul_nonpos_of_nonpos_of_nonneg (by omega) (by omega)
        omega
  · constructor
    · intro h
      have : u * g < 0 := Int.mul_neg_of_neg_of_pos h (by omega)
      omega
    · intro h
      by_cases z : u < 0
      · exact z
      · have : 0 ≤ u * g := Int.mul_nonneg (by omega) (by omega)
        omega
section NQF
variable {h G H : aH} {v : Nat → Int32}
theorem n_Qs_w {fs as : List Nat} (q : n_Qs v h G) (e : y_fr G H fs as) (h1 : fs.all (fun x => z_qm.elem x) = true) (h2 : as.all (fun x => z_qm.elem (x * 128)) = true) (h3 : fs.all (fun x => !z_jc.elem x) = true) (h4 : as.all (fun x => !z_jc.elem (x * 128)) = true) (h5 : z_pF.all (fun k => !fs.elem k) = true) (h6 : z_pA.all (fun o => !as.elem o) = true) : n_Qs v h H := by
  have A : ∀ k ∈ z_pF, w_f H k = w_f G k := fun k hk => e.2.1 k (n_nel (by
    have := List.all_eq_true.mp h5 k hk
    rw [Bool.not_eq_true'] at this
    exact this))
  have B : ∀ o ∈ z_pA, w_a H o = w_a G o := fun o ho => e.2.2 o (n_nel (by
    have := List.all_eq_true.mp h6 o ho
    rw [Bool.not_eq_true'] at this
    exact this))
  exact ⟨e.1, y_jfr y_JA_x e h3 h4 q.2.1, z_frm_tr q.2.2.1 (y_frm q.1 e h1 h2), n_Wv_p G H A B q.2.2.2.1, (A 143 (by decide)).trans q.2.2.2.2⟩
end NQF
end PT33hi
section PT33hj
/-! ===== v11: the class's compare, exactly (laid by wip/tools/mk11h.py) ===== -/
def c_sg (x : Int) : Int := if 0 < x then 1 else if x < 0 then -1 else 0
theorem c_sg_p {x : Int} (h : 0 < x) : c_sg x = 1 := if_pos h
theorem c_sg_m {x : Int} (h : x < 0) : c_sg x = -1 := by
  unfold c_sg
  rw [if_neg (by omega), if_pos h]
theorem c_sg_0 : c_sg 0 = 0 := rfl
theorem c_sg_n {x : Int} : c_sg (-x) = -c_sg x := by
  by_cases h : 0 < x
  · rw [c_sg_p h, c_sg_m (by omega)]
  · by_cases h2 : x < 0
    · rw [c_sg_m h2, c_sg_p (by omega)]
      rfl
    · rw [show x = 0 by omega]
      rfl
theorem c_fl {a b c e : Int} (hb : 0 < b) (he : 0 < e) (h : c / e < a / b) : c * b < a * e := by
  have h1 : c < e * (c / e + 1) := by
    have h3 := Int.emod_lt_of_pos c he
    have h4 := Int.mul_ediv_add_emod c e
    rw [Int.mul_add, Int.mul_one]
    omega
  have h2 : b * (a / b) ≤ a := by
    have h3 := Int.emod_nonneg a (show b ≠ 0 by omega)
    have h4 := Int.mul_ediv_add_emod a b
    omega
  calc c * b < e * (c / e + 1) * b := Int.mul_lt_mul_of_pos_right h1 hb
    _ ≤ e * (a / b) * b := Int.mul_le_mul_of_nonneg_right (Int.mul_le_mul_of_nonneg_left (by omega) (by omega)) (by omega)
    _ = e * (b * (a / b)) := by rw [Int.mul_assoc, Int.mul_comm (a / b) b]
    _ ≤ e * a := Int.mul_le_mul_of_nonneg_left h2 (by omega)
    _ = a * e := Int.mul_comm e a
theorem c_fe {a b c e : Int} (h : a / b = c / e) : a * e - c * b = a % b * e - c % e * b := by
  have h1 := Int.mul_ediv_add_emod a b
  have h2 := Int.mul_ediv_add_emod c e
  have e1 : a * e = b * (a / b) * e + a % b * e := by rw [← Int.add_mul, h1]
  have e2 : c * b = e * (c / e) * b + c % e * b := by rw [← Int.add_mul, h2]
  have e3 : b * (a / b) * e = e * (c / e) * b := by
    rw [h, Int.mul_comm b, Int.mul_assoc, Int.mul_comm e (c / e), Int.mul_assoc, Int.mul_comm b e]
  omega
section NCP
variable {X : aX} {C S d : Nat} {K0 : Option Value → aH → Nat → Nat → Prop} {r1 r2 : Nat}
theorem c_dv {a b : Int64} (ha : 0 ≤ a.toInt) (hb : 1 ≤ b.toInt) : (a / b).toInt = a.toInt / b.toInt := by
  rw [y_div (by omega) hb, Int.tdiv_eq_ediv_of_nonneg ha]
theorem c_rm {a b : Int64} (ha : 0 ≤ a.toInt) : (a - a / b * b).toInt = a.toInt % b.toInt := by
  rw [s_i64rem, Int.tmod_eq_emod_of_nonneg ha]
theorem c_cmp_step {h : aH} (hr : w_hr z_D h) {a b c e : Int64} {tI iI : Int32} {o12 o14 : Option Value} {i : Nat} (ha : 0 ≤ a.toInt) (hb : 1 ≤ b.toInt) (hc : 0 ≤ c.toInt) (he : 1 ≤ e.toInt) (ht : tI.toInt = 1 ∨ tI.toInt = -1) (hi : iI.toInt = i) (i2 : i < 200) (fin : ∀ (H : aH) (r : Int32), y_fr h H [] [] → r.toInt = tI.toInt * c_sg (a.toInt * e.toInt - c.toInt * b.toInt) → K0 (some (.int r)) H C S) (nx : ∀ (H : aH) (x y : Int64) (tJ kI : Int32) (o12 o14 : Option Value), y_fr h H [] [] → x.toInt = a.toInt % b.toInt → y.toInt = c.toInt % e.toInt → 1 ≤ x.toInt → 1 ≤ y.toInt → a.toInt / b.toInt = c.toInt / e.toInt → tJ.toInt = -tI.toInt → kI.toInt = ((i + 1 : Nat) : Int) → aOK s_P X d a_m53 29 [some (.ref r1), some (.ref r2), some (.long b), none, some (.long x), none, some (.long e), none, some (.long y), none, some (.int tJ), some (.int kI), o12, none, o14, none] [] H C S K0) : aOK s_P X d a_m53 29 [some (.ref r1), some (.ref r2), some (.long a), none, some (.long b), none, some (.long c), none, some (.long e), none, some (.int tI), some (.int iI), o12, none, o14, none] [] h C S K0 := by
  have ink : (iI + Int32.ofInt 1).toInt = ((i + 1 : Nat) : Int) := by rw [y_inc (by omega), hi]; rfl
  have ng : (-tI).toInt = -tI.toInt := by
    rw [Int32.toInt_neg]
    exact Int.bmod_eq_of_le (by omega) (by omega)
  have b0 : b ≠ 0 := fun q => by rw [q] at hb; exact absurd hb (by decide)
  have e0 : e ≠ 0 := fun q => by rw [q] at he; exact absurd he (by decide)
  have z0 : (Int64.ofNat 0).toInt = 0 := by decide
  have d1 := c_dv ha hb
  have d2 := c_dv hc he
  have m1 := c_rm (b := b) ha
  have m2 := c_rm (b := e) hc
  have p1 := Int.emod_nonneg a.toInt (show b.toInt ≠ 0 by omega)
  have p2 := Int.emod_nonneg c.toInt (show e.toInt ≠ 0 by omega)
  have T113 : ∀ {G : aH} {x y : Int64}, y_fr h G [] [] → x.toInt = a.toInt % b.toInt → y.toInt = c.toInt % e.toInt → a.toInt / b.toInt = c.toInt / e.toInt → (x.toInt = 0 ∨ y.toInt = 0) → aOK s_P X d a_m53 113 [some (.ref r1), some (.ref r2), some (.long a), none, some (.long b), none, some (.long c), none, some (.long e), none, some (.int tI), some (.int iI), some (.long x), none, some (.long y), none] [] G C S K0 := by
    intro G x y f hx hy eq zz
    have fe := c_fe eq
    rw [← hx, ← hy] at fe
    refine w_go z_hl [] [] 40 f.1 ?_
    refine ⟨fun q => ⟨fun q2 => fun H hH => ?_, fun q2 => fun H hH => ?_⟩, fun q => fun H hH => ?_⟩
    · have y1 : x.toInt ≠ y.toInt := (y_cl .ne _ _).mp q
      have y2 : y.toInt ≠ (Int64.ofNat 0).toInt := (y_cl .ne _ _).mp q2
      rw [z0] at y2
      have x0 : x.toInt = 0 := zz.resolve_right y2
      refine fin H _ (y_st f hH (by repeat (first | exact w_nil | refine w_cons (Or.inl (y_m rfl)) ?_ | refine w_cons (Or.inr (by assumption)) ?_)) (by repeat (first | exact w_nil | refine w_cons (Or.inl (y_m rfl)) ?_ | refine w_cons (Or.inr (by assumption)) ?_))) ?_
      have pp : 0 < y.toInt * b.toInt := Int.mul_pos (by omega) (by omega)
      rw [x0, Int.zero_mul] at fe
      rw [ng, c_sg_m (by omega)]
      omega
    · have y1 : x.toInt ≠ y.toInt := (y_cl .ne _ _).mp q
      have y2 : ¬ (y.toInt ≠ (Int64.ofNat 0).toInt) := y_clf q2
      rw [z0] at y2
      have y3 : y.toInt = 0 := Decidable.not_not.mp y2
      refine fin H _ (y_st f hH (by repeat (first | exact w_nil | refine w_cons (Or.inl (y_m rfl)) ?_ | refine w_cons (Or.inr (by assumption)) ?_)) (by repeat (first | exact w_nil | refine w_cons (Or.inl (y_m rfl)) ?_ | refine w_cons (Or.inr (by assumption)) ?_))) ?_
      have pp : 0 < x.toInt * e.toInt := Int.mul_pos (by omega) (by omega)
      rw [y3, Int.zero_mul] at fe
      rw [c_sg_p (by omega)]
      omega
    · have y1 : ¬ (x.toInt ≠ y.toInt) := y_clf q
      have y2 : x.toInt = y.toInt := Decidable.not_not.mp y1
      have x0 : x.toInt = 0 := by omega
      have y0 : y.toInt = 0 := by omega
      refine fin H _ (y_st f hH (by repeat (first | exact w_nil | refine w_cons (Or.inl (y_m rfl)) ?_ | refine w_cons (Or.inr (by assumption)) ?_)) (by repeat (first | exact w_nil | refine w_cons (Or.inl (y_m rfl)) ?_ | refine w_cons (Or.inr (by assumption)) ?_))) ?_
      rw [x0, y0, Int.zero_mul, Int.zero_mul] at fe
      rw [fe, show c_sg (0 - 0) = 0 from rfl, Int.mul_zero]
      decide
  have T141 : ∀ {G : aH} {x y : Int64}, y_fr h G [] [] → x.toInt = a.toInt % b.toInt → y.toInt = c.toInt % e.toInt → a.toInt / b.toInt = c.toInt / e.toInt → x.toInt ≠ 0 → y.toInt ≠ 0 → aOK s_P X d a_m53 141 [some (.ref r1), some (.ref r2), some (.long a), none, some (.long b), none, some (.long c), none, some (.long e), none, some (.int tI), some (.int iI), some (.long x), none, some (.long y), none] [] G C S K0 := by
    intro G x y f hx hy eq x0 y0
    refine w_go z_hl [29] [] 40 f.1 ?_
    intro H hH
    exact nx H x y _ _ _ _ (y_st f hH (by repeat (first | exact w_nil | refine w_cons (Or.inl (y_m rfl)) ?_ | refine w_cons (Or.inr (by assumption)) ?_)) (by repeat (first | exact w_nil | refine w_cons (Or.inl (y_m rfl)) ?_ | refine w_cons (Or.inr (by assumption)) ?_))) hx hy (by omega) (by omega) eq ng ink
  refine w_go z_hl [29, 113, 141] [] 120 hr ?_
  refine ⟨fun q => ?_, fun _ => ⟨fun q => ?_, fun _ => ⟨fun q => ?_, fun _ => ⟨b0, e0, ⟨fun q => ?_, fun q => ?_⟩⟩⟩⟩⟩
  · have z : ((Int16.ofInt 200).toInt32).toInt ≤ iI.toInt := (y_ci .ge _ _).mp q
    rw [c_200] at z
    omega
  · have z : b.toInt ≤ (Int64.ofNat 0).toInt := (y_cl .le _ _).mp q
    rw [z0] at z
    omega
  · have z : e.toInt ≤ (Int64.ofNat 0).toInt := (y_cl .le _ _).mp q
    rw [z0] at z
    omega
  · have z : (a / b).toInt = (c / e).toInt := (y_cl .eq _ _).mp q
    rw [d1, d2] at z
    refine ⟨b0, e0, ⟨fun q2 => fun H hH => ?_, fun q2 => ⟨fun q3 => fun H hH => ?_, fun q3 => fun H hH => ?_⟩⟩⟩
    · have y1 : (a - a / b * b).toInt = (Int64.ofNat 0).toInt := (y_cl .eq _ _).mp q2
      exact T113 (y_st (y_rf hr) hH (by repeat (first | exact w_nil | refine w_cons (Or.inl (y_m rfl)) ?_ | refine w_cons (Or.inr (by assumption)) ?_)) (by repeat (first | exact w_nil | refine w_cons (Or.inl (y_m rfl)) ?_ | refine w_cons (Or.inr (by assumption)) ?_))) m1 m2 z (Or.inl y1)
    · have y1 : ¬ ((a - a / b * b).toInt = (Int64.ofNat 0).toInt) := y_clf q2
      have y2 : (c - c / e * e).toInt ≠ (Int64.ofNat 0).toInt := (y_cl .ne _ _).mp q3
      exact T141 (y_st (y_rf hr) hH (by repeat (first | exact w_nil | refine w_cons (Or.inl (y_m rfl)) ?_ | refine w_cons (Or.inr (by assumption)) ?_)) (by repeat (first | exact w_nil | refine w_cons (Or.inl (y_m rfl)) ?_ | refine w_cons (Or.inr (by assumption)) ?_))) m1 m2 z y1 y2
    · have y2 : ¬ ((c - c / e * e).toInt ≠ (Int64.ofNat 0).toInt) := y_clf q3
      exact T113 (y_st (y_rf hr) hH (by repeat (first | exact w_nil | refine w_cons (Or.inl (y_m rfl)) ?_ | refine w_cons (Or.inr (by assumption)) ?_)) (by repeat (first | exact w_nil | refine w_cons (Or.inl (y_m rfl)) ?_ | refine w_cons (Or.inr (by assumption)) ?_))) m1 m2 z (Or.inr (Decidable.not_not.mp y2))
  · have z : ¬ ((a / b).toInt = (c / e).toInt) := y_clf q
    rw [d1, d2] at z
    refine ⟨b0, e0, ⟨fun q2 => fun H hH => ?_, fun q2 => fun H hH => ?_⟩⟩
    · have y1 : (a / b).toInt ≤ (c / e).toInt := (y_cl .le _ _).mp q2
      rw [d1, d2] at y1
      have fl := c_fl (a := c.toInt) (b := e.toInt) (c := a.toInt) (e := b.toInt) (by omega) (by omega) (by omega)
      refine fin H _ (y_st (y_rf hr) hH (by repeat (first | exact w_nil | refine w_cons (Or.inl (y_m rfl)) ?_ | refine w_cons (Or.inr (by assumption)) ?_)) (by repeat (first | exact w_nil | refine w_cons (Or.inl (y_m rfl)) ?_ | refine w_cons (Or.inr (by assumption)) ?_))) ?_
      rw [ng, c_sg_m (by omega)]
      omega
    · have y1 : ¬ ((a / b).toInt ≤ (c / e).toInt) := y_clf q2
      rw [d1, d2] at y1
      have fl := c_fl (a := a.toInt) (b := b.toInt) (c := c.toInt) (e := e.toInt) (by omega) (by omega) (by omega)
      refine fin H _ (y_st (y_rf hr) hH (by repeat (first | exact w_nil | refine w_cons (Or.inl (y_m rfl)) ?_ | refine w_cons (Or.inr (by assumption)) ?_)) (by repeat (first | exact w_nil | refine w_cons (Or.inl (y_m rfl)) ?_ | refine w_cons (Or.inr (by assumption)) ?_))) ?_
      rw [c_sg_p (by omega)]
      omega
theorem c_sg_t {a b c e : Int} {u w : Int} (hw : w = -u) (h : a / b = c / e) : w * c_sg (b * (c % e) - e * (a % b)) = u * c_sg (a * e - c * b) := by
  have f := c_fe h
  rw [f, show b * (c % e) - e * (a % b) = -(a % b * e - c % e * b) by rw [Int.mul_comm b, Int.mul_comm e]; omega, c_sg_n, hw, Int.neg_mul_neg]
theorem c_cmp_loop : ∀ (k : Nat) (h : aH) (a b c e : Int64) (tI iI : Int32) (o12 o14 : Option Value) (i : Nat), w_hr z_D h → 0 ≤ a.toInt → 1 ≤ b.toInt → 0 ≤ c.toInt → 1 ≤ e.toInt → b.toInt < ((2 ^ k : Nat) : Int) → (tI.toInt = 1 ∨ tI.toInt = -1) → iI.toInt = i → i + 2 * k + 1 ≤ 200 → (∀ (H : aH) (r : Int32), y_fr h H [] [] → r.toInt = tI.toInt * c_sg (a.toInt * e.toInt - c.toInt * b.toInt) → K0 (some (.int r)) H C S) → aOK s_P X d a_m53 29 [some (.ref r1), some (.ref r2), some (.long a), none, some (.long b), none, some (.long c), none, some (.long e), none, some (.int tI), some (.int iI), o12, none, o14, none] [] h C S K0 := by
  intro k
  induction k with
  | zero =>
    intro h a b c e tI iI o12 o14 i hr ha hb hc he hk
    have hk1 : b.toInt < 1 := hk
    omega
  | succ k ih =>
    intro h a b c e tI iI o12 o14 i hr ha hb hc he hk ht hi ib hK
    have pw : 2 ^ (k + 1) = 2 * 2 ^ k := by rw [Nat.pow_succ]; omega
    refine c_cmp_step hr ha hb hc he ht hi (by omega) hK (fun H x y tJ kI o12 o14 f hx hy x1 y1 eq hJ hk1 => ?_)
    have lt1 := Int.emod_lt_of_pos a.toInt (show 0 < b.toInt by omega)
    refine c_cmp_step f.1 (by omega) x1 (by omega) y1 (by omega) hk1 (by omega) (fun H2 r f2 hr2 => hK H2 r (y_sq f f2 rfl rfl) ?_) (fun H2 x2 y2 tJ2 kI2 o12 o14 f2 hx2 hy2 x12 y12 eq2 hJ2 hk2 => ?_)
    · rw [hr2, hx, hy]
      exact c_sg_t hJ eq
    · have hf := c_half (L := b.toInt.toNat) (r := x.toInt.toNat) (by omega) (by omega)
      have em : (b.toInt.toNat % x.toInt.toNat : Nat) = (b.toInt % x.toInt).toNat := (Int.toNat_emod (by omega) (by omega)).symm
      have en := Int.emod_nonneg b.toInt (show x.toInt ≠ 0 by omega)
      refine ih H2 x x2 y y2 tJ2 kI2 o12 o14 (i + 1 + 1) f2.1 (by omega) x12 (by omega) y12 (by omega) (by omega) hk2 (by omega) (fun H3 r f3 hr3 => hK H3 r (y_sq (y_sq f f2 rfl rfl) f3 rfl rfl) ?_)
      rw [hr3, hx2, hy2, c_sg_t hJ2 eq2, hx, hy]
      exact c_sg_t hJ eq
theorem c_cmp12 {h : aH} (hr : w_hr z_D h) {a b c e : Int64} (ga : w_f h 19328 = some (.long a)) (gb : w_f h 19329 = some (.long b)) (gc : w_f h 19456 = some (.long c)) (ge : w_f h 19457 = some (.long e)) (ha : 0 ≤ a.toInt) (hb : 1 ≤ b.toInt) (hc : 0 ≤ c.toInt) (he : 1 ≤ e.toInt) (hK : ∀ (H : aH) (r : Int32), y_fr h H [] [] → r.toInt = c_sg (a.toInt * e.toInt - c.toInt * b.toInt) → K0 (some (.int r)) H C S) : aOK s_P X d a_m53 0 [some (.ref 153), some (.ref 154), none, none, none, none, none, none, none, none, none, none, none, none, none, none] [] h C S K0 := by
  have b2 := b.toInt_lt
  refine w_go z_hl [29] [] 60 hr ?_
  intro x hx _ _
  obtain rfl := y_fl ga hx
  intro x hx _ _
  obtain rfl := y_fl gb hx
  intro x hx _ _
  obtain rfl := y_fl gc hx
  intro x hx _ _
  obtain rfl := y_fl ge hx
  intro H hH
  have f : y_fr h H [] [] := y_st (y_rf hr) hH (by repeat (first | exact w_nil | refine w_cons (Or.inl (y_m rfl)) ?_ | refine w_cons (Or.inr (by assumption)) ?_)) (by repeat (first | exact w_nil | refine w_cons (Or.inl (y_m rfl)) ?_ | refine w_cons (Or.inr (by assumption)) ?_))
  refine c_cmp_loop 63 H a b c e _ _ _ _ 0 f.1 ha hb hc he (by show b.toInt < 9223372036854775808; omega) (Or.inl (by decide)) (by decide) (by decide) (fun H2 r f2 hr2 => hK H2 r (y_sq f f2 rfl rfl) ?_)
  rw [hr2, show (Int32.ofInt 1).toInt = 1 by decide, Int.one_mul]
end NCP
end PT33hj
section PT33hk
/-! ===== v12: signs of differences (laid by wip/tools/mk12c.py) ===== -/
/-- the sign of a difference of fractions, by what they were put as -/
theorem n_sgx {a b c e X1 X2 T p1 p2 : Int} {g1 g2 : Nat} (h1 : 1 ≤ g1) (h2 : 1 ≤ g2) (t1 : 1 ≤ T) (ea : a * g1 = X1) (eb : b * g1 = T * p1) (ec : c * g2 = X2) (ee : e * g2 = T * p2) : 0 < a * e - c * b ↔ X2 * p1 < X1 * p2 := by
  have k1 : (0 : Int) < g1 := by omega
  have k2 : (0 : Int) < g2 := by omega
  have m : (a * e - c * b) * ((g1 : Int) * g2) = (X1 * p2 - X2 * p1) * T := by
    rw [Int.sub_mul, Int.sub_mul]
    have e1 : a * e * ((g1 : Int) * g2) = X1 * p2 * T := by
      have q1 : a * e * ((g1 : Int) * g2) = (a * g1) * (e * g2) := by ac_rfl
      rw [q1, ea, ee]
      ac_rfl
    have e2 : c * b * ((g1 : Int) * g2) = X2 * p1 * T := by
      have q1 : c * b * ((g1 : Int) * g2) = (c * g2) * (b * g1) := by ac_rfl
      rw [q1, ec, eb]
      ac_rfl
    rw [e1, e2]
  have kg : (0 : Int) < (g1 : Int) * g2 := Int.mul_pos k1 k2
  constructor
  · intro w
    have w2 := Int.mul_pos w kg
    rw [m] at w2
    have : 0 < X1 * p2 - X2 * p1 := by
      rcases Int.lt_or_le 0 (X1 * p2 - X2 * p1) with y | y
      · exact y
      · have := Int.mul_nonneg (show 0 ≤ -(X1 * p2 - X2 * p1) by omega) (show 0 ≤ T by omega)
        rw [Int.neg_mul] at this
        omega
    omega
  · intro w
    have w2 := Int.mul_pos (show 0 < X1 * p2 - X2 * p1 by omega) (show 0 < T by omega)
    rw [← m] at w2
    rcases Int.lt_or_le 0 (a * e - c * b) with y | y
    · exact y
    · have := Int.mul_nonneg (show 0 ≤ -(a * e - c * b) by omega) (Int.le_of_lt kg)
      rw [Int.neg_mul] at this
      omega
end PT33hk
section PT33hl
/-! ===== v11: neither seen nor forced (laid by wip/tools/mk11k.py) ===== -/
abbrev n_fre (v : Nat → Int32) (k : Nat) : Prop := n_sg v k < 0 ∧ (v (704000 + k)).toInt < 0
section NLO
variable {X : aX} {C S d : Nat} {K0 : Option Value → aH → Nat → Nat → Prop} {h G : aH} {v : Nat → Int32}
/-- neither seen nor forced: the class -/
theorem c_lookG (hr : w_hr z_D h) (hc : n_cV h v) (hrG : w_hr z_D G) (k0 : w_f G 128 = some (.int (v 128))) (k1 : w_f G 138 = some (.int (v 138))) (k2 : w_f G 136 = some (.int (v 136))) {a : Int32} (yes : n_hasV a (v 128) ∧ n_fre v a.toInt.toNat → ∀ H, y_fr G H [] [] → K0 (some (.int (y_01 true))) H C S) (no : ¬ (n_hasV a (v 128) ∧ n_fre v a.toInt.toNat) → ∀ H, y_fr G H [] [] → K0 (some (.int (y_01 false))) H C S) : aOK s_P X (d + 1) a_m60 0 [some (.ref 3), some (.int a)] [] G C S K0 := by
  have b0 := n_bd (lo := 0) (hi := 10) hr (hc.1 128 (by decide)) rfl
  obtain ⟨⟨p1, p2⟩, -, p3⟩ := id hc.2.2.2.2.2.2.2.2.2.2.2.2.1
  obtain ⟨⟨⟨r1, r2⟩, -, r3⟩, -⟩ := id hc.2.2.2.2.2.2.2.2.2.1
  have pw : 2 ^ (v 128).toInt.toNat ≤ 2 ^ 10 := n_p2 (by omega)
  have T5 : ∀ {J : aH}, n_hasV a (v 128) → y_fr G J [] [] → aOK s_P X (d + 1) a_m60 5 [some (.ref 3), some (.int a)] [.int (y_01 true)] J C S K0 := by
    intro J hv e
    obtain ⟨v1, v2⟩ := id hv
    obtain ⟨o1, o2⟩ := c_orN (x := v 138) (y := v 136) (n := (v 138).toInt.toNat) (m := (v 136).toInt.toNat) (by omega) (by omega) (by omega) (by omega)
    have m1 := c_b01 (bits := v 138 ||| v 136) (k := a) (o := a.toInt.toNat) o1 o2 (by omega) (by omega)
    rw [Nat.testBit_or, (p3 a.toInt.toNat (by omega)).1, (r3 a.toInt.toNat (by omega)).1] at m1
    refine w_go z_hl [] [] 40 e.1 ?_
    refine ⟨fun z => absurd z (by decide), fun _ => ?_⟩
    intro x hx _ _
    obtain rfl := y_fi ((y_fe e rfl).trans k1) hx
    intro y hy _ _
    obtain rfl := y_fi ((y_fe e rfl).trans k2) hy
    refine ⟨fun z => ⟨by decide, fun H hH => ?_⟩, fun z => ⟨by decide, fun H hH => ?_⟩⟩
    · have z1 : (((v 138 ||| v 136) >>> (a &&& 31)) &&& Int32.ofInt 1).toInt ≠ (0 : Int32).toInt := (y_ci .ne _ _).mp z
      refine no (fun w => z1 ?_) H (y_st e hH (by repeat (first | exact w_nil | refine w_cons (Or.inl (y_m rfl)) ?_ | refine w_cons (Or.inr (by assumption)) ?_)) (by repeat (first | exact w_nil | refine w_cons (Or.inl (y_m rfl)) ?_ | refine w_cons (Or.inr (by assumption)) ?_)))
      rw [decide_eq_false (show ¬ 0 ≤ (v (705000 + a.toInt.toNat)).toInt from Int.not_le.mpr w.2.1), decide_eq_false (show ¬ 0 ≤ (v (704000 + a.toInt.toNat)).toInt from Int.not_le.mpr w.2.2), if_neg (by decide)] at m1
      exact m1
    · have z1 : ¬ ((((v 138 ||| v 136) >>> (a &&& 31)) &&& Int32.ofInt 1).toInt ≠ (0 : Int32).toInt) := y_cif z
      have z2 : (((v 138 ||| v 136) >>> (a &&& 31)) &&& Int32.ofInt 1).toInt = 0 := Decidable.not_not.mp z1
      refine yes ⟨hv, ?_⟩ H (y_st e hH (by repeat (first | exact w_nil | refine w_cons (Or.inl (y_m rfl)) ?_ | refine w_cons (Or.inr (by assumption)) ?_)) (by repeat (first | exact w_nil | refine w_cons (Or.inl (y_m rfl)) ?_ | refine w_cons (Or.inr (by assumption)) ?_)))
      by_cases w : 0 ≤ (v (705000 + a.toInt.toNat)).toInt
      · rw [decide_eq_true w, Bool.true_or, if_pos rfl] at m1
        omega
      · by_cases w2 : 0 ≤ (v (704000 + a.toInt.toNat)).toInt
        · rw [decide_eq_true w2, Bool.or_true, if_pos rfl] at m1
          omega
        · exact ⟨Int.not_le.mp w, Int.not_le.mp w2⟩
  have T5n : ∀ {J : aH}, ¬ n_hasV a (v 128) → y_fr G J [] [] → aOK s_P X (d + 1) a_m60 5 [some (.ref 3), some (.int a)] [.int (y_01 false)] J C S K0 := by
    intro J hv e
    refine w_go z_hl [] [] 40 e.1 ?_
    exact ⟨fun _ => ⟨by decide, fun H hH => no (fun w => hv w.1) H (y_st e hH (by repeat (first | exact w_nil | refine w_cons (Or.inl (y_m rfl)) ?_ | refine w_cons (Or.inr (by assumption)) ?_)) (by repeat (first | exact w_nil | refine w_cons (Or.inl (y_m rfl)) ?_ | refine w_cons (Or.inr (by assumption)) ?_)))⟩, fun z => absurd z (by decide)⟩
  refine w_go z_hl [] [19] 30 hrG ?_
  intro H hH
  have e1 : y_fr G H [] [] := y_st (y_rf hrG) hH (by repeat (first | exact w_nil | refine w_cons (Or.inl (y_m rfl)) ?_ | refine w_cons (Or.inr (by assumption)) ?_)) (by repeat (first | exact w_nil | refine w_cons (Or.inl (y_m rfl)) ?_ | refine w_cons (Or.inr (by assumption)) ?_))
  refine c_hasN (v := a) e1.1 ((y_fe e1 rfl).trans k0) (fun v1 v2 H2 h2 => ⟨fun n e => (by cases e), ?_⟩) (fun nv H2 h2 => ⟨fun n e => (by cases e), ?_⟩)
  · exact T5 ⟨v1, v2⟩ (y_sq e1 h2 rfl rfl)
  · exact T5n nv (y_sq e1 h2 rfl rfl)
theorem c_look (hr : w_hr z_D h) (hc : n_cV h v) (e : y_fr h G [] []) {a : Int32} (yes : n_hasV a (v 128) ∧ n_fre v a.toInt.toNat → ∀ H, y_fr h H [] [] → K0 (some (.int (y_01 true))) H C S) (no : ¬ (n_hasV a (v 128) ∧ n_fre v a.toInt.toNat) → ∀ H, y_fr h H [] [] → K0 (some (.int (y_01 false))) H C S) : aOK s_P X (d + 1) a_m60 0 [some (.ref 3), some (.int a)] [] G C S K0 :=
  c_lookG hr hc e.1 ((y_fe e rfl).trans (hc.1 128 (by decide))) ((y_fe e rfl).trans (hc.1 138 (by decide))) ((y_fe e rfl).trans (hc.1 136 (by decide))) (fun w H f => yes w H (y_sq e f rfl rfl)) (fun w H f => no w H (y_sq e f rfl rfl))
end NLO
end PT33hl
section PT33hm
/-! ===== v11: weights, with what they leave (laid by wip/tools/mk11j.py) ===== -/
/-- told ones besides, all so -/
def c_or1 (g : Nat → Int) (B : Nat) (j : Nat) : Int := if B.testBit j then 1 else g j
/-- those of one that are not in another -/
def c_nt (g m : Nat) : Nat := g &&& (m ^^^ 4294967295)
theorem c_nt_t {g m j : Nat} (g10 : g < 1024) : (c_nt g m).testBit j = true ↔ (g.testBit j = true ∧ m.testBit j = false) := by
  unfold c_nt
  rw [Nat.testBit_and, Nat.testBit_xor, show (4294967295 : Nat) = 2 ^ 32 - 1 by decide, Nat.testBit_two_pow_sub_one, Bool.and_eq_true]
  by_cases z : j < 32
  · rw [decide_eq_true z]
    cases m.testBit j with
    | false => exact ⟨fun q => ⟨q.1, rfl⟩, fun q => ⟨q.1, rfl⟩⟩
    | true => exact ⟨fun q => absurd q.2 (by decide), fun q => absurd q.2 (by decide)⟩
  · have e : g.testBit j = false := Nat.testBit_lt_two_pow (Nat.lt_of_lt_of_le (show g < 2 ^ 10 by omega) (Nat.pow_le_pow_right (by decide) (by omega)))
    rw [e]
    exact ⟨fun q => absurd q.1 (by decide), fun q => absurd q.1 (by decide)⟩
theorem c_ntI {x y : Int32} {g m : Nat} (hg : y.toInt = g) (g10 : g < 1024) (hm : x.toInt = m) (m10 : m < 1024) : (y &&& (x ^^^ Int32.ofInt (-1))).toInt = (c_nt g m : Int) := by
  obtain ⟨h1, h2⟩ := z_nat (x := x) (by omega)
  obtain ⟨g1, g2⟩ := z_nat (x := y) (by omega)
  have e1 : x.toBitVec.toNat = m := by omega
  have e2 : y.toBitVec.toNat = g := by omega
  have h3 : (y &&& (x ^^^ Int32.ofInt (-1))).toBitVec.toNat = c_nt g m := by
    show (y.toBitVec &&& (x.toBitVec ^^^ (Int32.ofInt (-1)).toBitVec)).toNat = _
    rw [BitVec.toNat_and, BitVec.toNat_xor, e1, e2, show (Int32.ofInt (-1)).toBitVec.toNat = 4294967295 by decide]
    rfl
  have h4 : c_nt g m ≤ g := Nat.and_le_left
  exact z_ofnat h3 (by omega)
/-- one bit, as a number -/
theorem c_b1x {w k : Int32} {b o : Nat} (hb : w.toInt = b) (hb2 : b < 1024) (ho : k.toInt = o) (ho2 : o < 10) : (w >>> (k &&& 31)) &&& Int32.ofInt 1 = cond (b.testBit o) (Int32.ofInt 1) (Int32.ofInt 0) := by
  have m := c_b01 hb hb2 ho ho2
  refine Int32.toInt_inj.mp ?_
  rw [m]
  cases b.testBit o <;> decide
section NMO
variable {X : aX} {C S d : Nat} {K0 : Option Value → aH → Nat → Nat → Prop} {h G : aH} {v : Nat → Int32}
theorem c_weighNowWithF (hr : w_hr z_D h) (hc : n_cV h v) (q : n_Qs v h G) {node : Int32} {k : Nat} {s : Bool} (hk : node.toInt = k) (kn : k < (v 128).toInt.toNat) (hK : ∀ (H : aH) (r : Int32), y_fr G H [] [] → r.toInt = n_nwW v k s → K0 (some (.int r)) H C S) : aOK s_P X (d + 3) a_m37 0 [some (.ref 3), some (.int node), some (.int (y_01 s))] [] G C S K0 := by
  obtain ⟨g1, g2, gb⟩ := n_Qs_sn hr hc q
  refine w_go z_hl [] [38] 40 q.1 ?_
  intro x hx _ _
  obtain rfl := y_fi g1 hx
  intro y hy _ _
  obtain rfl := y_fi g2 hy
  intro H hH
  have e : y_fr G H [] [] := y_st (y_rf q.1) hH (by repeat (first | exact w_nil | refine w_cons (Or.inl (y_m rfl)) ?_ | refine w_cons (Or.inr (by assumption)) ?_)) (by repeat (first | exact w_nil | refine w_cons (Or.inl (y_m rfl)) ?_ | refine w_cons (Or.inr (by assumption)) ?_))
  refine c_weighWith (d := d) (s := s) e.1 (c_ws_fr e rfl rfl (n_Qs_ws q)) gb hk kn (fun H3 r f3 hr3 => ⟨fun n e => (by cases e), ?_⟩)
  refine w_go z_hl [] [] 20 f3.1 ?_
  intro H4 h4
  exact hK H4 r (y_st (y_sq e f3 rfl rfl) h4 (by repeat (first | exact w_nil | refine w_cons (Or.inl (y_m rfl)) ?_ | refine w_cons (Or.inr (by assumption)) ?_)) (by repeat (first | exact w_nil | refine w_cons (Or.inl (y_m rfl)) ?_ | refine w_cons (Or.inr (by assumption)) ?_))) hr3
theorem c_weighNowF (hr : w_hr z_D h) (hc : n_cV h v) (q : n_Qs v h G) (hK : ∀ (H : aH) (r : Int32), y_fr G H [] [] → r.toInt = n_now v → K0 (some (.int r)) H C S) : aOK s_P X (d + 2) a_m35 0 [some (.ref 3)] [] G C S K0 := by
  obtain ⟨g1, g2, gb⟩ := n_Qs_sn hr hc q
  refine w_go z_hl [] [36] 40 q.1 ?_
  intro x hx _ _
  obtain rfl := y_fi g1 hx
  intro y hy _ _
  obtain rfl := y_fi g2 hy
  intro H hH
  have e : y_fr G H [] [] := y_st (y_rf q.1) hH (by repeat (first | exact w_nil | refine w_cons (Or.inl (y_m rfl)) ?_ | refine w_cons (Or.inr (by assumption)) ?_)) (by repeat (first | exact w_nil | refine w_cons (Or.inl (y_m rfl)) ?_ | refine w_cons (Or.inr (by assumption)) ?_))
  refine c_weighG (d := d) e.1 (c_ws_fr e rfl rfl (n_Qs_ws q)) gb (fun H3 r f3 hr3 => ⟨fun n e => (by cases e), ?_⟩)
  refine w_go z_hl [] [] 20 f3.1 ?_
  intro H4 h4
  exact hK H4 r (y_st (y_sq e f3 rfl rfl) h4 (by repeat (first | exact w_nil | refine w_cons (Or.inl (y_m rfl)) ?_ | refine w_cons (Or.inr (by assumption)) ?_)) (by repeat (first | exact w_nil | refine w_cons (Or.inl (y_m rfl)) ?_ | refine w_cons (Or.inr (by assumption)) ?_))) hr3
theorem c_gb_or {F G b : Int32} {n B : Nat} {g : Nat → Int} (hg : c_gb F G n g) (n10 : n ≤ 10) (hb : b.toInt = B) (B2 : B < 2 ^ n) (nc : ∀ j, j < n → B.testBit j = true → g j ≠ 0) : c_gb (F ||| b) (G ||| b) n (c_or1 g B) := by
  obtain ⟨⟨p1, p2⟩, ⟨p3, p4⟩, p5⟩ := hg
  have pw : 2 ^ n ≤ 2 ^ 10 := n_p2 n10
  obtain ⟨o1, o2⟩ := c_orN (x := F) (n := F.toInt.toNat) (by omega) hb (by omega) (by omega)
  obtain ⟨o3, o4⟩ := c_orN (x := G) (n := G.toInt.toNat) (by omega) hb (by omega) (by omega)
  have l1 : F.toInt.toNat ||| B < 2 ^ n := Nat.or_lt_two_pow (by omega) B2
  have l2 : G.toInt.toNat ||| B < 2 ^ n := Nat.or_lt_two_pow (by omega) B2
  refine ⟨⟨by omega, by omega⟩, ⟨by omega, by omega⟩, fun j hj => ?_⟩
  obtain ⟨u1, u2, u3, u4⟩ := p5 j hj
  rw [show (F ||| b).toInt.toNat = F.toInt.toNat ||| B by omega, show (G ||| b).toInt.toNat = G.toInt.toNat ||| B by omega, Nat.testBit_or, Nat.testBit_or, u1, u2]
  unfold c_or1
  cases z : B.testBit j with
  | true =>
    rw [if_pos rfl, Bool.or_true, Bool.or_true]
    exact ⟨rfl, rfl, by decide, by decide⟩
  | false =>
    rw [if_neg (by decide), Bool.or_false, Bool.or_false]
    exact ⟨rfl, rfl, u3, u4⟩
/-- now, and told ones so -/
noncomputable def n_aSo (v : Nat → Int32) (B : Nat) : Int := @ite Int (∀ j, j < (v 128).toInt.toNat → B.testBit j = true → n_sg v j ≠ 0) (Classical.propDecidable _) (c_T (n_W v) (v 128).toInt.toNat (c_or1 (n_sg v) B)) 0
theorem c_allSo (hr : w_hr z_D h) (hc : n_cV h v) (q : n_Qs v h G) {b : Int32} {B : Nat} (hb : b.toInt = B) (B2 : B < 2 ^ (v 128).toInt.toNat) (hK : ∀ (H : aH) (r : Int32), y_fr G H [] [] → r.toInt = n_aSo v B → K0 (some (.int r)) H C S) : aOK s_P X (d + 2) a_m56 0 [some (.ref 3), some (.int b)] [] G C S K0 := by
  obtain ⟨g1, g2, gb⟩ := n_Qs_sn hr hc q
  obtain ⟨-, -, -, -, n10, -⟩ := id (n_Qs_ws q)
  have pw : 2 ^ (v 128).toInt.toNat ≤ 2 ^ 10 := n_p2 n10
  obtain ⟨⟨p1, p2⟩, ⟨p3, p4⟩, p5⟩ := id gb
  have an := c_and (x := v 138) (y := b) (n := (v 138).toInt.toNat) (m := B) (by omega) hb
  have al : (v 138).toInt.toNat &&& B ≤ B := Nat.and_le_right
  have nt := c_ntI (x := v 139) (y := v 138 &&& b) (g := (v 138).toInt.toNat &&& B) (m := (v 139).toInt.toNat) an (by omega) (by omega) (by omega)
  have nz : c_nt ((v 138).toInt.toNat &&& B) (v 139).toInt.toNat = 0 ↔ ∀ j, j < (v 128).toInt.toNat → B.testBit j = true → n_sg v j ≠ 0 := by
    constructor
    · intro z j hj hB w
      obtain ⟨u1, u2, -⟩ := p5 j hj
      have : (c_nt ((v 138).toInt.toNat &&& B) (v 139).toInt.toNat).testBit j = true := (c_nt_t (by omega)).mpr ⟨by
        rw [Nat.testBit_and, u1, hB, decide_eq_true (show 0 ≤ n_sg v j by omega)]
        rfl, by
        rw [u2]
        exact decide_eq_false (by omega)⟩
      rw [z, Nat.zero_testBit] at this
      cases this
    · intro z
      refine Nat.eq_of_testBit_eq (fun j => ?_)
      rw [Nat.zero_testBit]
      cases y : (c_nt ((v 138).toInt.toNat &&& B) (v 139).toInt.toNat).testBit j with
      | false => rfl
      | true =>
        obtain ⟨w1, w2⟩ := (c_nt_t (by omega)).mp y
        rw [Nat.testBit_and, Bool.and_eq_true] at w1
        by_cases hj : j < (v 128).toInt.toNat
        · obtain ⟨u1, u2, u3, u4⟩ := p5 j hj
          rw [u1] at w1
          rw [u2] at w2
          have k1 := of_decide_eq_true w1.1
          have k2 := of_decide_eq_false w2
          exact absurd (show n_sg v j = 0 by omega) (z j hj w1.2)
        · rw [n_tb0 p1 p2 (by omega)] at w1
          exact absurd w1.1 (by decide)
  have T36 : ∀ {J : aH} {r : Int32}, y_fr G J [] [] → r.toInt = n_aSo v B → aOK s_P X (d + 2) a_m56 36 [some (.ref 3), some (.int b)] [.int r] J C S K0 := by
    intro J r e hr3
    refine w_go z_hl [] [] 10 e.1 ?_
    exact fun H hH => hK H r (y_st e hH (by repeat (first | exact w_nil | refine w_cons (Or.inl (y_m rfl)) ?_ | refine w_cons (Or.inr (by assumption)) ?_)) (by repeat (first | exact w_nil | refine w_cons (Or.inl (y_m rfl)) ?_ | refine w_cons (Or.inr (by assumption)) ?_))) hr3
  refine w_go z_hl [36] [36] 60 q.1 ?_
  intro x hx _ _
  obtain rfl := y_fi g1 hx
  intro y hy _ _
  obtain rfl := y_fi g2 hy
  refine ⟨fun z => fun H hH => ?_, fun z => fun H hH => ?_⟩
  · have z1 : (v 138 &&& b &&& (v 139 ^^^ Int32.ofInt (-1))).toInt = (0 : Int32).toInt := (y_ci .eq _ _).mp z
    have z2 : (v 138 &&& b &&& (v 139 ^^^ Int32.ofInt (-1))).toInt = 0 := z1
    have z3 := nz.mp (by omega)
    have e : y_fr G H [] [] := y_st (y_rf q.1) hH (by repeat (first | exact w_nil | refine w_cons (Or.inl (y_m rfl)) ?_ | refine w_cons (Or.inr (by assumption)) ?_)) (by repeat (first | exact w_nil | refine w_cons (Or.inl (y_m rfl)) ?_ | refine w_cons (Or.inr (by assumption)) ?_))
    refine c_weighG (d := d) e.1 (c_ws_fr e rfl rfl (n_Qs_ws q)) (c_gb_or gb n10 hb B2 z3) (fun H3 r f3 hr3 => ⟨fun n e => (by cases e), ?_⟩)
    refine T36 (y_sq e f3 rfl rfl) ?_
    rw [hr3]
    exact (@if_pos _ (Classical.propDecidable _) z3 _ _ _).symm
  · have z1 : ¬ ((v 138 &&& b &&& (v 139 ^^^ Int32.ofInt (-1))).toInt = (0 : Int32).toInt) := y_cif z
    refine T36 (y_st (y_rf q.1) hH (by repeat (first | exact w_nil | refine w_cons (Or.inl (y_m rfl)) ?_ | refine w_cons (Or.inr (by assumption)) ?_)) (by repeat (first | exact w_nil | refine w_cons (Or.inl (y_m rfl)) ?_ | refine w_cons (Or.inr (by assumption)) ?_))) ?_
    have z3 : ¬ ∀ j, j < (v 128).toInt.toNat → B.testBit j = true → n_sg v j ≠ 0 := fun w => z1 (by
      rw [nt, nz.mpr w]
      decide)
    rw [show n_aSo v B = 0 from @if_neg _ (Classical.propDecidable _) z3 _ _ _]
    decide
end NMO
end PT33hm
section PT33hn
/-! ===== v12: how far a claim would be moved, exactly (laid by wip/tools/mk12b.py) ===== -/
noncomputable def n_A (v : Nat → Int32) (c u : Nat) (s : Bool) : Int := if n_sg v c = 0 then 0 else c_T (n_W v) (v 128).toInt.toNat (c_up (c_up (n_sg v) c 1) u (c_01 s))
noncomputable def n_wv (v : Nat → Int32) (c u : Nat) : Nat := 2 * (n_A v c u true * n_now v - n_nwW v c true * n_nwW v u true).natAbs
theorem n_TW_f {f g : Nat → Int} {n k : Nat} {x : Int} (h : ¬ (0 ≤ g k ∧ g k ≠ x)) : c_TW f n g k x = c_T f n (c_up g k x) := if_neg h
theorem n_c01 {s : Bool} : c_01 s = 0 ∨ c_01 s = 1 := by cases s <;> decide
section NW2
variable {v : Nat → Int32} {c u : Nat}
theorem n_A_s (cn : c < (v 128).toInt.toNat) (un : u < (v 128).toInt.toNat) (cu : u ≠ c) (g0 : -1 ≤ n_sg v c) (g1 : n_sg v c ≤ 1) (gu : n_sg v u = -1) : n_A v c u true + n_A v c u false = n_nwW v c true := by
  unfold n_A n_nwW
  by_cases z : n_sg v c = 0
  · rw [if_pos z, if_pos z]
    unfold c_TW
    rw [if_pos ⟨by omega, by rw [z]; decide⟩]
    rfl
  · rw [if_neg z, if_neg z, n_TW_f (fun w => by have := w.2; have : n_sg v c ≠ 1 := this; omega)]
    have uc : c_up (n_sg v) c (c_01 true) u = -1 := by rw [c_upo cu]; exact gu
    have sp := c_T_sp (f := n_W v) (g := c_up (n_sg v) c (c_01 true)) un (by rw [uc]; decide) (by rw [uc]; decide)
    rw [n_TW_f (fun w => by have := w.1; rw [uc] at this; omega), n_TW_f (fun w => by have := w.1; rw [uc] at this; omega)] at sp
    exact sp.symm
theorem n_A_b {s : Bool} (f0 : ∀ i, i < 2 ^ (v 128).toInt.toNat → 0 ≤ n_W v i) (cn : c < (v 128).toInt.toNat) (un : u < (v 128).toInt.toNat) (cu : u ≠ c) (g0 : -1 ≤ n_sg v c) (g1 : n_sg v c ≤ 1) (gu : n_sg v u = -1) : 0 ≤ n_A v c u s ∧ n_A v c u s ≤ n_nwW v u s := by
  unfold n_A
  by_cases z : n_sg v c = 0
  · rw [if_pos z]
    exact ⟨by decide, (c_TW_b f0).1⟩
  · rw [if_neg z]
    refine ⟨(c_T_b f0).1, ?_⟩
    unfold n_nwW
    rw [n_TW_f (fun w => by have := w.1; omega)]
    have uc : c_up (n_sg v) u (c_01 s) c = n_sg v c := c_upo (fun w => cu w.symm)
    have sp := c_T_sp (f := n_W v) (g := c_up (n_sg v) u (c_01 s)) cn (by rw [uc]; exact g0) (by rw [uc]; exact g1)
    have p0 := (c_TW_b (n := (v 128).toInt.toNat) (g := c_up (n_sg v) u (c_01 s)) (k := c) (x := 0) f0).1
    rw [n_TW_f (x := 1) (fun w => by have w1 := w.1; have w2 := w.2; rw [uc] at w1 w2; omega)] at sp
    have e : c_T (n_W v) (v 128).toInt.toNat (c_up (c_up (n_sg v) c 1) u (c_01 s)) = c_T (n_W v) (v 128).toInt.toNat (c_up (c_up (n_sg v) u (c_01 s)) c 1) := c_T_c (fun _ _ => rfl) (fun j _ => by
      by_cases j1 : j = u
      · rw [j1, c_upk, c_upo cu, c_upk]
      · by_cases j2 : j = c
        · rw [j2, c_upo (fun w => cu w.symm), c_upk, c_upk]
        · rw [c_upo j1, c_upo j2, c_upo j2, c_upo j1])
    rw [e]
    omega
/-- either answer moves as far -/
theorem n_term {s : Bool} (f0 : ∀ i, i < 2 ^ (v 128).toInt.toNat → 0 ≤ n_W v i) (cn : c < (v 128).toInt.toNat) (un : u < (v 128).toInt.toNat) (cu : u ≠ c) (g0 : -1 ≤ n_sg v c) (g1 : n_sg v c ≤ 1) (gu : n_sg v u = -1) : (n_A v c u s * n_now v - n_nwW v c true * n_nwW v u s).natAbs = (n_A v c u true * n_now v - n_nwW v c true * n_nwW v u true).natAbs ∧ (n_nwW v u s = 0 → (n_A v c u true * n_now v - n_nwW v c true * n_nwW v u true).natAbs = 0) := by
  have a1 := n_A_s cn un cu g0 g1 gu
  obtain ⟨sp, sp1, sp0⟩ := n_now_sp f0 un (by omega) (by omega)
  have b := n_A_b (s := s) f0 cn un cu g0 g1 gu
  have e : (n_A v c u s * n_now v - n_nwW v c true * n_nwW v u s).natAbs = (n_A v c u true * n_now v - n_nwW v c true * n_nwW v u true).natAbs := by
    cases s with
    | true => rfl
    | false =>
      have e1 : n_A v c u false = n_nwW v c true - n_A v c u true := by omega
      have e2 : n_nwW v u false = n_now v - n_nwW v u true := by omega
      have e3 : n_A v c u false * n_now v = n_nwW v c true * n_now v - n_A v c u true * n_now v := by rw [e1, Int.sub_mul]
      have e4 : n_nwW v c true * n_nwW v u false = n_nwW v c true * n_now v - n_nwW v c true * n_nwW v u true := by rw [e2, Int.mul_sub]
      rw [e3, e4]
      omega
  refine ⟨e, fun z => ?_⟩
  rw [← e, z, show n_A v c u s = 0 by omega, Int.zero_mul, Int.mul_zero]
  rfl
/-- what the class weighs: both so -/
theorem n_aSo_A (cn : c < (v 128).toInt.toNat) (un : u < (v 128).toInt.toNat) (cu : u ≠ c) (gu : n_sg v u = -1) : n_aSo v (2 ^ c ||| 2 ^ u) = n_A v c u true := by
  have tb : ∀ j, (2 ^ c ||| 2 ^ u).testBit j = (decide (c = j) || decide (u = j)) := fun j => by rw [Nat.testBit_or, Nat.testBit_two_pow, Nat.testBit_two_pow]
  unfold n_A n_aSo
  by_cases z : n_sg v c = 0
  · rw [if_pos z]
    exact @if_neg _ (Classical.propDecidable _) (fun w => w c cn (by rw [tb, decide_eq_true rfl, Bool.true_or]) z) _ _ _
  · rw [if_neg z]
    refine (@if_pos _ (Classical.propDecidable _) (fun j hj hB => ?_) _ _ _).trans (c_T_c (fun _ _ => rfl) (fun j _ => ?_))
    · rw [tb, Bool.or_eq_true, decide_eq_true_eq, decide_eq_true_eq] at hB
      rcases hB with rfl | rfl
      · exact z
      · rw [gu]
        decide
    · unfold c_or1
      rw [tb]
      by_cases j1 : u = j
      · rw [decide_eq_true j1, Bool.or_true, if_pos rfl, ← j1, c_upk]
        rfl
      · by_cases j2 : c = j
        · rw [decide_eq_true j2, Bool.true_or, if_pos rfl, ← j2, c_upo (fun w => cu w.symm), c_upk]
        · rw [decide_eq_false j1, decide_eq_false j2, if_neg (by decide), c_upo (fun w => j1 w.symm), c_upo (fun w => j2 w.symm)]
/-- what the reference weighs: the claim so, and one answer -/
theorem f_both {sa : List Int32} {wl : List Int64} {a b : Int32} {P Q : Nat} {s : Bool} (n10 : (v 128).toInt.toNat ≤ 10) (hf : ∀ i, i < 2 ^ (v 128).toInt.toNat → (wl.getD i 0).toInt = n_W v i) (ha : a.toInt = P) (hb : b.toInt = Q) (cn : c < (v 128).toInt.toNat) (un : u < (v 128).toInt.toNat) (cu : u ≠ c) (g1 : n_sg v c ≤ 1) (g0 : -1 ≤ n_sg v c) (gu : n_sg v u = -1)
    (hP : ∀ j, P.testBit j = true ↔ (j < (v 128).toInt.toNat ∧ n_sg v j = 1) ∨ j = c ∨ (s = true ∧ j = u)) (hQ : ∀ j, Q.testBit j = true ↔ (j < (v 128).toInt.toNat ∧ n_sg v j = 0) ∨ (s = false ∧ j = u)) : y_ws wl a b (2 ^ (v 128).toInt.toNat) = n_A v c u s := by
  unfold n_A
  by_cases z : n_sg v c = 0
  · rw [if_pos z]
    exact y_ws_0 (j := c) ha hb n10 ((hP c).mpr (Or.inr (Or.inl rfl))) ((hQ c).mpr (Or.inl ⟨cn, z⟩))
  · rw [if_neg z]
    have at1 : ∀ j, j ≠ u → j ≠ c → c_up (c_up (n_sg v) c 1) u (c_01 s) j = n_sg v j := fun j h1 h2 => by rw [c_upo h1, c_upo h2]
    have atc : c_up (c_up (n_sg v) c 1) u (c_01 s) c = 1 := by rw [c_upo (fun w => cu w.symm), c_upk]
    have atu : c_up (c_up (n_sg v) c 1) u (c_01 s) u = c_01 s := c_upk
    refine y_ws_T ha hb n10 (fun j => ?_) (fun j => ?_) hf
    · rw [hP]
      by_cases j1 : j = u
      · rw [j1, atu]
        cases s with
        | true => exact ⟨fun _ => ⟨un, rfl⟩, fun _ => Or.inr (Or.inr ⟨rfl, rfl⟩)⟩
        | false =>
          refine ⟨fun w => ?_, fun w => absurd w.2 (by decide)⟩
          rcases w with w | w | w
          · have := w.2; omega
          · exact absurd w cu
          · exact absurd w.1 (by decide)
      · by_cases j2 : j = c
        · rw [j2, atc]
          exact ⟨fun _ => ⟨cn, rfl⟩, fun _ => Or.inr (Or.inl rfl)⟩
        · rw [at1 j j1 j2]
          refine ⟨fun w => ?_, fun w => Or.inl w⟩
          rcases w with w | w | w
          · exact w
          · exact absurd w j2
          · exact absurd w.2 j1
    · rw [hQ]
      by_cases j1 : j = u
      · rw [j1, atu]
        cases s with
        | true =>
          refine ⟨fun w => ?_, fun w => absurd w.2 (by decide)⟩
          rcases w with w | w
          · have := w.2; omega
          · exact absurd w.1 (by decide)
        | false => exact ⟨fun _ => ⟨un, rfl⟩, fun _ => Or.inr ⟨rfl, rfl⟩⟩
      · by_cases j2 : j = c
        · rw [j2, atc]
          refine ⟨fun w => ?_, fun w => absurd w.2 (by decide)⟩
          rcases w with w | w
          · exact absurd w.2 z
          · exact absurd w.2 (fun w => cu w.symm)
        · rw [at1 j j1 j2]
          refine ⟨fun w => ?_, fun w => Or.inl w⟩
          rcases w with w | w
          · exact w
          · exact absurd w.2 j1
end NW2
section NW3
variable {X : aX} {C S d : Nat} {K0 : Option Value → aH → Nat → Nat → Prop} {h : aH} {v : Nat → Int32} {sa : List Int32} {wl : List Int64}
noncomputable abbrev n_DD (v : Nat → Int32) (c u : Nat) : Nat := (n_A v c u true * n_now v - n_nwW v c true * n_nwW v u true).natAbs
theorem f_worth_loop {cl no : Int32} {c u : Nat} (hcl : cl.toInt = c) (hno : no.toInt = u) (cn : c < (v 128).toInt.toNat) (un : u < (v 128).toInt.toNat) (cu : u ≠ c) (gu : n_sg v u = -1) {whole wi : Int64} (hwh : whole.toInt = n_now v) (w0 : 0 ≤ whole.toInt) (w8 : whole.toInt ≤ 100000000) (hwi : wi.toInt = n_nwW v c true) (v0 : 0 ≤ wi.toInt) (v8 : wi.toInt ≤ 100000000) : ∀ (m : Nat) (h : aH) (sum : Int64) (kI : Int32) (k : Nat) (o10 o12 : Option Value), f_wc h v sa wl → kI.toInt = k → k + m = 2 → sum.toInt = ((k * n_DD v c u : Nat) : Int) → (∀ (r : Int64) (H : aH), y_fr h H [] [] → r.toInt = ((2 * n_DD v c u : Nat) : Int) → K0 (some (.long r)) H C S) → aOK s_P X (d + 3) a_m205 20 [some (.ref 155), some (.int cl), some (.int no), some (.long sum), none, some (.long whole), none, some (.long wi), none, some (.int kI), o10, none, o12, none] [] h C S K0 := by
  intro m
  induction m with
  | zero =>
    intro h sum kI k o10 o12 s hk hm s0 hK
    refine w_go z_hl [20] [] 30 s.1.1 ?_
    refine ⟨fun _ => fun H hH => hK sum H (y_st (y_rf s.1.1) hH (by repeat (first | exact w_nil | refine w_cons (Or.inl (y_m rfl)) ?_ | refine w_cons (Or.inr (by assumption)) ?_)) (by repeat (first | exact w_nil | refine w_cons (Or.inl (y_m rfl)) ?_ | refine w_cons (Or.inr (by assumption)) ?_))) (by rw [s0, show k = 2 by omega]), fun q => ?_⟩
    have q2 : ¬ ((Int32.ofInt 2).toInt ≤ kI.toInt) := y_cif q
    rw [show (Int32.ofInt 2).toInt = 2 by decide] at q2
    omega
  | succ m ih =>
    intro h sum kI k o10 o12 s hk hm s0 hK
    have f0 := f_wc_0 s
    obtain ⟨gc0, gc1⟩ := s.2.2.1 c cn
    have n10 := s.2.2.2.2.2
    have ink : (kI + Int32.ofInt 1).toInt = ((k + 1 : Nat) : Int) := by rw [y_inc (by omega), hk]; rfl
    have D16 : (n_DD v c u : Int) ≤ 10000000000000000 := by
      have b1 := n_A_b (s := true) f0 cn un cu gc0 gc1 gu
      obtain ⟨sp, sp1, sp0⟩ := n_now_sp f0 un (by omega) (by omega)
      have p1 := y_p8 b1.1 (by omega) (show 0 ≤ n_now v by omega) (by omega)
      have p2 := y_p8 (show 0 ≤ n_nwW v c true by omega) (by omega) sp1 (by omega)
      unfold n_DD
      omega
    have next : ∀ {G : aH} {x of bo : Int64}, y_fr h G [] [] → x.toInt = (n_DD v c u : Int) → aOK s_P X (d + 3) a_m205 118 [some (.ref 155), some (.int cl), some (.int no), some (.long sum), none, some (.long whole), none, some (.long wi), none, some (.int kI), some (.long of), none, some (.long bo), none] [.long x, .long sum] G C S K0 := by
      intro G x of bo e hx
      have k2 : k ≤ 1 := by omega
      have sb : (k : Int) * (n_DD v c u : Int) ≤ 10000000000000000 := by
        rcases (show k = 0 ∨ k = 1 by omega) with rfl | rfl
        · rw [show ((0 : Nat) : Int) = 0 from rfl, Int.zero_mul]
          decide
        · rw [show ((1 : Nat) : Int) = 1 from rfl, Int.one_mul]
          exact D16
      have s1 : sum.toInt = (k : Int) * (n_DD v c u : Int) := by rw [s0, Int.natCast_mul]
      have sn : 0 ≤ sum.toInt := by rw [s0]; omega
      have ad : (sum + x).toInt = sum.toInt + x.toInt := y_add (by omega) (by omega)
      refine w_go z_hl [20] [] 30 e.1 ?_
      intro H hH
      have e2 := y_st e hH (by repeat (first | exact w_nil | refine w_cons (Or.inl (y_m rfl)) ?_ | refine w_cons (Or.inr (by assumption)) ?_)) (by repeat (first | exact w_nil | refine w_cons (Or.inl (y_m rfl)) ?_ | refine w_cons (Or.inr (by assumption)) ?_))
      refine ih H _ _ (k + 1) _ _ (f_wc_fr s e2 rfl rfl rfl) ink (by omega) ?_ (fun r H' f r0 => hK r H' (y_sq e2 f rfl rfl) r0)
      show (sum + x).toInt = _
      rw [ad, s0, hx, Nat.add_mul, Nat.one_mul, Int.natCast_add]
    have T90 : ∀ {G : aH} {of bo : Int64} {b : Bool}, y_fr h G [] [] → of.toInt = n_nwW v u b → 0 ≤ of.toInt → of.toInt ≤ 100000000 → bo.toInt = n_A v c u b → aOK s_P X (d + 3) a_m205 90 [some (.ref 155), some (.int cl), some (.int no), some (.long sum), none, some (.long whole), none, some (.long wi), none, some (.int kI), some (.long of), none, o12, none] [.long bo] G C S K0 := by
      intro G of bo b e ho o0 o8 hb
      obtain ⟨tm, tz⟩ := n_term (s := b) f0 cn un cu gc0 gc1 gu
      have bb := n_A_b (s := b) f0 cn un cu gc0 gc1 gu
      have b0 : 0 ≤ bo.toInt := by omega
      have b8 : bo.toInt ≤ 100000000 := by omega
      have m1 := y_m8 b0 b8 w0 w8
      have m2 := y_m8 v0 v8 o0 o8
      have p1 := y_p8 b0 b8 w0 w8
      have p2 := y_p8 v0 v8 o0 o8
      have sb : (bo * whole - wi * of).toInt = bo.toInt * whole.toInt - wi.toInt * of.toInt := by
        rw [y_lsub (by rw [m1, m2]; omega) (by rw [m1, m2]; omega), m1, m2]
      have sD : (bo * whole - wi * of).toInt.natAbs = n_DD v c u := by
        rw [sb, hb, hwh, hwi, ho]
        exact tm
      have ng : (bo * whole - wi * of).toInt ≤ 0 → (-(bo * whole - wi * of)).toInt = -(bo * whole - wi * of).toInt := fun _ => by
        rw [Int64.toInt_neg]
        exact Int.bmod_eq_of_le (by omega) (by omega)
      refine w_go z_hl [118] [] 30 e.1 ?_
      refine ⟨fun _ => ⟨fun q => fun H hH => ?_, fun q => fun H hH => ?_⟩, fun q => fun H hH => next (y_st e hH (by repeat (first | exact w_nil | refine w_cons (Or.inl (y_m rfl)) ?_ | refine w_cons (Or.inr (by assumption)) ?_)) (by repeat (first | exact w_nil | refine w_cons (Or.inl (y_m rfl)) ?_ | refine w_cons (Or.inr (by assumption)) ?_))) ?_⟩
      · have q2 : (Int64.ofNat 0).toInt ≤ (bo * whole - wi * of).toInt := (y_cl .ge _ _).mp q
        rw [show (Int64.ofNat 0).toInt = 0 by decide] at q2
        exact next (y_st e hH (by repeat (first | exact w_nil | refine w_cons (Or.inl (y_m rfl)) ?_ | refine w_cons (Or.inr (by assumption)) ?_)) (by repeat (first | exact w_nil | refine w_cons (Or.inl (y_m rfl)) ?_ | refine w_cons (Or.inr (by assumption)) ?_))) (by omega)
      · have q2 : ¬ ((Int64.ofNat 0).toInt ≤ (bo * whole - wi * of).toInt) := y_clf q
        rw [show (Int64.ofNat 0).toInt = 0 by decide] at q2
        have := ng (by omega)
        exact next (y_st e hH (by repeat (first | exact w_nil | refine w_cons (Or.inl (y_m rfl)) ?_ | refine w_cons (Or.inr (by assumption)) ?_)) (by repeat (first | exact w_nil | refine w_cons (Or.inl (y_m rfl)) ?_ | refine w_cons (Or.inr (by assumption)) ?_))) (by omega)
      · have q2 : ¬ (of.toInt ≠ (Int64.ofNat 0).toInt) := y_clf q
        have q3 : of.toInt = 0 := Decidable.not_not.mp q2
        have := tz (by omega)
        exact (show (Int64.ofNat 0).toInt = 0 by decide).trans (show (0 : Int) = ((n_A v c u true * n_now v - n_nwW v c true * n_nwW v u true).natAbs : Int) by omega)
    have T87 : ∀ {G : aH} {of : Int64} {a b : Int32} {P Q : Nat} {z : Bool}, y_fr h G [] [] → of.toInt = n_nwW v u z → 0 ≤ of.toInt → of.toInt ≤ 100000000 → a.toInt = P → b.toInt = Q → (∀ j, P.testBit j = true ↔ (j < (v 128).toInt.toNat ∧ n_sg v j = 1) ∨ j = c ∨ (z = true ∧ j = u)) → (∀ j, Q.testBit j = true ↔ (j < (v 128).toInt.toNat ∧ n_sg v j = 0) ∨ (z = false ∧ j = u)) → aOK s_P X (d + 3) a_m205 87 [some (.ref 155), some (.int cl), some (.int no), some (.long sum), none, some (.long whole), none, some (.long wi), none, some (.int kI), some (.long of), none, o12, none] [.int b, .int a, .ref 155] G C S K0 := by
      intro G of a b P Q z e ho o0 o8 ha hb hP hQ
      refine w_go z_hl [] [193] 30 e.1 ?_
      intro H hH
      have e2 := y_st e hH (by repeat (first | exact w_nil | refine w_cons (Or.inl (y_m rfl)) ?_ | refine w_cons (Or.inr (by assumption)) ?_)) (by repeat (first | exact w_nil | refine w_cons (Or.inl (y_m rfl)) ?_ | refine w_cons (Or.inr (by assumption)) ?_))
      have s2 := f_wc_fr s e2 rfl rfl rfl
      refine aOK_deep (d := d + 1) (by omega) (y_weighs s2.1.1 s2.1.2.1 s2.1.2.2.2 (fun r H2 e3 r0 => ⟨fun n e => (by cases e), ?_⟩))
      refine T90 (b := z) (y_sq e2 e3 rfl rfl) ho o0 o8 ?_
      rw [r0]
      exact f_both (sa := sa) n10 s.2.2.2.1 ha hb cn un cu gc1 gc0 gu hP hQ
    have sh : ∀ {x : Int32} {k : Nat}, x.toInt = k → k < (v 128).toInt.toNat → (Int32.ofInt 1 <<< (x &&& 31)).toInt = ((2 ^ k : Nat) : Int) ∧ 2 ^ k < 1024 := by
      intro x k hx kn
      exact ⟨c_shlN hx (by omega), Nat.lt_of_lt_of_le (Nat.pow_lt_pow_right (by decide) (show k < 10 by omega)) (by decide)⟩
    have T74 : ∀ {G : aH} {of : Int64} {a b : Int32} {P : Nat} {z : Bool}, y_fr h G [] [] → of.toInt = n_nwW v u z → 0 ≤ of.toInt → of.toInt ≤ 100000000 → a.toInt = P → (∀ j, P.testBit j = true ↔ (j < (v 128).toInt.toNat ∧ n_sg v j = 1) ∨ j = c ∨ (z = true ∧ j = u)) → b = y_bits (y_pN sa (Int32.ofInt (-1))) (v 128).toInt.toNat → (z = true ↔ k = 1) → aOK s_P X (d + 3) a_m205 74 [some (.ref 155), some (.int cl), some (.int no), some (.long sum), none, some (.long whole), none, some (.long wi), none, some (.int kI), some (.long of), none, o12, none] [.int b, .int a, .ref 155] G C S K0 := by
      intro G of a b P z e ho o0 o8 ha hP hb hz
      obtain ⟨B, y1, y2, y3⟩ := y_bits_N (p := y_pN sa (Int32.ofInt (-1))) n10
      have hB : ∀ j, B.testBit j = true ↔ (j < (v 128).toInt.toNat ∧ n_sg v j = 0) := fun j => by
        rw [y3 j, Bool.and_eq_true, decide_eq_true_eq]
        constructor
        · intro w
          have w2 := (y_pN_i s.2.1 w.1).mp w.2
          rw [n_bu_n] at w2
          exact ⟨w.1, w2⟩
        · intro w
          exact ⟨w.1, (y_pN_i s.2.1 w.1).mpr (by rw [n_bu_n]; exact w.2)⟩
      refine w_go z_hl [87] [] 30 e.1 ?_
      refine ⟨fun q => fun H hH => ?_, fun q => fun H hH => ?_⟩
      · have q2 : kI.toInt ≠ (0 : Int32).toInt := (y_ci .ne _ _).mp q
        have q3 : kI.toInt ≠ 0 := q2
        have zt : z = true := hz.mpr (by omega)
        obtain ⟨o1, o2⟩ := c_orN (x := b) (y := Int32.ofInt 0) (n := B) (m := 0) (by rw [hb]; exact y1) (by decide) y2 (by decide)
        refine T87 (Q := B ||| 0) (y_st e hH (by repeat (first | exact w_nil | refine w_cons (Or.inl (y_m rfl)) ?_ | refine w_cons (Or.inr (by assumption)) ?_)) (by repeat (first | exact w_nil | refine w_cons (Or.inl (y_m rfl)) ?_ | refine w_cons (Or.inr (by assumption)) ?_))) ho o0 o8 ha o1 hP (fun j => ?_)
        rw [Nat.or_zero, hB, zt]
        exact ⟨fun w => Or.inl w, fun w => w.elim id (fun w => absurd w.1 (by decide))⟩
      · have q2 : ¬ (kI.toInt ≠ (0 : Int32).toInt) := y_cif q
        have q3 : kI.toInt = 0 := Decidable.not_not.mp q2
        have zf : z = false := by
          cases z with
          | false => rfl
          | true => exact absurd (hz.mp rfl) (by omega)
        obtain ⟨h1, h2⟩ := sh hno un
        obtain ⟨o1, o2⟩ := c_orN (x := b) (n := B) (by rw [hb]; exact y1) h1 y2 h2
        refine T87 (Q := B ||| 2 ^ u) (y_st e hH (by repeat (first | exact w_nil | refine w_cons (Or.inl (y_m rfl)) ?_ | refine w_cons (Or.inr (by assumption)) ?_)) (by repeat (first | exact w_nil | refine w_cons (Or.inl (y_m rfl)) ?_ | refine w_cons (Or.inr (by assumption)) ?_))) ho o0 o8 ha o1 hP (fun j => ?_)
        rw [Nat.testBit_or, Nat.testBit_two_pow, Bool.or_eq_true, hB, decide_eq_true_eq, zf]
        exact ⟨fun w => w.elim Or.inl (fun w => Or.inr ⟨rfl, w.symm⟩), fun w => w.elim Or.inl (fun w => Or.inr w.2.symm)⟩
    have T68 : ∀ {G : aH} {of : Int64} {a x : Int32} {P : Nat} {z : Bool}, y_fr h G [] [] → of.toInt = n_nwW v u z → 0 ≤ of.toInt → of.toInt ≤ 100000000 → (a ||| x).toInt = P → (∀ j, P.testBit j = true ↔ (j < (v 128).toInt.toNat ∧ n_sg v j = 1) ∨ j = c ∨ (z = true ∧ j = u)) → (z = true ↔ k = 1) → aOK s_P X (d + 3) a_m205 68 [some (.ref 155), some (.int cl), some (.int no), some (.long sum), none, some (.long whole), none, some (.long wi), none, some (.int kI), some (.long of), none, o12, none] [.int x, .int a, .ref 155] G C S K0 := by
      intro G of a x P z e ho o0 o8 ha hP hz
      refine w_go z_hl [] [192] 30 e.1 ?_
      intro H hH
      have e2 := y_st e hH (by repeat (first | exact w_nil | refine w_cons (Or.inl (y_m rfl)) ?_ | refine w_cons (Or.inr (by assumption)) ?_)) (by repeat (first | exact w_nil | refine w_cons (Or.inl (y_m rfl)) ?_ | refine w_cons (Or.inr (by assumption)) ?_))
      have s2 := f_wc_fr s e2 rfl rfl rfl
      refine y_seenNot s2.1.1 s2.1.2.1 s2.1.2.2.1 (fun H2 e3 => ⟨fun n e => (by cases e), ?_⟩)
      exact T74 (y_sq e2 e3 rfl rfl) ho o0 o8 ha hP rfl hz
    have T51 : ∀ {G : aH} {of : Int64} {a : Int32} {z : Bool}, y_fr h G [] [] → of.toInt = n_nwW v u z → 0 ≤ of.toInt → of.toInt ≤ 100000000 → a = y_bits (y_pS sa (Int32.ofInt (-1))) (v 128).toInt.toNat → (z = true ↔ k = 1) → aOK s_P X (d + 3) a_m205 51 [some (.ref 155), some (.int cl), some (.int no), some (.long sum), none, some (.long whole), none, some (.long wi), none, some (.int kI), some (.long of), none, o12, none] [.int a, .ref 155] G C S K0 := by
      intro G of a z e ho o0 o8 ha hz
      obtain ⟨A, y1, y2, y3⟩ := y_bits_N (p := y_pS sa (Int32.ofInt (-1))) n10
      have hA : ∀ j, A.testBit j = true ↔ (j < (v 128).toInt.toNat ∧ n_sg v j = 1) := fun j => by
        rw [y3 j, Bool.and_eq_true, decide_eq_true_eq]
        constructor
        · intro w
          have w2 := (y_pS_i s.2.1 w.1).mp w.2
          rw [n_bu_n] at w2
          exact ⟨w.1, w2⟩
        · intro w
          exact ⟨w.1, (y_pS_i s.2.1 w.1).mpr (by rw [n_bu_n]; exact w.2)⟩
      obtain ⟨h1, h2⟩ := sh hcl cn
      obtain ⟨o1, o2⟩ := c_orN (x := a) (n := A) (by rw [ha]; exact y1) h1 y2 h2
      refine w_go z_hl [68] [] 30 e.1 ?_
      refine ⟨fun q => fun H hH => ?_, fun q => fun H hH => ?_⟩
      · have q2 : kI.toInt ≠ (Int32.ofInt 1).toInt := (y_ci .ne _ _).mp q
        have q3 : kI.toInt ≠ 1 := q2
        have zf : z = false := by
          cases z with
          | false => rfl
          | true => exact absurd (hz.mp rfl) (by omega)
        obtain ⟨o3, o4⟩ := c_orN (x := a ||| Int32.ofInt 1 <<< (cl &&& 31)) (y := Int32.ofInt 0) (m := 0) o1 (by decide) o2 (by decide)
        refine T68 (y_st e hH (by repeat (first | exact w_nil | refine w_cons (Or.inl (y_m rfl)) ?_ | refine w_cons (Or.inr (by assumption)) ?_)) (by repeat (first | exact w_nil | refine w_cons (Or.inl (y_m rfl)) ?_ | refine w_cons (Or.inr (by assumption)) ?_))) ho o0 o8 o3 (fun j => ?_) hz
        rw [Nat.or_zero, Nat.testBit_or, Nat.testBit_two_pow, Bool.or_eq_true, hA, decide_eq_true_eq, zf]
        exact ⟨fun w => w.elim Or.inl (fun w => Or.inr (Or.inl w.symm)), fun w => w.elim Or.inl (fun w => w.elim (fun w => Or.inr w.symm) (fun w => absurd w.1 (by decide)))⟩
      · have q2 : ¬ (kI.toInt ≠ (Int32.ofInt 1).toInt) := y_cif q
        have q3 : kI.toInt = 1 := Decidable.not_not.mp q2
        have zt : z = true := hz.mpr (by omega)
        obtain ⟨h3, h4⟩ := sh hno un
        obtain ⟨o3, o4⟩ := c_orN (x := a ||| Int32.ofInt 1 <<< (cl &&& 31)) o1 h3 o2 h4
        refine T68 (y_st e hH (by repeat (first | exact w_nil | refine w_cons (Or.inl (y_m rfl)) ?_ | refine w_cons (Or.inr (by assumption)) ?_)) (by repeat (first | exact w_nil | refine w_cons (Or.inl (y_m rfl)) ?_ | refine w_cons (Or.inr (by assumption)) ?_))) ho o0 o8 o3 (fun j => ?_) hz
        rw [Nat.testBit_or, Nat.testBit_or, Nat.testBit_two_pow, Nat.testBit_two_pow, Bool.or_eq_true, Bool.or_eq_true, hA, decide_eq_true_eq, decide_eq_true_eq, zt]
        exact ⟨fun w => w.elim (fun w => w.elim Or.inl (fun w => Or.inr (Or.inl w.symm))) (fun w => Or.inr (Or.inr ⟨rfl, w.symm⟩)), fun w => w.elim (fun w => Or.inl (Or.inl w)) (fun w => w.elim (fun w => Or.inl (Or.inr w.symm)) (fun w => Or.inr w.2.symm))⟩
    have T43 : ∀ {G : aH} {of : Int64} {z : Bool}, y_fr h G [] [] → of.toInt = n_nwW v u z → 0 ≤ of.toInt → of.toInt ≤ 100000000 → (z = true ↔ k = 1) → aOK s_P X (d + 3) a_m205 43 [some (.ref 155), some (.int cl), some (.int no), some (.long sum), none, some (.long whole), none, some (.long wi), none, some (.int kI), o10, none, o12, none] [.long of] G C S K0 := by
      intro G of z e ho o0 o8 hz
      refine w_go z_hl [] [191] 30 e.1 ?_
      intro H hH
      have e2 := y_st e hH (by repeat (first | exact w_nil | refine w_cons (Or.inl (y_m rfl)) ?_ | refine w_cons (Or.inr (by assumption)) ?_)) (by repeat (first | exact w_nil | refine w_cons (Or.inl (y_m rfl)) ?_ | refine w_cons (Or.inr (by assumption)) ?_))
      have s2 := f_wc_fr s e2 rfl rfl rfl
      refine y_seenSo s2.1.1 s2.1.2.1 s2.1.2.2.1 (fun H2 e3 => ⟨fun n e => (by cases e), ?_⟩)
      exact T51 (y_sq e2 e3 rfl rfl) ho o0 o8 rfl hz
    have T39 : ∀ {G : aH} {z : Bool}, y_fr h G [] [] → (z = true ↔ k = 1) → aOK s_P X (d + 3) a_m205 39 [some (.ref 155), some (.int cl), some (.int no), some (.long sum), none, some (.long whole), none, some (.long wi), none, some (.int kI), o10, none, o12, none] [.int (y_01 z), .int no, .ref 155] G C S K0 := by
      intro G z e hz
      refine w_go z_hl [] [190] 30 e.1 ?_
      intro H hH
      have e2 := y_st e hH (by repeat (first | exact w_nil | refine w_cons (Or.inl (y_m rfl)) ?_ | refine w_cons (Or.inr (by assumption)) ?_)) (by repeat (first | exact w_nil | refine w_cons (Or.inl (y_m rfl)) ?_ | refine w_cons (Or.inr (by assumption)) ?_))
      refine r_nowWith (b := z) (f_wc_fr s e2 rfl rfl rfl) hno un (fun r H2 e3 r0 r8 hv => ⟨fun n e => (by cases e), ?_⟩)
      exact T43 (y_sq e2 e3 rfl rfl) hv r0 r8 hz
    have e0 : y_fr h h [] [] := y_rf s.1.1
    refine w_go z_hl [20, 39] [] 30 s.1.1 ?_
    refine ⟨fun q => ?_, fun _ => ⟨fun q => fun H hH => T39 (z := false) (y_st e0 hH (by repeat (first | exact w_nil | refine w_cons (Or.inl (y_m rfl)) ?_ | refine w_cons (Or.inr (by assumption)) ?_)) (by repeat (first | exact w_nil | refine w_cons (Or.inl (y_m rfl)) ?_ | refine w_cons (Or.inr (by assumption)) ?_))) ⟨fun w => (by cases w), fun w => ?_⟩, fun q => fun H hH => T39 (z := true) (y_st e0 hH (by repeat (first | exact w_nil | refine w_cons (Or.inl (y_m rfl)) ?_ | refine w_cons (Or.inr (by assumption)) ?_)) (by repeat (first | exact w_nil | refine w_cons (Or.inl (y_m rfl)) ?_ | refine w_cons (Or.inr (by assumption)) ?_))) ⟨fun _ => ?_, fun _ => rfl⟩⟩⟩
    · have q2 : (Int32.ofInt 2).toInt ≤ kI.toInt := (y_ci .ge _ _).mp q
      rw [show (Int32.ofInt 2).toInt = 2 by decide] at q2
      omega
    · have q2 : kI.toInt ≠ (Int32.ofInt 1).toInt := (y_ci .ne _ _).mp q
      have q3 : kI.toInt ≠ 1 := q2
      omega
    · have q2 : ¬ (kI.toInt ≠ (Int32.ofInt 1).toInt) := y_cif q
      have q3 : kI.toInt = 1 := Decidable.not_not.mp q2
      omega
theorem f_worthOf (s : f_wc h v sa wl) {cl no : Int32} {c u : Nat} (hcl : cl.toInt = c) (hno : no.toInt = u) (cn : c < (v 128).toInt.toNat) (un : u < (v 128).toInt.toNat) (cu : u ≠ c) (gu : n_sg v u = -1) (hK : ∀ (r : Int64) (H : aH), y_fr h H [] [] → r.toInt = (n_wv v c u : Nat) → K0 (some (.long r)) H C S) : aOK s_P X (d + 4) a_m205 0 [some (.ref 155), some (.int cl), some (.int no), none, none, none, none, none, none, none, none, none, none, none] [] h C S K0 := by
  have T15 : ∀ {G : aH} {whole wi : Int64}, y_fr h G [] [] → whole.toInt = n_now v → 0 ≤ whole.toInt → whole.toInt ≤ 100000000 → wi.toInt = n_nwW v c true → 0 ≤ wi.toInt → wi.toInt ≤ 100000000 → aOK s_P X (d + 4) a_m205 15 [some (.ref 155), some (.int cl), some (.int no), some (.long (Int64.ofNat 0)), none, some (.long whole), none, none, none, none, none, none, none, none] [.long wi] G C S K0 := by
    intro G whole wi e hw w0 w8 hv v0 v8
    refine w_go z_hl [20] [] 30 e.1 ?_
    intro H hH
    have e2 := y_st e hH (by repeat (first | exact w_nil | refine w_cons (Or.inl (y_m rfl)) ?_ | refine w_cons (Or.inr (by assumption)) ?_)) (by repeat (first | exact w_nil | refine w_cons (Or.inl (y_m rfl)) ?_ | refine w_cons (Or.inr (by assumption)) ?_))
    exact aOK_deep (d := d + 3) (by omega) (f_worth_loop hcl hno cn un cu gu hw w0 w8 hv v0 v8 2 H _ _ 0 _ _ (f_wc_fr s e2 rfl rfl rfl) rfl rfl (by rw [Nat.zero_mul]; decide) (fun r H' f r0 => hK r H' (y_sq e2 f rfl rfl) r0))
  have T6 : ∀ {G : aH} {whole : Int64}, y_fr h G [] [] → whole.toInt = n_now v → 0 ≤ whole.toInt → whole.toInt ≤ 100000000 → aOK s_P X (d + 4) a_m205 6 [some (.ref 155), some (.int cl), some (.int no), some (.long (Int64.ofNat 0)), none, none, none, none, none, none, none, none, none, none] [.long whole] G C S K0 := by
    intro G whole e hw w0 w8
    refine w_go z_hl [] [190] 30 e.1 ?_
    intro H hH
    have e2 := y_st e hH (by repeat (first | exact w_nil | refine w_cons (Or.inl (y_m rfl)) ?_ | refine w_cons (Or.inr (by assumption)) ?_)) (by repeat (first | exact w_nil | refine w_cons (Or.inl (y_m rfl)) ?_ | refine w_cons (Or.inr (by assumption)) ?_))
    refine aOK_deep (d := d + 2) (by omega) (r_nowWith (b := true) (f_wc_fr s e2 rfl rfl rfl) hcl cn (fun r H2 e3 r0 r8 hv => ⟨fun n e => (by cases e), ?_⟩))
    exact T15 (y_sq e2 e3 rfl rfl) hw w0 w8 hv r0 r8
  refine w_go z_hl [] [189] 30 s.1.1 ?_
  intro H hH
  have e : y_fr h H [] [] := y_st (y_rf s.1.1) hH (by repeat (first | exact w_nil | refine w_cons (Or.inl (y_m rfl)) ?_ | refine w_cons (Or.inr (by assumption)) ?_)) (by repeat (first | exact w_nil | refine w_cons (Or.inl (y_m rfl)) ?_ | refine w_cons (Or.inr (by assumption)) ?_))
  refine r_now (f_wc_fr s e rfl rfl rfl) (fun r H2 e3 r0 r8 hv => ⟨fun n e => (by cases e), ?_⟩)
  exact T6 (y_sq e e3 rfl rfl) hv r0 r8
end NW3
end PT33hn
section PT33ho
/-! ===== v12: need (laid by wip/tools/mk12c.py) ===== -/
noncomputable def n_nb (v : Nat → Int32) (P : List Int32) (c : Nat) : Nat → Int
  | 0 => -1
  | k + 1 => if (k ≠ c ∧ n_fre v k) ∧ (n_nb v P c k < 0 ∨ n_wv v c (n_nb v P c k).toNat * y_Nn P k < n_wv v c k * y_Nn P (n_nb v P c k).toNat) then (k : Int) else n_nb v P c k
theorem n_nb_y {v : Nat → Int32} {P : List Int32} {c k : Nat} (h : (k ≠ c ∧ n_fre v k) ∧ (n_nb v P c k < 0 ∨ n_wv v c (n_nb v P c k).toNat * y_Nn P k < n_wv v c k * y_Nn P (n_nb v P c k).toNat)) : n_nb v P c (k + 1) = k := if_pos h
theorem n_nb_n {v : Nat → Int32} {P : List Int32} {c k : Nat} (h : ¬ ((k ≠ c ∧ n_fre v k) ∧ (n_nb v P c k < 0 ∨ n_wv v c (n_nb v P c k).toNat * y_Nn P k < n_wv v c k * y_Nn P (n_nb v P c k).toNat))) : n_nb v P c (k + 1) = n_nb v P c k := if_neg h
theorem n_nb_b {v : Nat → Int32} {P : List Int32} {c : Nat} : ∀ k, -1 ≤ n_nb v P c k ∧ n_nb v P c k < k := by
  intro k
  induction k with
  | zero => exact ⟨by show (-1 : Int) ≤ -1; omega, by show (-1 : Int) < ((0 : Nat) : Int); omega⟩
  | succ k ih =>
    by_cases z : (k ≠ c ∧ n_fre v k) ∧ (n_nb v P c k < 0 ∨ n_wv v c (n_nb v P c k).toNat * y_Nn P k < n_wv v c k * y_Nn P (n_nb v P c k).toNat)
    · rw [n_nb_y z]
      omega
    · rw [n_nb_n z]
      omega
theorem n_nb_e {v : Nat → Int32} {P : List Int32} {c : Nat} : ∀ k, 0 ≤ n_nb v P c k ↔ ∃ u, u < k ∧ u ≠ c ∧ n_fre v u := by
  intro k
  induction k with
  | zero => exact ⟨fun w => absurd (show (0 : Int) ≤ -1 from w) (by decide), fun ⟨u, w, _⟩ => absurd w (Nat.not_lt_zero u)⟩
  | succ k ih =>
    by_cases z : (k ≠ c ∧ n_fre v k) ∧ (n_nb v P c k < 0 ∨ n_wv v c (n_nb v P c k).toNat * y_Nn P k < n_wv v c k * y_Nn P (n_nb v P c k).toNat)
    · rw [n_nb_y z]
      exact ⟨fun _ => ⟨k, by omega, z.1.1, z.1.2⟩, fun _ => by omega⟩
    · rw [n_nb_n z]
      constructor
      · intro w
        obtain ⟨u, u1, u2⟩ := ih.mp w
        exact ⟨u, by omega, u2⟩
      · rintro ⟨u, u1, u2⟩
        by_cases e : u = k
        · rw [e] at u2
          by_cases y : n_nb v P c k < 0
          · exact absurd ⟨u2, Or.inl y⟩ z
          · omega
        · exact ih.mpr ⟨u, by omega, u2⟩
section NND
variable {X : aX} {C S d : Nat} {K0 : Option Value → aH → Nat → Nat → Prop} {h G : aH} {v : Nat → Int32}
theorem c_tell2 (q : n_Qs v h G) (hK : ∀ H, n_Qs v h H → K0 none H C S) : aOK s_P X (d + 2) a_m42 0 [some (.ref 12), some (.ref 154)] [] G C S K0 := n_boxv [] (z_x26_s (y_jx_l y_JA_x)) rfl rfl rfl q.1 q.2.1 n_B0 (fun q hq => by cases hq) (by decide) rfl (by decide +kernel) (fun H' r1 r2 r3 => hK H' (n_Qs_z q r1 r2 r3 (by decide) (by decide)))
theorem n_Qs_k (hr : w_hr z_D h) (hc : n_cV h v) (q : n_Qs v h G) : w_f G 128 = some (.int (v 128)) ∧ w_f G 138 = some (.int (v 138)) ∧ w_f G 136 = some (.int (v 136)) := by
  obtain ⟨lc, lo, wl, fr, q8, -⟩ := id q.2.2.2.1
  exact ⟨q8.1.1, (n_Qs_sn hr hc q).1, q8.1.2.1⟩
/-- whether another may be looked at: the class -/
theorem c_beside (hr : w_hr z_D h) (hc : n_cV h v) (e : y_fr h G [] []) {a : Int32} (hv : n_hasV a (v 128)) (yes : (∃ u, u < (v 128).toInt.toNat ∧ u ≠ a.toInt.toNat ∧ n_fre v u) → ∀ H, y_fr h H [] [] → K0 (some (.int (y_01 true))) H C S) (no : ¬ (∃ u, u < (v 128).toInt.toNat ∧ u ≠ a.toInt.toNat ∧ n_fre v u) → ∀ H, y_fr h H [] [] → K0 (some (.int (y_01 false))) H C S) : aOK s_P X d a_m59 0 [some (.ref 3), some (.int a), none] [] G C S K0 := by
  have b0 := n_bd (lo := 0) (hi := 10) hr (hc.1 128 (by decide)) rfl
  obtain ⟨v1, v2⟩ := id hv
  obtain ⟨⟨p1, p2⟩, -, p3⟩ := id hc.2.2.2.2.2.2.2.2.2.2.2.2.1
  obtain ⟨⟨⟨r1, r2⟩, -, r3⟩, -⟩ := id hc.2.2.2.2.2.2.2.2.2.1
  have pw : 2 ^ (v 128).toInt.toNat ≤ 2 ^ 10 := n_p2 (by omega)
  have p0 : 1 ≤ 2 ^ (v 128).toInt.toNat := Nat.one_le_two_pow
  obtain ⟨w1, w2, w3⟩ := y_all b0.1 b0.2
  have w4 : y_ways (v 128) = 2 ^ (v 128).toInt.toNat := rfl
  obtain ⟨o1, o2⟩ := c_orN (x := v 138) (y := v 136) (n := (v 138).toInt.toNat) (m := (v 136).toInt.toNat) (by omega) (by omega) (by omega) (by omega)
  have h1 := c_shlN (x := a) (n := a.toInt.toNat) (by omega) (by omega)
  have h2 : 2 ^ a.toInt.toNat < 1024 := Nat.lt_of_lt_of_le (Nat.pow_lt_pow_right (by decide) (show a.toInt.toNat < 10 by omega)) (by decide)
  obtain ⟨o3, o4⟩ := c_orN o1 h1 o2 h2
  have nt := c_ntI (x := v 138 ||| v 136 ||| Int32.ofInt 1 <<< (a &&& 31)) (y := Int32.ofInt 1 <<< (v 128 &&& 31) - Int32.ofInt 1) (g := 2 ^ (v 128).toInt.toNat - 1) (by omega) (by omega) o3 o4
  have tb : ∀ j, (c_nt (2 ^ (v 128).toInt.toNat - 1) ((v 138).toInt.toNat ||| (v 136).toInt.toNat ||| 2 ^ a.toInt.toNat)).testBit j = true ↔ j < (v 128).toInt.toNat ∧ j ≠ a.toInt.toNat ∧ n_fre v j := by
    intro j
    rw [c_nt_t (by omega), Nat.testBit_two_pow_sub_one, decide_eq_true_eq]
    constructor
    · intro ⟨j1, j2⟩
      rw [Nat.testBit_or, Nat.testBit_or, Nat.testBit_two_pow, (p3 j (by omega)).1, (r3 j (by omega)).1, Bool.or_eq_false_iff, Bool.or_eq_false_iff, decide_eq_false_iff_not, decide_eq_false_iff_not, decide_eq_false_iff_not] at j2
      exact ⟨j1, fun w => j2.2 w.symm, Int.not_le.mp j2.1.1, Int.not_le.mp j2.1.2⟩
    · intro ⟨j1, j2, j3⟩
      refine ⟨j1, ?_⟩
      rw [Nat.testBit_or, Nat.testBit_or, Nat.testBit_two_pow, (p3 j (by omega)).1, (r3 j (by omega)).1, Bool.or_eq_false_iff, Bool.or_eq_false_iff, decide_eq_false_iff_not, decide_eq_false_iff_not, decide_eq_false_iff_not]
      exact ⟨⟨Int.not_le.mpr j3.1, Int.not_le.mpr j3.2⟩, fun w => j2 w.symm⟩
  refine w_go z_hl [] [] 60 e.1 ?_
  intro x hx _ _
  obtain rfl := y_fi ((y_fe e rfl).trans (hc.1 128 (by decide))) hx
  intro x hx _ _
  obtain rfl := y_fi ((y_fe e rfl).trans (hc.1 138 (by decide))) hx
  intro x hx _ _
  obtain rfl := y_fi ((y_fe e rfl).trans (hc.1 136 (by decide))) hx
  refine ⟨fun z => ⟨by decide, fun H hH => no ?_ H (y_st e hH (by repeat (first | exact w_nil | refine w_cons (Or.inl (y_m rfl)) ?_ | refine w_cons (Or.inr (by assumption)) ?_)) (by repeat (first | exact w_nil | refine w_cons (Or.inl (y_m rfl)) ?_ | refine w_cons (Or.inr (by assumption)) ?_)))⟩, fun z => ⟨by decide, fun H hH => yes ?_ H (y_st e hH (by repeat (first | exact w_nil | refine w_cons (Or.inl (y_m rfl)) ?_ | refine w_cons (Or.inr (by assumption)) ?_)) (by repeat (first | exact w_nil | refine w_cons (Or.inl (y_m rfl)) ?_ | refine w_cons (Or.inr (by assumption)) ?_)))⟩⟩
  · have z1 : ((Int32.ofInt 1 <<< (v 128 &&& 31) - Int32.ofInt 1) &&& ((v 138 ||| v 136 ||| Int32.ofInt 1 <<< (a &&& 31)) ^^^ Int32.ofInt (-1))).toInt = (0 : Int32).toInt := (y_ci .eq _ _).mp z
    have z2 : ((Int32.ofInt 1 <<< (v 128 &&& 31) - Int32.ofInt 1) &&& ((v 138 ||| v 136 ||| Int32.ofInt 1 <<< (a &&& 31)) ^^^ Int32.ofInt (-1))).toInt = 0 := z1
    rintro ⟨u, hu⟩
    have w := (tb u).mpr hu
    rw [show c_nt (2 ^ (v 128).toInt.toNat - 1) ((v 138).toInt.toNat ||| (v 136).toInt.toNat ||| 2 ^ a.toInt.toNat) = 0 by omega, Nat.zero_testBit] at w
    cases w
  · have z1 : ¬ (((Int32.ofInt 1 <<< (v 128 &&& 31) - Int32.ofInt 1) &&& ((v 138 ||| v 136 ||| Int32.ofInt 1 <<< (a &&& 31)) ^^^ Int32.ofInt (-1))).toInt = (0 : Int32).toInt) := y_cif z
    refine Classical.byContradiction (fun y => z1 ?_)
    have w : c_nt (2 ^ (v 128).toInt.toNat - 1) ((v 138).toInt.toNat ||| (v 136).toInt.toNat ||| 2 ^ a.toInt.toNat) = 0 := Nat.eq_of_testBit_eq (fun j => by
      rw [Nat.zero_testBit]
      cases q : (c_nt (2 ^ (v 128).toInt.toNat - 1) ((v 138).toInt.toNat ||| (v 136).toInt.toNat ||| 2 ^ a.toInt.toNat)).testBit j with
      | false => rfl
      | true => exact absurd ⟨j, (tb j).mp q⟩ y)
    rw [nt, w]
    decide
/-- the class's worth by a price -/
theorem c_putW (hr : w_hr z_D h) (hc : n_cV h v) (q : n_Qs v h G) {a b c : Int32} {A B : Nat} (ha : a.toInt = A) (hb : b.toInt = B) (An : A < (v 128).toInt.toNat) (Bn : B < (v 128).toInt.toNat) (ab : B ≠ A) (gu : n_sg v B = -1) (c1 : 1 ≤ c.toInt) (c9 : c.toInt ≤ 99) (nz : 1 ≤ n_now v) (hK : ∀ (H : aH) (u l : Int64) (g : Nat), n_Qs v h H → y_fr G H [19328, 19329] [] → w_f H 19328 = some (.long u) → w_f H 19329 = some (.long l) → 1 ≤ g → 0 ≤ u.toInt → 1 ≤ l.toInt → u.toInt * g = (n_wv v A B : Nat) → l.toInt * g = n_now v * n_now v * c.toInt → K0 none H C S) : aOK s_P X (d + 4) a_m55 0 [some (.ref 3), some (.int a), some (.int b), some (.int c), some (.ref 153), none, none, none, none, none, none, none, none, none] [] G C S K0 := by
  obtain ⟨g1, g2, gb⟩ := n_Qs_sn hr hc q
  obtain ⟨-, -, -, -, n10, -, -, w0, w8⟩ := id (n_Qs_ws q)
  have f0 : ∀ i, i < 2 ^ (v 128).toInt.toNat → 0 ≤ n_W v i := fun i _ => w0 i
  have gc := gb.2.2 A An
  have nb := c_T_b (n := (v 128).toInt.toNat) (g := n_sg v) f0
  have nb0 : 0 ≤ n_now v := nb.1
  have nb8 : n_now v ≤ 100000000 := Int.le_trans nb.2 w8
  have cb := c_TW_b (n := (v 128).toInt.toNat) (g := n_sg v) (k := A) (x := c_01 true) f0
  have cb0 : 0 ≤ n_nwW v A true := cb.1
  have cb8 : n_nwW v A true ≤ 100000000 := Int.le_trans cb.2 w8
  have ob := c_TW_b (n := (v 128).toInt.toNat) (g := n_sg v) (k := B) (x := c_01 true) f0
  have ob0 : 0 ≤ n_nwW v B true := ob.1
  have ob8 : n_nwW v B true ≤ 100000000 := Int.le_trans ob.2 w8
  have ub := n_A_b (s := true) f0 An Bn ab gc.2.2.1 gc.2.2.2 gu
  have pT := y_p8 nb0 nb8 nb0 nb8
  have p1 := y_p8 ub.1 (by omega) nb0 nb8
  have p2 := y_p8 cb0 cb8 ob0 ob8
  have T74 : ∀ {H : aH} {u l : Int64} {g : Nat} {ls : aL}, n_Qs v h H → y_fr G H [19328, 19329] [] → w_f H 19328 = some (.long u) → w_f H 19329 = some (.long l) → 1 ≤ g → 0 ≤ u.toInt → 1 ≤ l.toInt → u.toInt * g = (n_wv v A B : Nat) → l.toInt * g = n_now v * n_now v * c.toInt → aOK s_P X (d + 4) a_m55 74 ls [] H C S K0 := by
    intro H u l g ls q e k1 k2 k3 k4 k5 k6 k7
    refine w_go z_hl [] [] 10 q.1 ?_
    intro H2 h2
    have f : y_fr H H2 [] [] := y_st (y_rf q.1) h2 (by repeat (first | exact w_nil | refine w_cons (Or.inl (y_m rfl)) ?_ | refine w_cons (Or.inr (by assumption)) ?_)) (by repeat (first | exact w_nil | refine w_cons (Or.inl (y_m rfl)) ?_ | refine w_cons (Or.inr (by assumption)) ?_))
    exact hK H2 u l g (n_Qs_y q f) (y_sq e f rfl rfl) ((y_fe f rfl).trans k1) ((y_fe f rfl).trans k2) k3 k4 k5 k6 k7
  have T62 : ∀ {H : aH} {x5 x7 x9 x12 x : Int64} {x11 : Int32}, y_fr G H [] [] → x5.toInt = n_now v → x.toInt = (n_DD v A B : Nat) → aOK s_P X (d + 4) a_m55 62 [some (.ref 3), some (.int a), some (.int b), some (.int c), some (.ref 153), some (.long x5), none, some (.long x7), none, some (.long x9), none, some (.int x11), some (.long x12), none] [.long x, .long (Int64.ofInt 2), .ref 153] H C S K0 := by
    intro H x5 x7 x9 x12 x x11 e h5 hx
    have x16 : x.toInt ≤ 10000000000000000 := by
      rw [hx]
      show (((n_A v A B true * n_now v - n_nwW v A true * n_nwW v B true).natAbs : Nat) : Int) ≤ _
      omega
    have x00 : 0 ≤ x.toInt := by omega
    have t2 : (Int64.ofInt 2).toInt = 2 := y_i64 (by decide) (by decide)
    have m0 : (Int64.ofInt 2 * x).toInt = 2 * x.toInt := by rw [y_mul (by rw [t2]; omega) (by rw [t2]; omega), t2]
    have m1 : (x5 * x5).toInt = n_now v * n_now v := by rw [y_m8 (by omega) (by omega) (by omega) (by omega), h5]
    have u1 : 1 ≤ n_now v * n_now v := Int.mul_pos (by omega) (by omega)
    have u2 : 1 ≤ n_now v * n_now v * c.toInt := Int.mul_pos (by omega) (by omega)
    have u3 : n_now v * n_now v * c.toInt ≤ 10000000000000000 * 99 := Int.mul_le_mul pT.2 c9 (by omega) (by decide)
    have m2 : (x5 * x5 * c.toInt64).toInt = n_now v * n_now v * c.toInt := by rw [y_mul (by rw [m1, y_i2l]; omega) (by rw [m1, y_i2l]; omega), m1, y_i2l]
    refine w_go z_hl [] [39] 40 e.1 ?_
    intro H2 h2
    have f : y_fr H H2 [] [] := y_st (y_rf e.1) h2 (by repeat (first | exact w_nil | refine w_cons (Or.inl (y_m rfl)) ?_ | refine w_cons (Or.inr (by assumption)) ?_)) (by repeat (first | exact w_nil | refine w_cons (Or.inl (y_m rfl)) ?_ | refine w_cons (Or.inr (by assumption)) ?_))
    have e2 := y_sq e f rfl rfl
    refine c_put153 (d := d + 2) (n := Int64.ofInt 2 * x) (m := x5 * x5 * c.toInt64) f.1 (by omega) (by omega) (fun g u l H3 hg g1 hu hl l1 f3 k1 k2 => ⟨fun n e => (by cases e), ?_⟩)
    rw [m0] at hu hg
    rw [m2] at hl hg
    have gd1 : (g : Int) ∣ 2 * x.toInt := Int.dvd_natAbs.mp (Int.natCast_dvd_natCast.mpr (by rw [hg]; exact Nat.gcd_dvd_left _ _))
    have gd2 : (g : Int) ∣ n_now v * n_now v * c.toInt := Int.dvd_natAbs.mp (Int.natCast_dvd_natCast.mpr (by rw [hg]; exact Nat.gcd_dvd_right _ _))
    have hu2 : u.toInt = 2 * x.toInt / g := by rw [hu, Int.tdiv_eq_ediv_of_nonneg (by omega)]
    refine T74 (n_Qs_w (n_Qs_y q e2) f3 rfl rfl rfl rfl rfl rfl) (y_sq (y_mo e2 rfl rfl) f3 rfl rfl) k1 k2 g1 ?_ l1 ?_ ?_
    · rw [hu2]
      exact Int.ediv_nonneg (by omega) (by omega)
    · rw [hu2, Int.ediv_mul_cancel gd1, hx]
      unfold n_wv
      rw [Int.natCast_mul]
      rfl
    · rw [hl, Int.ediv_mul_cancel gd2]
  have T40 : ∀ {H : aH} {x5 x7 x9 : Int64} {r x11 : Int32}, y_fr G H [] [] → x5.toInt = n_now v → x7.toInt = n_nwW v A true → x9.toInt = n_nwW v B true → r.toInt = n_A v A B true → aOK s_P X (d + 4) a_m55 40 [some (.ref 3), some (.int a), some (.int b), some (.int c), some (.ref 153), some (.long x5), none, some (.long x7), none, some (.long x9), none, some (.int x11), none, none] [.int r] H C S K0 := by
    intro H x5 x7 x9 r x11 e h5 h7 h9 hr4
    have r8 : r.toInt64.toInt = n_A v A B true := by rw [y_i2l]; exact hr4
    have m1 := y_m8 (a := r.toInt64) (b := x5) (by omega) (by omega) (by omega) (by omega)
    have m2 := y_m8 (a := x7) (b := x9) (by omega) (by omega) (by omega) (by omega)
    rw [r8, h5] at m1
    rw [h7, h9] at m2
    have sb : (r.toInt64 * x5 - x7 * x9).toInt = n_A v A B true * n_now v - n_nwW v A true * n_nwW v B true := by
      rw [y_lsub (by rw [m1, m2]; omega) (by rw [m1, m2]; omega), m1, m2]
    have ng : (r.toInt64 * x5 - x7 * x9).toInt ≤ 0 → (-(r.toInt64 * x5 - x7 * x9)).toInt = -(r.toInt64 * x5 - x7 * x9).toInt := fun _ => by
      rw [Int64.toInt_neg]
      exact Int.bmod_eq_of_le (by omega) (by omega)
    refine w_go z_hl [62] [] 40 e.1 ?_
    refine ⟨fun k => fun H2 h2 => T62 (y_st e h2 (by repeat (first | exact w_nil | refine w_cons (Or.inl (y_m rfl)) ?_ | refine w_cons (Or.inr (by assumption)) ?_)) (by repeat (first | exact w_nil | refine w_cons (Or.inl (y_m rfl)) ?_ | refine w_cons (Or.inr (by assumption)) ?_))) h5 ?_, fun k => fun H2 h2 => T62 (y_st e h2 (by repeat (first | exact w_nil | refine w_cons (Or.inl (y_m rfl)) ?_ | refine w_cons (Or.inr (by assumption)) ?_)) (by repeat (first | exact w_nil | refine w_cons (Or.inl (y_m rfl)) ?_ | refine w_cons (Or.inr (by assumption)) ?_))) h5 ?_⟩
    · have k2 : (Int64.ofNat 0).toInt ≤ (r.toInt64 * x5 - x7 * x9).toInt := (y_cl .ge _ _).mp k
      rw [show (Int64.ofNat 0).toInt = 0 by decide] at k2
      show _ = (((n_A v A B true * n_now v - n_nwW v A true * n_nwW v B true).natAbs : Nat) : Int)
      omega
    · have k2 : ¬ ((Int64.ofNat 0).toInt ≤ (r.toInt64 * x5 - x7 * x9).toInt) := y_clf k
      rw [show (Int64.ofNat 0).toInt = 0 by decide] at k2
      have := ng (by omega)
      show _ = (((n_A v A B true * n_now v - n_nwW v A true * n_nwW v B true).natAbs : Nat) : Int)
      omega
  have T22 : ∀ {H : aH} {x5 x7 : Int64} {r : Int32}, y_fr G H [] [] → x5.toInt = n_now v → x7.toInt = n_nwW v A true → r.toInt = n_nwW v B true → aOK s_P X (d + 4) a_m55 22 [some (.ref 3), some (.int a), some (.int b), some (.int c), some (.ref 153), some (.long x5), none, some (.long x7), none, none, none, none, none, none] [.int r] H C S K0 := by
    intro H x5 x7 r e h5 h7 hr4
    have r8 : r.toInt64.toInt = n_nwW v B true := by rw [y_i2l]; exact hr4
    have s1 := c_shlN ha (by omega)
    have s2 := c_shlN hb (by omega)
    have l1 : 2 ^ A < 1024 := Nat.lt_of_lt_of_le (Nat.pow_lt_pow_right (by decide) (show A < 10 by omega)) (by decide)
    have l2 : 2 ^ B < 1024 := Nat.lt_of_lt_of_le (Nat.pow_lt_pow_right (by decide) (show B < 10 by omega)) (by decide)
    obtain ⟨o1, o2⟩ := c_orN s1 s2 l1 l2
    refine w_go z_hl [] [56] 40 e.1 ?_
    intro H2 h2
    have f := y_st e h2 (by repeat (first | exact w_nil | refine w_cons (Or.inl (y_m rfl)) ?_ | refine w_cons (Or.inr (by assumption)) ?_)) (by repeat (first | exact w_nil | refine w_cons (Or.inl (y_m rfl)) ?_ | refine w_cons (Or.inr (by assumption)) ?_))
    refine c_allSo (d := d + 1) hr hc (n_Qs_y q f) o1 (Nat.or_lt_two_pow (Nat.pow_lt_pow_right (by decide) An) (Nat.pow_lt_pow_right (by decide) Bn)) (fun H3 r3 f3 hr3 => ⟨fun n e => (by cases e), ?_⟩)
    exact T40 (y_sq f f3 rfl rfl) h5 h7 r8 (by rw [hr3]; exact n_aSo_A An Bn ab gu)
  have T13 : ∀ {H : aH} {x5 : Int64} {r : Int32}, y_fr G H [] [] → x5.toInt = n_now v → r.toInt = n_nwW v A true → aOK s_P X (d + 4) a_m55 13 [some (.ref 3), some (.int a), some (.int b), some (.int c), some (.ref 153), some (.long x5), none, none, none, none, none, none, none, none] [.int r] H C S K0 := by
    intro H x5 r e h5 hr4
    have r8 : r.toInt64.toInt = n_nwW v A true := by rw [y_i2l]; exact hr4
    refine w_go z_hl [] [37] 40 e.1 ?_
    intro H2 h2
    have f := y_st e h2 (by repeat (first | exact w_nil | refine w_cons (Or.inl (y_m rfl)) ?_ | refine w_cons (Or.inr (by assumption)) ?_)) (by repeat (first | exact w_nil | refine w_cons (Or.inl (y_m rfl)) ?_ | refine w_cons (Or.inr (by assumption)) ?_))
    refine c_weighNowWithF (d := d) (s := true) (k := B) hr hc (n_Qs_y q f) hb Bn (fun H3 r3 f3 hr3 => ⟨fun n e => (by cases e), ?_⟩)
    exact T22 (y_sq f f3 rfl rfl) h5 r8 hr3
  have T4 : ∀ {H : aH} {r : Int32}, y_fr G H [] [] → r.toInt = n_now v → aOK s_P X (d + 4) a_m55 4 [some (.ref 3), some (.int a), some (.int b), some (.int c), some (.ref 153), none, none, none, none, none, none, none, none, none] [.int r] H C S K0 := by
    intro H r e hr4
    have r8 : r.toInt64.toInt = n_now v := by rw [y_i2l]; exact hr4
    refine w_go z_hl [] [37] 40 e.1 ?_
    intro H2 h2
    have f := y_st e h2 (by repeat (first | exact w_nil | refine w_cons (Or.inl (y_m rfl)) ?_ | refine w_cons (Or.inr (by assumption)) ?_)) (by repeat (first | exact w_nil | refine w_cons (Or.inl (y_m rfl)) ?_ | refine w_cons (Or.inr (by assumption)) ?_))
    refine c_weighNowWithF (d := d) (s := true) (k := A) hr hc (n_Qs_y q f) ha An (fun H3 r3 f3 hr3 => ⟨fun n e => (by cases e), ?_⟩)
    exact T13 (y_sq f f3 rfl rfl) r8 hr3
  refine w_go z_hl [] [35] 40 q.1 ?_
  intro H2 h2
  have f : y_fr G H2 [] [] := y_st (y_rf q.1) h2 (by repeat (first | exact w_nil | refine w_cons (Or.inl (y_m rfl)) ?_ | refine w_cons (Or.inr (by assumption)) ?_)) (by repeat (first | exact w_nil | refine w_cons (Or.inl (y_m rfl)) ?_ | refine w_cons (Or.inr (by assumption)) ?_))
  refine c_weighNowF (d := d + 1) hr hc (n_Qs_y q f) (fun H3 r3 f3 hr3 => ⟨fun n e => (by cases e), ?_⟩)
  exact T4 (y_sq f f3 rfl rfl) hr3
theorem c_need_loop (hr : w_hr z_D h) (hc : n_cV h v) {a : Int32} {A : Nat} (ha : a.toInt = A) (An : A < (v 128).toInt.toNat) {P : List Int32} (a7 : w_a h 7 = some (0, .inl P)) (pb : ∀ u, u < (v 128).toInt.toNat → 1 ≤ (P.getD u 0).toInt ∧ (P.getD u 0).toInt ≤ 99) (nz : 1 ≤ n_now v) (hK : ∀ (H : aH) (r : Int32), n_Qs v h H → r.toInt = n_nb v P A (v 128).toInt.toNat → K0 (some (.int r)) H C S) : ∀ (t : Nat) (G : aH) (bI kI : Int32) (k : Nat), n_Qs v h G → kI.toInt = k → k + t = (v 128).toInt.toNat → bI.toInt = n_nb v P A k → (0 ≤ bI.toInt → ∃ (cI eI : Int64) (g : Nat), w_f G 19456 = some (.long cI) ∧ w_f G 19457 = some (.long eI) ∧ 1 ≤ g ∧ 0 ≤ cI.toInt ∧ 1 ≤ eI.toInt ∧ cI.toInt * g = (n_wv v A bI.toInt.toNat : Nat) ∧ eI.toInt * g = n_now v * n_now v * (P.getD bI.toInt.toNat 0).toInt) → aOK s_P X (d + 6) a_m58 48 [some (.ref 2), some (.int a), some (.int bI), some (.int kI)] [] G C S K0 := by
  intro t
  induction t with
  | zero =>
    intro G bI kI k q hk hm hb inv
    have T159 : ∀ {G : aH}, n_Qs v h G → aOK s_P X (d + 6) a_m58 159 [some (.ref 2), some (.int a), some (.int bI), some (.int kI)] [] G C S K0 := by
      intro G q
      refine w_go z_hl [] [] 20 q.1 ?_
      exact fun H hH => hK H bI (n_Qs_y q (y_st (y_rf q.1) hH (by repeat (first | exact w_nil | refine w_cons (Or.inl (y_m rfl)) ?_ | refine w_cons (Or.inr (by assumption)) ?_)) (by repeat (first | exact w_nil | refine w_cons (Or.inl (y_m rfl)) ?_ | refine w_cons (Or.inr (by assumption)) ?_)))) (by rw [hb, show k = (v 128).toInt.toNat by omega])
    have T148 : ∀ {G : aH}, n_Qs v h G → aOK s_P X (d + 6) a_m58 148 [some (.ref 2), some (.int a), some (.int bI), some (.int kI)] [] G C S K0 := by
      intro G q
      refine w_go z_hl [] [42] 30 q.1 ?_
      intro H hH
      refine c_tell2 (d := d + 3) (n_Qs_y q (y_st (y_rf q.1) hH (by repeat (first | exact w_nil | refine w_cons (Or.inl (y_m rfl)) ?_ | refine w_cons (Or.inr (by assumption)) ?_)) (by repeat (first | exact w_nil | refine w_cons (Or.inl (y_m rfl)) ?_ | refine w_cons (Or.inr (by assumption)) ?_)))) (fun H3 q3 => ⟨fun n e => (by cases e), ?_⟩)
      exact T159 q3
    obtain ⟨gn, -⟩ := n_Qs_k hr hc q
    refine w_go z_hl [48, 148] [] 30 q.1 ?_
    intro z hz _ _
    obtain rfl := y_fi gn hz
    refine ⟨fun _ => fun H hH => T148 (n_Qs_y q (y_st (y_rf q.1) hH (by repeat (first | exact w_nil | refine w_cons (Or.inl (y_m rfl)) ?_ | refine w_cons (Or.inr (by assumption)) ?_)) (by repeat (first | exact w_nil | refine w_cons (Or.inl (y_m rfl)) ?_ | refine w_cons (Or.inr (by assumption)) ?_)))), fun z => ?_⟩
    have z1 : ¬ ((v 128).toInt ≤ kI.toInt) := y_cif z
    omega
  | succ t ih =>
    intro G bI kI k q hk hm hb inv
    obtain ⟨gn, gs, gf⟩ := n_Qs_k hr hc q
    have b0 := n_bd (lo := 0) (hi := 10) q.1 gn rfl
    obtain ⟨-, -, gb⟩ := n_Qs_sn hr hc q
    have nbb := n_nb_b (v := v) (P := P) (c := A) k
    have kn : k < (v 128).toInt.toNat := by omega
    have ink : (kI + Int32.ofInt 1).toInt = ((k + 1 : Nat) : Int) := by rw [y_inc (by omega), hk]; rfl
    have p7 : ∀ {G : aH}, n_Qs v h G → w_a G 7 = some (0, .inl P) := fun q => (n_da q.2.2.1 rfl rfl).trans a7
    have T142 : ∀ {G : aH} {bI : Int32}, n_Qs v h G → bI.toInt = n_nb v P A (k + 1) → (0 ≤ bI.toInt → ∃ (cI eI : Int64) (g : Nat), w_f G 19456 = some (.long cI) ∧ w_f G 19457 = some (.long eI) ∧ 1 ≤ g ∧ 0 ≤ cI.toInt ∧ 1 ≤ eI.toInt ∧ cI.toInt * g = (n_wv v A bI.toInt.toNat : Nat) ∧ eI.toInt * g = n_now v * n_now v * (P.getD bI.toInt.toNat 0).toInt) → aOK s_P X (d + 6) a_m58 142 [some (.ref 2), some (.int a), some (.int bI), some (.int kI)] [] G C S K0 := by
      intro G bI q hb inv
      refine w_go z_hl [48] [] 20 q.1 ?_
      intro H hH
      have e : y_fr G H [] [] := y_st (y_rf q.1) hH (by repeat (first | exact w_nil | refine w_cons (Or.inl (y_m rfl)) ?_ | refine w_cons (Or.inr (by assumption)) ?_)) (by repeat (first | exact w_nil | refine w_cons (Or.inl (y_m rfl)) ?_ | refine w_cons (Or.inr (by assumption)) ?_))
      refine ih H _ _ (k + 1) (n_Qs_y q e) ink (by omega) hb (fun z => ?_)
      obtain ⟨cI, eI, g, i1, i2, i3⟩ := inv z
      exact ⟨cI, eI, g, (y_fe e rfl).trans i1, (y_fe e rfl).trans i2, i3⟩
    have stay : ∀ {G : aH}, n_Qs v h G → n_nb v P A (k + 1) = n_nb v P A k → (0 ≤ bI.toInt → ∃ (cI eI : Int64) (g : Nat), w_f G 19456 = some (.long cI) ∧ w_f G 19457 = some (.long eI) ∧ 1 ≤ g ∧ 0 ≤ cI.toInt ∧ 1 ≤ eI.toInt ∧ cI.toInt * g = (n_wv v A bI.toInt.toNat : Nat) ∧ eI.toInt * g = n_now v * n_now v * (P.getD bI.toInt.toNat 0).toInt) → aOK s_P X (d + 6) a_m58 142 [some (.ref 2), some (.int a), some (.int bI), some (.int kI)] [] G C S K0 := fun q e inv => T142 q (by rw [e]; exact hb) inv
    have T119 : ∀ {G : aH} {uI lI : Int64} {g : Nat}, n_Qs v h G → n_nb v P A (k + 1) = k → w_f G 19328 = some (.long uI) → w_f G 19329 = some (.long lI) → 1 ≤ g → 0 ≤ uI.toInt → 1 ≤ lI.toInt → uI.toInt * g = (n_wv v A k : Nat) → lI.toInt * g = n_now v * n_now v * (P.getD k 0).toInt → aOK s_P X (d + 6) a_m58 119 [some (.ref 2), some (.int a), some (.int bI), some (.int kI)] [] G C S K0 := by
      intro G uI lI g q e f1 f2 g1 u0 l1 hu hl
      refine w_go z_hl [] [39] 40 q.1 ?_
      intro z hz _ _
      obtain rfl := y_fl f1 hz
      intro z hz _ _
      obtain rfl := y_fl f2 hz
      intro H hH
      have f : y_fr G H [] [] := y_st (y_rf q.1) hH (by repeat (first | exact w_nil | refine w_cons (Or.inl (y_m rfl)) ?_ | refine w_cons (Or.inr (by assumption)) ?_)) (by repeat (first | exact w_nil | refine w_cons (Or.inl (y_m rfl)) ?_ | refine w_cons (Or.inr (by assumption)) ?_))
      refine c_put154 (d := d + 4) (n := uI) (m := lI) f.1 (by omega) l1 (fun g' u l H3 hg' g1' hu' hl' l1' f3 w1 w2 => ⟨fun n e => (by cases e), ?_⟩)
      refine T142 (n_Qs_w (n_Qs_y q f) f3 rfl rfl rfl rfl rfl rfl) (by rw [e]; exact hk) (fun _ => ?_)
      have gd1 : (g' : Int) ∣ uI.toInt := Int.dvd_natAbs.mp (Int.natCast_dvd_natCast.mpr (by rw [hg']; exact Nat.gcd_dvd_left _ _))
      have gd2 : (g' : Int) ∣ lI.toInt := Int.dvd_natAbs.mp (Int.natCast_dvd_natCast.mpr (by rw [hg']; exact Nat.gcd_dvd_right _ _))
      have hu2 : u.toInt = uI.toInt / g' := by rw [hu', Int.tdiv_eq_ediv_of_nonneg (by omega)]
      refine ⟨u, l, g' * g, w1, w2, Nat.mul_pos g1' g1, ?_, l1', ?_, ?_⟩
      · rw [hu2]
        exact Int.ediv_nonneg u0 (by omega)
      · rw [Int.natCast_mul, ← Int.mul_assoc, hu2, Int.ediv_mul_cancel gd1, hu, show kI.toInt.toNat = k by omega]
      · rw [Int.natCast_mul, ← Int.mul_assoc, hl', Int.ediv_mul_cancel gd2, hl, show kI.toInt.toNat = k by omega]
    have T100 : ∀ {G : aH} {uI lI : Int64} {g : Nat}, n_Qs v h G → k ≠ A ∧ n_fre v k → (0 ≤ bI.toInt → ∃ (cI eI : Int64) (g : Nat), w_f G 19456 = some (.long cI) ∧ w_f G 19457 = some (.long eI) ∧ 1 ≤ g ∧ 0 ≤ cI.toInt ∧ 1 ≤ eI.toInt ∧ cI.toInt * g = (n_wv v A bI.toInt.toNat : Nat) ∧ eI.toInt * g = n_now v * n_now v * (P.getD bI.toInt.toNat 0).toInt) → w_f G 19328 = some (.long uI) → w_f G 19329 = some (.long lI) → 1 ≤ g → 0 ≤ uI.toInt → 1 ≤ lI.toInt → uI.toInt * g = (n_wv v A k : Nat) → lI.toInt * g = n_now v * n_now v * (P.getD k 0).toInt → aOK s_P X (d + 6) a_m58 100 [some (.ref 2), some (.int a), some (.int bI), some (.int kI)] [] G C S K0 := by
      intro G uI lI g q hf inv f1 f2 g1 u0 l1 hu hl
      refine w_go z_hl [119] [53] 40 q.1 ?_
      refine ⟨fun z => fun H hH => ?_, fun z => fun H hH => ?_⟩
      · have z1 : bI.toInt = (Int32.ofInt (-1)).toInt := (y_ci .eq _ _).mp z
        have z2 : bI.toInt = -1 := z1
        have f : y_fr G H [] [] := y_st (y_rf q.1) hH (by repeat (first | exact w_nil | refine w_cons (Or.inl (y_m rfl)) ?_ | refine w_cons (Or.inr (by assumption)) ?_)) (by repeat (first | exact w_nil | refine w_cons (Or.inl (y_m rfl)) ?_ | refine w_cons (Or.inr (by assumption)) ?_))
        exact T119 (n_Qs_y q f) (n_nb_y ⟨hf, Or.inl (by omega)⟩) ((y_fe f rfl).trans f1) ((y_fe f rfl).trans f2) g1 u0 l1 hu hl
      · have z1 : ¬ (bI.toInt = (Int32.ofInt (-1)).toInt) := y_cif z
        have z2 : ¬ (bI.toInt = -1) := z1
        obtain ⟨cI, eI, g2, i1, i2, i3, i4, i5, i6, i7⟩ := inv (by omega)
        have f : y_fr G H [] [] := y_st (y_rf q.1) hH (by repeat (first | exact w_nil | refine w_cons (Or.inl (y_m rfl)) ?_ | refine w_cons (Or.inr (by assumption)) ?_)) (by repeat (first | exact w_nil | refine w_cons (Or.inl (y_m rfl)) ?_ | refine w_cons (Or.inr (by assumption)) ?_))
        have eb : bI.toInt.toNat = (n_nb v P A k).toNat := by rw [hb]
        have pk := pb k kn
        have pq := pb bI.toInt.toNat (by omega)
        have sg := n_sgx (p1 := (P.getD k 0).toInt) (p2 := (P.getD bI.toInt.toNat 0).toInt) g1 i3 (Int.mul_pos (show 0 < n_now v by omega) (show 0 < n_now v by omega)) hu hl i6 i7
        have nk : (y_Nn P k : Int) = (P.getD k 0).toInt := by unfold y_Nn; omega
        have nq : (y_Nn P bI.toInt.toNat : Int) = (P.getD bI.toInt.toNat 0).toInt := by unfold y_Nn; omega
        have sg2 : 0 < uI.toInt * eI.toInt - cI.toInt * lI.toInt ↔ n_wv v A (n_nb v P A k).toNat * y_Nn P k < n_wv v A k * y_Nn P (n_nb v P A k).toNat := by
          rw [sg, ← nk, ← nq, ← eb, ← Int.natCast_mul, ← Int.natCast_mul]
          exact Int.ofNat_lt
        have T116 : ∀ {J : aH} {r : Int32}, y_fr H J [] [] → r.toInt = c_sg (uI.toInt * eI.toInt - cI.toInt * lI.toInt) → aOK s_P X (d + 6) a_m58 116 [some (.ref 2), some (.int a), some (.int bI), some (.int kI)] [.int r] J C S K0 := by
          intro J r e hr3
          have f2' := y_sq f e rfl rfl
          refine w_go z_hl [119, 142] [] 20 e.1 ?_
          refine ⟨fun w => fun H9 h9 => ?_, fun w => fun H9 h9 => ?_⟩
          · have w1 : r.toInt ≤ (0 : Int32).toInt := (y_ci .le _ _).mp w
            have w2 : r.toInt ≤ 0 := w1
            have f9 : y_fr G H9 [] [] := y_st f2' h9 (by repeat (first | exact w_nil | refine w_cons (Or.inl (y_m rfl)) ?_ | refine w_cons (Or.inr (by assumption)) ?_)) (by repeat (first | exact w_nil | refine w_cons (Or.inl (y_m rfl)) ?_ | refine w_cons (Or.inr (by assumption)) ?_))
            refine stay (n_Qs_y q f9) (n_nb_n (fun y => ?_)) (fun _ => ⟨cI, eI, g2, (y_fe f9 rfl).trans i1, (y_fe f9 rfl).trans i2, i3, i4, i5, i6, i7⟩)
            have y1 : 0 < uI.toInt * eI.toInt - cI.toInt * lI.toInt := sg2.mpr (y.2.elim (fun y => absurd y (by omega)) id)
            rw [c_sg_p y1] at hr3
            omega
          · have w1 : ¬ (r.toInt ≤ (0 : Int32).toInt) := y_cif w
            have w2 : ¬ (r.toInt ≤ 0) := w1
            have f9 : y_fr G H9 [] [] := y_st f2' h9 (by repeat (first | exact w_nil | refine w_cons (Or.inl (y_m rfl)) ?_ | refine w_cons (Or.inr (by assumption)) ?_)) (by repeat (first | exact w_nil | refine w_cons (Or.inl (y_m rfl)) ?_ | refine w_cons (Or.inr (by assumption)) ?_))
            have y1 : 0 < uI.toInt * eI.toInt - cI.toInt * lI.toInt := by
              rcases Int.lt_or_le 0 (uI.toInt * eI.toInt - cI.toInt * lI.toInt) with y | y
              · exact y
              · exfalso
                rcases Int.lt_or_eq_of_le y with y | y
                · rw [c_sg_m y] at hr3
                  omega
                · rw [y, c_sg_0] at hr3
                  omega
            exact T119 (n_Qs_y q f9) (n_nb_y ⟨hf, Or.inr (sg2.mp y1)⟩) ((y_fe f9 rfl).trans f1) ((y_fe f9 rfl).trans f2) g1 u0 l1 hu hl
        refine c_cmp12 f.1 ((y_fe f rfl).trans f1) ((y_fe f rfl).trans f2) ((y_fe f rfl).trans i1) ((y_fe f rfl).trans i2) u0 l1 i4 i5 (fun H3 r e3 hr3 => ⟨fun n e => (by cases e), ?_⟩)
        exact T116 e3 hr3
    have T72 : ∀ {G0 : aH}, y_fr G G0 [] [] → k ≠ A → n_fre v k → aOK s_P X (d + 6) a_m58 72 [some (.ref 2), some (.int a), some (.int bI), some (.int kI)] [.int (y_01 true)] G0 C S K0 := by
      intro G0 e ka hf
      have pk := pb k kn
      have ck := y_cl1 hk
      have gk := (gb.2.2 k kn).2.2
      refine w_go z_hl [] [55] 60 e.1 ?_
      refine ⟨fun _ => ?_, fun z => absurd z (by decide)⟩
      refine ⟨⟨by clear inv; omega, by clear inv; omega⟩, fun l hl len bb => fun H hH => ?_⟩
      obtain rfl := y_ai ((y_ae e rfl).trans (p7 q)) hl
      have f : y_fr G H [] [] := y_st e hH (by repeat (first | exact w_nil | refine w_cons (Or.inl (y_m rfl)) ?_ | refine w_cons (Or.inr (by assumption)) ?_)) (by repeat (first | exact w_nil | refine w_cons (Or.inl (y_m rfl)) ?_ | refine w_cons (Or.inr (by assumption)) ?_))
      refine c_putW (d := d + 1) (A := A) (B := k) hr hc (n_Qs_y q f) ha hk An kn ka (by have := hf.1; omega) (by rw [ck]; exact pk.1) (by rw [ck]; exact pk.2) nz (fun H3 u l g q3 f3 w1 w2 w3 w4 w5 w6 w7 => ⟨fun n e => (by cases e), ?_⟩)
      rw [ck] at w7
      refine T100 q3 ⟨ka, hf⟩ (fun z => ?_) w1 w2 w3 w4 w5 w6 w7
      obtain ⟨cI, eI, g2, i1, i2, i3⟩ := inv z
      exact ⟨cI, eI, g2, (y_fe f3 rfl).trans ((y_fe f rfl).trans i1), (y_fe f3 rfl).trans ((y_fe f rfl).trans i2), i3⟩
    have keep : ∀ {H : aH}, y_fr G H [] [] → ¬ (k ≠ A ∧ n_fre v k) → aOK s_P X (d + 6) a_m58 142 [some (.ref 2), some (.int a), some (.int bI), some (.int kI)] [] H C S K0 := by
      intro H f nf
      refine stay (n_Qs_y q f) (n_nb_n (fun y => nf y.1)) (fun z => ?_)
      obtain ⟨cI, eI, g2, i1, i2, i3⟩ := inv z
      exact ⟨cI, eI, g2, (y_fe f rfl).trans i1, (y_fe f rfl).trans i2, i3⟩
    have T72n : ∀ {G0 : aH}, y_fr G G0 [] [] → ¬ (k ≠ A ∧ n_fre v k) → aOK s_P X (d + 6) a_m58 72 [some (.ref 2), some (.int a), some (.int bI), some (.int kI)] [.int (y_01 false)] G0 C S K0 := by
      intro G0 e nf
      refine w_go z_hl [142] [] 30 e.1 ?_
      exact ⟨fun z => absurd z (by decide), fun _ => fun H hH => keep (y_st e hH (by repeat (first | exact w_nil | refine w_cons (Or.inl (y_m rfl)) ?_ | refine w_cons (Or.inr (by assumption)) ?_)) (by repeat (first | exact w_nil | refine w_cons (Or.inl (y_m rfl)) ?_ | refine w_cons (Or.inr (by assumption)) ?_))) nf⟩
    refine w_go z_hl [48, 142, 148] [60] 40 q.1 ?_
    intro z hz _ _
    obtain rfl := y_fi gn hz
    refine ⟨fun z => ?_, fun _ => ⟨fun z => fun H hH => ?_, fun z => fun H hH => ?_⟩⟩
    · have z1 : (v 128).toInt ≤ kI.toInt := (y_ci .ge _ _).mp z
      omega
    · have z1 : kI.toInt = a.toInt := (y_ci .eq _ _).mp z
      exact keep (y_st (y_rf q.1) hH (by repeat (first | exact w_nil | refine w_cons (Or.inl (y_m rfl)) ?_ | refine w_cons (Or.inr (by assumption)) ?_)) (by repeat (first | exact w_nil | refine w_cons (Or.inl (y_m rfl)) ?_ | refine w_cons (Or.inr (by assumption)) ?_))) (fun w => w.1 (by omega))
    · have z1 : ¬ (kI.toInt = a.toInt) := y_cif z
      have f : y_fr G H [] [] := y_st (y_rf q.1) hH (by repeat (first | exact w_nil | refine w_cons (Or.inl (y_m rfl)) ?_ | refine w_cons (Or.inr (by assumption)) ?_)) (by repeat (first | exact w_nil | refine w_cons (Or.inl (y_m rfl)) ?_ | refine w_cons (Or.inr (by assumption)) ?_))
      have ek : kI.toInt.toNat = k := by omega
      refine c_lookG (d := d + 4) (a := kI) hr hc f.1 ((y_fe f rfl).trans gn) ((y_fe f rfl).trans gs) ((y_fe f rfl).trans gf) (fun w H3 f3 => ⟨fun n e => (by cases e), ?_⟩) (fun w H3 f3 => ⟨fun n e => (by cases e), ?_⟩)
      · rw [ek] at w
        exact T72 (y_sq f f3 rfl rfl) (by omega) w.2
      · rw [ek] at w
        exact T72n (y_sq f f3 rfl rfl) (fun y => w ⟨⟨by clear inv; omega, by clear inv; omega⟩, y.2⟩)
theorem c_need (hr : w_hr z_D h) (hJ : y_JA h) (hc : n_cV h v) (hW : n_Wv v h) {P : List Int32} (a7 : w_a h 7 = some (0, .inl P)) (pb : ∀ u, u < (v 128).toInt.toNat → 1 ≤ (P.getD u 0).toInt ∧ (P.getD u 0).toInt ≤ 99) {a : Int32} (yes : n_hasV a (v 128) ∧ 0 ≤ n_nb v P a.toInt.toNat (v 128).toInt.toNat → ∀ H, n_Qs v h H → K0 (some (.int (if n_now v = 0 then n_m2 else Int32.ofInt (n_nb v P a.toInt.toNat (v 128).toInt.toNat)))) H C S) (no : ¬ (n_hasV a (v 128) ∧ 0 ≤ n_nb v P a.toInt.toNat (v 128).toInt.toNat) → ∀ H, y_fr h H [] [] → K0 (some (.int (Int32.ofInt (-1)))) H C S) : aOK s_P X (d + 6) a_m58 0 [some (.ref 2), some (.int a), none, none] [] h C S K0 := by
  have g0 := hc.1 128 (by decide)
  have b0 := n_bd (lo := 0) (hi := 10) hr g0 rfl
  have T38 : ∀ {G : aH} {r : Int32}, n_hasV a (v 128) ∧ 0 ≤ n_nb v P a.toInt.toNat (v 128).toInt.toNat → n_Qs v h G → r.toInt = n_now v → aOK s_P X (d + 6) a_m58 38 [some (.ref 2), some (.int a), none, none] [.int r] G C S K0 := by
    intro G r hv q hr3
    obtain ⟨⟨v1, v2⟩, -⟩ := id hv
    have n0 : 0 ≤ n_now v := by
      obtain ⟨-, -, -, -, -, -, -, w0, -⟩ := id (n_Qs_ws q)
      exact (c_T_b (n := (v 128).toInt.toNat) (g := n_sg v) (fun i _ => w0 i)).1
    refine w_go z_hl [48] [] 30 q.1 ?_
    refine ⟨fun z => fun H hH => ?_, fun z => fun H hH => ?_⟩
    · have z1 : r.toInt ≠ (0 : Int32).toInt := (y_ci .ne _ _).mp z
      have z2 : r.toInt ≠ 0 := z1
      have e : y_fr G H [] [] := y_st (y_rf q.1) hH (by repeat (first | exact w_nil | refine w_cons (Or.inl (y_m rfl)) ?_ | refine w_cons (Or.inr (by assumption)) ?_)) (by repeat (first | exact w_nil | refine w_cons (Or.inl (y_m rfl)) ?_ | refine w_cons (Or.inr (by assumption)) ?_))
      refine c_need_loop (A := a.toInt.toNat) hr hc (by omega) (by omega) a7 pb (by omega) (fun H5 r5 q5 hr5 => ?_) (v 128).toInt.toNat H _ _ 0 (n_Qs_y q e) (by decide) (by omega) (show (Int32.ofInt (-1)).toInt = -1 by decide) (fun w => absurd w (by decide))
      have w := yes hv H5 q5
      rw [if_neg (by omega), ← hr5, Int32.ofInt_toInt] at w
      exact w
    · have z1 : ¬ (r.toInt ≠ (0 : Int32).toInt) := y_cif z
      have z2 : r.toInt = 0 := Decidable.not_not.mp z1
      have w := yes hv H (n_Qs_y q (y_st (y_rf q.1) hH (by repeat (first | exact w_nil | refine w_cons (Or.inl (y_m rfl)) ?_ | refine w_cons (Or.inr (by assumption)) ?_)) (by repeat (first | exact w_nil | refine w_cons (Or.inl (y_m rfl)) ?_ | refine w_cons (Or.inr (by assumption)) ?_))))
      rw [if_pos (by omega)] at w
      exact w
  have T31 : ∀ {G : aH}, n_hasV a (v 128) ∧ 0 ≤ n_nb v P a.toInt.toNat (v 128).toInt.toNat → n_Qs v h G → aOK s_P X (d + 6) a_m58 31 [some (.ref 2), some (.int a), none, none] [] G C S K0 := by
    intro G hv q
    refine w_go z_hl [] [35] 30 q.1 ?_
    intro H hH
    refine c_wNow (d := d + 3) hr hc (n_Qs_y q (y_st (y_rf q.1) hH (by repeat (first | exact w_nil | refine w_cons (Or.inl (y_m rfl)) ?_ | refine w_cons (Or.inr (by assumption)) ?_)) (by repeat (first | exact w_nil | refine w_cons (Or.inl (y_m rfl)) ?_ | refine w_cons (Or.inr (by assumption)) ?_)))) (fun H3 r q3 hr3 => ⟨fun n e => (by cases e), ?_⟩)
    exact T38 hv q3 hr3
  have T19 : ∀ {G : aH}, n_hasV a (v 128) ∧ 0 ≤ n_nb v P a.toInt.toNat (v 128).toInt.toNat → y_fr h G [] [] → aOK s_P X (d + 6) a_m58 19 [some (.ref 2), some (.int a), none, none] [.int (y_01 true)] G C S K0 := by
    intro G hv e
    refine w_go z_hl [] [29] 30 e.1 ?_
    refine ⟨fun _ => fun H hH => ?_, fun z => absurd z (by decide)⟩
    have e2 : y_fr h H [] [] := y_st e hH (by repeat (first | exact w_nil | refine w_cons (Or.inl (y_m rfl)) ?_ | refine w_cons (Or.inr (by assumption)) ?_)) (by repeat (first | exact w_nil | refine w_cons (Or.inl (y_m rfl)) ?_ | refine w_cons (Or.inr (by assumption)) ?_))
    refine c_refreshQ (d := d + 3) (v := v) e2.1 (y_jfr y_JA_x e2 rfl rfl hJ) (n_Wv_p h H (fun k _ => e2.2.1 k List.not_mem_nil) (fun o _ => e2.2.2 o List.not_mem_nil) hW) (fun H3 q3 => ⟨fun n e => (by cases e), ?_⟩)
    exact T31 hv (n_Qs_l hr e2 q3)
  have T19n : ∀ {G : aH}, ¬ (n_hasV a (v 128) ∧ 0 ≤ n_nb v P a.toInt.toNat (v 128).toInt.toNat) → y_fr h G [] [] → aOK s_P X (d + 6) a_m58 19 [some (.ref 2), some (.int a), none, none] [.int (y_01 false)] G C S K0 := by
    intro G hv e
    refine w_go z_hl [] [29] 30 e.1 ?_
    exact ⟨fun z => absurd z (by decide), fun _ => fun H hH => no hv H (y_st e hH (by repeat (first | exact w_nil | refine w_cons (Or.inl (y_m rfl)) ?_ | refine w_cons (Or.inr (by assumption)) ?_)) (by repeat (first | exact w_nil | refine w_cons (Or.inl (y_m rfl)) ?_ | refine w_cons (Or.inr (by assumption)) ?_)))⟩
  have T8 : ∀ {G : aH}, n_hasV a (v 128) → y_fr h G [] [] → aOK s_P X (d + 6) a_m58 8 [some (.ref 2), some (.int a), none, none] [.int (y_01 true)] G C S K0 := by
    intro G hv e
    refine w_go z_hl [] [59] 30 e.1 ?_
    refine ⟨fun z => absurd z (by decide), fun _ => fun H hH => ?_⟩
    refine c_beside hr hc (y_st e hH (by repeat (first | exact w_nil | refine w_cons (Or.inl (y_m rfl)) ?_ | refine w_cons (Or.inr (by assumption)) ?_)) (by repeat (first | exact w_nil | refine w_cons (Or.inl (y_m rfl)) ?_ | refine w_cons (Or.inr (by assumption)) ?_))) hv (fun w H3 f3 => ⟨fun n e => (by cases e), ?_⟩) (fun w H3 f3 => ⟨fun n e => (by cases e), ?_⟩)
    · exact T19 ⟨hv, (n_nb_e (v 128).toInt.toNat).mpr w⟩ f3
    · exact T19n (fun y => w ((n_nb_e (v 128).toInt.toNat).mp y.2)) f3
  have T8n : ∀ {G : aH}, ¬ n_hasV a (v 128) → y_fr h G [] [] → aOK s_P X (d + 6) a_m58 8 [some (.ref 2), some (.int a), none, none] [.int (y_01 false)] G C S K0 := by
    intro G hv e
    refine w_go z_hl [] [59] 30 e.1 ?_
    exact ⟨fun _ => fun H hH => no (fun y => hv y.1) H (y_st e hH (by repeat (first | exact w_nil | refine w_cons (Or.inl (y_m rfl)) ?_ | refine w_cons (Or.inr (by assumption)) ?_)) (by repeat (first | exact w_nil | refine w_cons (Or.inl (y_m rfl)) ?_ | refine w_cons (Or.inr (by assumption)) ?_))), fun z => absurd z (by decide)⟩
  refine w_go z_hl [] [19] 30 hr ?_
  intro H hH
  have e : y_fr h H [] [] := y_st (y_rf hr) hH (by repeat (first | exact w_nil | refine w_cons (Or.inl (y_m rfl)) ?_ | refine w_cons (Or.inr (by assumption)) ?_)) (by repeat (first | exact w_nil | refine w_cons (Or.inl (y_m rfl)) ?_ | refine w_cons (Or.inr (by assumption)) ?_))
  refine c_hasN (v := a) e.1 ((y_fe e rfl).trans g0) (fun v1 v2 H2 h2 => ⟨fun n e => (by cases e), ?_⟩) (fun nv H2 h2 => ⟨fun n e => (by cases e), ?_⟩)
  · exact T8 ⟨v1, v2⟩ (y_sq e h2 rfl rfl)
  · exact T8n nv (y_sq e h2 rfl rfl)
theorem f_need_loop {sa : List Int32} {wl : List Int64} {cl : Int32} {c : Nat} (hcl : cl.toInt = c) (cn : c < (v 128).toInt.toNat) {wh : Int64} {P fo : List Int32} (hwh : wh.toInt = n_now v) (w0 : 0 ≤ wh.toInt) (w8 : wh.toInt ≤ 100000000) (pb : ∀ u, u < (v 128).toInt.toNat → 1 ≤ (P.getD u 0).toInt ∧ (P.getD u 0).toInt ≤ 99) (hfo : ∀ i : Nat, (i : Int) < (v 128).toInt → fo.getD i 0 = v (704000 + i)) : ∀ (m : Nat) (h : aH) (best vI : Int32) (bw : Int64) (k : Nat) (o8 : Option Value), f_wc h v sa wl → w_a h 161 = some (0, .inl P) → w_a h 159 = some (0, .inl fo) → vI.toInt = k → (k : Int) + m = (v 128).toInt → best.toInt = n_nb v P c k → 0 ≤ bw.toInt → bw.toInt ≤ 20000000000000000 → (0 ≤ best.toInt → bw.toInt = (n_wv v c best.toInt.toNat : Nat)) → (∀ (r : Int32) (H : aH), y_fr h H [19585, 19587, 19588] [154] → r = (if 0 ≤ n_nb v P c (v 128).toInt.toNat then (if n_now v = 0 then n_m2 else Int32.ofInt (n_nb v P c (v 128).toInt.toNat)) else Int32.ofInt (-1)) → K0 (some (.int r)) H C S) → aOK s_P X (d + 5) a_m207 32 [some (.ref 155), some (.int cl), some (.int best), some (.long bw), none, some (.long wh), none, some (.int vI), o8, none] [] h C S K0 := by
  intro m
  induction m with
  | zero =>
    intro h best vI bw k o8 s g gf hk hm hb bw0 bw1 hbw hK
    have n10 := s.2.2.2.2.2
    have n1 := s.2.2.2.2.1
    have kN : k = (v 128).toInt.toNat := by omega
    have nbb := n_nb_b (v := v) (P := P) (c := c) k
    rw [kN] at hb nbb
    have T168 : ∀ {G : aH}, y_fr h G [19585, 19587, 19588] [154] → 0 ≤ best.toInt → 1 ≤ wh.toInt → aOK s_P X (d + 5) a_m207 168 [some (.ref 155), some (.int cl), some (.int best), some (.long bw), none, some (.long wh), none, some (.int vI), o8, none] [] G C S K0 := by
      intro G e z1 z2
      refine w_go z_hl [] [] 30 e.1 ?_
      exact fun H hH => hK _ H (y_st e hH (by repeat (first | exact w_nil | refine w_cons (Or.inl (y_m rfl)) ?_ | refine w_cons (Or.inr (by assumption)) ?_)) (by repeat (first | exact w_nil | refine w_cons (Or.inl (y_m rfl)) ?_ | refine w_cons (Or.inr (by assumption)) ?_))) (by rw [if_pos (by omega), if_neg (by omega), ← hb, Int32.ofInt_toInt])
    have T159 : ∀ {G : aH}, y_fr h G [19585, 19587, 19588] [154] → 0 ≤ best.toInt → 1 ≤ wh.toInt → aOK s_P X (d + 5) a_m207 159 [some (.ref 155), some (.int cl), some (.int best), some (.long bw), none, some (.long wh), none, some (.int vI), o8, none] [] G C S K0 := by
      intro G e z1 z2
      refine w_go z_hl [] [196] 30 e.1 ?_
      refine ⟨rfl, y_zini (by decide) (by decide), fun H hH => ?_⟩
      have e2 := y_st e hH (by repeat (first | exact w_nil | refine w_cons (Or.inl (y_m rfl)) ?_ | refine w_cons (Or.inr (by assumption)) ?_)) (by repeat (first | exact w_nil | refine w_cons (Or.inl (y_m rfl)) ?_ | refine w_cons (Or.inr (by assumption)) ?_))
      refine y_tells e2.1 (hH.2.1 19585 _ rfl) (by decide) (by decide) (fun H2 r2 e3 _ _ => ⟨fun n e => (by cases e), ?_⟩)
      exact T168 (y_sq e2 e3 rfl rfl) z1 z2
    have T141 : ∀ {G : aH}, y_fr h G [19585, 19587, 19588] [154] → 0 ≤ best.toInt → 1 ≤ wh.toInt → aOK s_P X (d + 5) a_m207 141 [some (.ref 155), some (.int cl), some (.int best), some (.long bw), none, some (.long wh), none, some (.int vI), o8, none] [] G C S K0 := by
      intro G e b0 w1
      have cb : best.toNatClampNeg = best.toInt.toNat := rfl
      refine w_go z_hl [] [194] 40 e.1 ?_
      refine ⟨⟨by omega, by omega⟩, fun l hl len bb => fun H hH => ?_⟩
      obtain rfl := y_ai ((y_ae e rfl).trans g) hl
      have hc1 : 1 ≤ (P.getD best.toNatClampNeg 0).toInt := by rw [cb]; exact (pb _ (by omega)).1
      have hc9 : (P.getD best.toNatClampNeg 0).toInt ≤ 99 := by rw [cb]; exact (pb _ (by omega)).2
      have m1 := y_m8 w0 w8 w0 w8
      have p1 : 1 ≤ wh.toInt * wh.toInt := Int.mul_pos (by omega) (by omega)
      have p2 := y_p8 w0 w8 w0 w8
      have p3 : 1 ≤ (wh * wh).toInt * (P.getD best.toNatClampNeg 0).toInt64.toInt := by rw [m1, y_i2l]; exact Int.mul_pos (by omega) (by omega)
      have p4 : (wh * wh).toInt * (P.getD best.toNatClampNeg 0).toInt64.toInt ≤ 10000000000000000 * 99 := by rw [m1, y_i2l]; exact Int.mul_le_mul (by omega) hc9 (by omega) (by decide)
      have m2 := y_mul (a := wh * wh) (b := (P.getD best.toNatClampNeg 0).toInt64) (by omega) (by omega)
      have e2 := y_st e hH (by repeat (first | exact w_nil | refine w_cons (Or.inl (y_m rfl)) ?_ | refine w_cons (Or.inr (by assumption)) ?_)) (by repeat (first | exact w_nil | refine w_cons (Or.inl (y_m rfl)) ?_ | refine w_cons (Or.inr (by assumption)) ?_))
      refine q_lowest (n := bw) (m := wh * wh * (P.getD best.toNatClampNeg 0).toInt64) e2.1 (by omega) (by rw [m2]; exact p3) (fun u l H2 e3 _ _ _ _ _ _ _ => ⟨fun n e => (by cases e), ?_⟩)
      exact T159 (y_sq e2 e3 rfl rfl) b0 w1
    have e0 : y_fr h h [19585, 19587, 19588] [154] := y_mo (y_rf s.1.1) rfl rfl
    have z0 : (0 : Int32).toInt = 0 := by decide
    have z6 : (Int64.ofNat 0).toInt = 0 := by decide
    refine w_go z_hl [32, 141] [] 40 s.1.1 ?_
    intro x hx _ _
    obtain rfl := y_fi s.1.2.1 hx
    refine ⟨fun _ => ⟨fun q1 => ⟨fun q2 => ?_, fun q2 => fun H hH => hK _ H (y_st e0 hH (by repeat (first | exact w_nil | refine w_cons (Or.inl (y_m rfl)) ?_ | refine w_cons (Or.inr (by assumption)) ?_)) (by repeat (first | exact w_nil | refine w_cons (Or.inl (y_m rfl)) ?_ | refine w_cons (Or.inr (by assumption)) ?_))) ?_⟩, fun q1 => ⟨fun q2 => fun H hH => ?_, fun q2 => ⟨fun q3 => fun H hH => hK _ H (y_st e0 hH (by repeat (first | exact w_nil | refine w_cons (Or.inl (y_m rfl)) ?_ | refine w_cons (Or.inr (by assumption)) ?_)) (by repeat (first | exact w_nil | refine w_cons (Or.inl (y_m rfl)) ?_ | refine w_cons (Or.inr (by assumption)) ?_))) ?_, fun q3 => ?_⟩⟩⟩, fun q => ?_⟩
    · have x1 : best.toInt < (0 : Int32).toInt := (y_ci .lt _ _).mp q1
      have x2 : (0 : Int32).toInt ≤ best.toInt := (y_ci .ge _ _).mp q2
      omega
    · have x1 : best.toInt < (0 : Int32).toInt := (y_ci .lt _ _).mp q1
      rw [if_neg (by omega)]
    · have x1 : ¬ (best.toInt < (0 : Int32).toInt) := y_cif q1
      have x2 : wh.toInt ≠ (Int64.ofNat 0).toInt := (y_cl .ne _ _).mp q2
      exact T141 (y_st e0 hH (by repeat (first | exact w_nil | refine w_cons (Or.inl (y_m rfl)) ?_ | refine w_cons (Or.inr (by assumption)) ?_)) (by repeat (first | exact w_nil | refine w_cons (Or.inl (y_m rfl)) ?_ | refine w_cons (Or.inr (by assumption)) ?_))) (by omega) (by omega)
    · have x1 : ¬ (best.toInt < (0 : Int32).toInt) := y_cif q1
      have x2 : ¬ (wh.toInt ≠ (Int64.ofNat 0).toInt) := y_clf q2
      have x3 : wh.toInt = 0 := Decidable.not_not.mp x2
      rw [if_pos (by omega), if_pos (by omega)]
    · have x1 : ¬ (best.toInt < (0 : Int32).toInt) := y_cif q1
      have x2 : ¬ ((0 : Int32).toInt ≤ best.toInt) := y_cif q3
      omega
    · have : ¬ ((v 128).toInt ≤ vI.toInt) := y_cif q
      omega
  | succ m ih =>
    intro h best vI bw k o8 s g gf hk hm hb bw0 bw1 hbw hK
    have n10 := s.2.2.2.2.2
    have n1 := s.2.2.2.2.1
    have nbb := n_nb_b (v := v) (P := P) (c := c) k
    have kn : k < (v 128).toInt.toNat := by omega
    have ck := y_cl1 hk
    have z0 : (0 : Int32).toInt = 0 := by decide
    have ink : (vI + Int32.ofInt 1).toInt = ((k + 1 : Nat) : Int) := by rw [y_inc (by omega), hk]; rfl
    have sk : (sa.getD vI.toNatClampNeg 0).toInt = n_sg v k := by rw [ck]; exact s.2.1 k kn
    have ok : (fo.getD vI.toNatClampNeg 0).toInt = (v (704000 + k)).toInt := by rw [ck, hfo k (by omega)]
    have next : ∀ {G : aH} {best' : Int32} {bw' : Int64} {o8 : Option Value}, y_fr h G [] [] → best'.toInt = n_nb v P c (k + 1) → 0 ≤ bw'.toInt → bw'.toInt ≤ 20000000000000000 → (0 ≤ best'.toInt → bw'.toInt = (n_wv v c best'.toInt.toNat : Nat)) → aOK s_P X (d + 5) a_m207 113 [some (.ref 155), some (.int cl), some (.int best'), some (.long bw'), none, some (.long wh), none, some (.int vI), o8, none] [] G C S K0 := by
      intro G best' bw' o8 e x1 x2 x3 x4
      refine w_go z_hl [32] [] 30 e.1 ?_
      intro H hH
      have e2 := y_st e hH (by repeat (first | exact w_nil | refine w_cons (Or.inl (y_m rfl)) ?_ | refine w_cons (Or.inr (by assumption)) ?_)) (by repeat (first | exact w_nil | refine w_cons (Or.inl (y_m rfl)) ?_ | refine w_cons (Or.inr (by assumption)) ?_))
      exact ih H _ _ _ (k + 1) _ (f_wc_fr s e2 rfl rfl rfl) ((y_ae e2 rfl).trans g) ((y_ae e2 rfl).trans gf) ink (by omega) x1 x2 x3 x4 (fun r H' f er => hK r H' (y_sq (y_mo e2 rfl rfl) f rfl rfl) er)
    have stay : ∀ {G : aH} {o8 : Option Value}, y_fr h G [] [] → n_nb v P c (k + 1) = n_nb v P c k → aOK s_P X (d + 5) a_m207 113 [some (.ref 155), some (.int cl), some (.int best), some (.long bw), none, some (.long wh), none, some (.int vI), o8, none] [] G C S K0 := fun e z => next e (by rw [z]; exact hb) bw0 bw1 hbw
    have T77 : ∀ {G : aH} {its : Int64}, y_fr h G [] [] → k ≠ c ∧ n_fre v k → its.toInt = (n_wv v c k : Nat) → its.toInt ≤ 20000000000000000 → aOK s_P X (d + 5) a_m207 77 [some (.ref 155), some (.int cl), some (.int best), some (.long bw), none, some (.long wh), none, some (.int vI), o8, none] [.long its] G C S K0 := by
      intro G its e hf i0 i1
      refine w_go z_hl [113] [] 40 e.1 ?_
      refine ⟨fun q => fun H hH => ?_, fun q => ?_⟩
      · have x1 : best.toInt < (0 : Int32).toInt := (y_ci .lt _ _).mp q
        exact next (y_st e hH (by repeat (first | exact w_nil | refine w_cons (Or.inl (y_m rfl)) ?_ | refine w_cons (Or.inr (by assumption)) ?_)) (by repeat (first | exact w_nil | refine w_cons (Or.inl (y_m rfl)) ?_ | refine w_cons (Or.inr (by assumption)) ?_))) (by rw [n_nb_y ⟨hf, Or.inl (by omega)⟩]; exact hk) (by omega) i1 (fun _ => by rw [i0, show vI.toInt.toNat = k by omega])
      · have x1 : ¬ (best.toInt < (0 : Int32).toInt) := y_cif q
        rw [z0] at x1
        have pk := pb k kn
        have pq := pb best.toInt.toNat (by omega)
        have eb : best.toInt.toNat = (n_nb v P c k).toNat := by rw [hb]
        have hw := hbw (by omega)
        have cb : best.toNatClampNeg = best.toInt.toNat := rfl
        have q1 : its.toInt * (P.getD best.toInt.toNat 0).toInt ≤ 20000000000000000 * 99 := Int.mul_le_mul i1 pq.2 (by omega) (by decide)
        have q0 : 0 ≤ its.toInt * (P.getD best.toInt.toNat 0).toInt := Int.mul_nonneg (by omega) (by omega)
        have q3 : bw.toInt * (P.getD k 0).toInt ≤ 20000000000000000 * 99 := Int.mul_le_mul bw1 pk.2 (by omega) (by decide)
        have q2 : 0 ≤ bw.toInt * (P.getD k 0).toInt := Int.mul_nonneg (by omega) (by omega)
        have m1 : (its * (P.getD best.toNatClampNeg 0).toInt64).toInt = its.toInt * (P.getD best.toInt.toNat 0).toInt := by rw [y_mul (by rw [y_i2l, cb]; omega) (by rw [y_i2l, cb]; omega), y_i2l, cb]
        have m2 : (bw * (P.getD vI.toNatClampNeg 0).toInt64).toInt = bw.toInt * (P.getD k 0).toInt := by rw [y_mul (by rw [y_i2l, ck]; omega) (by rw [y_i2l, ck]; omega), y_i2l, ck]
        have nk : (y_Nn P k : Int) = (P.getD k 0).toInt := by unfold y_Nn; omega
        have nq : (y_Nn P best.toInt.toNat : Int) = (P.getD best.toInt.toNat 0).toInt := by unfold y_Nn; omega
        have cmp : bw.toInt * (P.getD k 0).toInt < its.toInt * (P.getD best.toInt.toNat 0).toInt ↔ n_wv v c (n_nb v P c k).toNat * y_Nn P k < n_wv v c k * y_Nn P (n_nb v P c k).toNat := by
          rw [hw, i0, ← nk, ← nq, ← eb, ← Int.natCast_mul, ← Int.natCast_mul]
          exact Int.ofNat_lt
        refine ⟨⟨by omega, by omega⟩, fun l hl len bb => ?_⟩
        obtain rfl := y_ai ((y_ae e rfl).trans g) hl
        refine ⟨⟨by omega, by omega⟩, ⟨fun y => fun H hH => ?_, fun y => fun H hH => ?_⟩⟩
        · have y1 : (its * (P.getD best.toNatClampNeg 0).toInt64).toInt ≤ (bw * (P.getD vI.toNatClampNeg 0).toInt64).toInt := (y_cl .le _ _).mp y
          rw [m1, m2] at y1
          refine stay (y_st e hH (by repeat (first | exact w_nil | refine w_cons (Or.inl (y_m rfl)) ?_ | refine w_cons (Or.inr (by assumption)) ?_)) (by repeat (first | exact w_nil | refine w_cons (Or.inl (y_m rfl)) ?_ | refine w_cons (Or.inr (by assumption)) ?_))) (n_nb_n (fun w => ?_))
          have := cmp.mpr (w.2.elim (fun w => absurd w (by omega)) id)
          omega
        · have y1 : ¬ ((its * (P.getD best.toNatClampNeg 0).toInt64).toInt ≤ (bw * (P.getD vI.toNatClampNeg 0).toInt64).toInt) := y_clf y
          rw [m1, m2] at y1
          exact next (y_st e hH (by repeat (first | exact w_nil | refine w_cons (Or.inl (y_m rfl)) ?_ | refine w_cons (Or.inr (by assumption)) ?_)) (by repeat (first | exact w_nil | refine w_cons (Or.inl (y_m rfl)) ?_ | refine w_cons (Or.inr (by assumption)) ?_))) (by rw [n_nb_y ⟨hf, Or.inr (cmp.mp (by omega))⟩]; exact hk) (by omega) i1 (fun _ => by rw [i0, show vI.toInt.toNat = k by omega])
    have e0 : y_fr h h [] [] := y_rf s.1.1
    refine w_go z_hl [32, 113] [205] 40 s.1.1 ?_
    intro x hx _ _
    obtain rfl := y_fi s.1.2.1 hx
    refine ⟨fun q => ?_, fun _ => ⟨fun q => fun H hH => ?_, fun q => ⟨⟨by omega, by omega⟩, fun l hl len bb => ?_⟩⟩⟩
    · have : (v 128).toInt ≤ vI.toInt := (y_ci .ge _ _).mp q
      omega
    · have z1 : vI.toInt = cl.toInt := (y_ci .eq _ _).mp q
      exact stay (y_st e0 hH (by repeat (first | exact w_nil | refine w_cons (Or.inl (y_m rfl)) ?_ | refine w_cons (Or.inr (by assumption)) ?_)) (by repeat (first | exact w_nil | refine w_cons (Or.inl (y_m rfl)) ?_ | refine w_cons (Or.inr (by assumption)) ?_))) (n_nb_n (fun w => w.1.1 (by omega)))
    · have kc : ¬ (vI.toInt = cl.toInt) := y_cif q
      obtain rfl := y_ai s.1.2.2.1 hl
      refine ⟨fun q => fun H hH => ?_, fun q2 => ⟨⟨by omega, by omega⟩, fun l2 hl2 len2 bb2 => ?_⟩⟩
      · have z1 : (0 : Int32).toInt ≤ (sa.getD vI.toNatClampNeg 0).toInt := (y_ci .ge _ _).mp q
        exact stay (y_st e0 hH (by repeat (first | exact w_nil | refine w_cons (Or.inl (y_m rfl)) ?_ | refine w_cons (Or.inr (by assumption)) ?_)) (by repeat (first | exact w_nil | refine w_cons (Or.inl (y_m rfl)) ?_ | refine w_cons (Or.inr (by assumption)) ?_))) (n_nb_n (fun w => by have w2 : n_sg v k < 0 := w.1.2.1; omega))
      · have z1 : ¬ ((0 : Int32).toInt ≤ (sa.getD vI.toNatClampNeg 0).toInt) := y_cif q2
        obtain rfl := y_ai gf hl2
        refine ⟨fun q3 => fun H hH => ?_, fun q3 => fun H hH => ?_⟩
        · have z2 : (fo.getD vI.toNatClampNeg 0).toInt < (0 : Int32).toInt := (y_ci .lt _ _).mp q3
          have e2 := y_st e0 hH (by repeat (first | exact w_nil | refine w_cons (Or.inl (y_m rfl)) ?_ | refine w_cons (Or.inr (by assumption)) ?_)) (by repeat (first | exact w_nil | refine w_cons (Or.inl (y_m rfl)) ?_ | refine w_cons (Or.inr (by assumption)) ?_))
          have hf : k ≠ c ∧ n_fre v k := ⟨by omega, by omega, by omega⟩
          have gk := (s.2.2.1 k kn).1
          refine f_worthOf (f_wc_fr s e2 rfl rfl rfl) hcl hk cn kn hf.1 (by omega) (fun r H2 e3 r0 => ⟨fun n e => (by cases e), ?_⟩)
          refine T77 (y_sq e2 e3 rfl rfl) hf r0 ?_
          have f0 := f_wc_0 s
          obtain ⟨gc0, gc1⟩ := s.2.2.1 c cn
          have b1 := n_A_b (s := true) f0 cn kn hf.1 gc0 gc1 (by omega)
          obtain ⟨sp, sp1, sp0⟩ := n_now_sp f0 kn (by omega) (by omega)
          obtain ⟨tp, tp1, tp0⟩ := n_now_sp f0 cn gc0 gc1
          have p1 := y_p8 b1.1 (by omega) (show 0 ≤ n_now v by omega) (by omega)
          have p2 := y_p8 (show 0 ≤ n_nwW v c true by omega) (by omega) sp1 (by omega)
          rw [r0]
          unfold n_wv
          omega
        · have z2 : ¬ ((fo.getD vI.toNatClampNeg 0).toInt < (0 : Int32).toInt) := y_cif q3
          exact stay (y_st e0 hH (by repeat (first | exact w_nil | refine w_cons (Or.inl (y_m rfl)) ?_ | refine w_cons (Or.inr (by assumption)) ?_)) (by repeat (first | exact w_nil | refine w_cons (Or.inl (y_m rfl)) ?_ | refine w_cons (Or.inr (by assumption)) ?_))) (n_nb_n (fun w => by have w2 : (v (704000 + k)).toInt < 0 := w.1.2.2; omega))
theorem f_need (hr : w_hr z_D h) (hJ : y_J h) (hm : n_mV h v) {P : List Int32} (g : w_a h 161 = some (0, .inl P)) (pb : ∀ u, u < (v 128).toInt.toNat → 1 ≤ (P.getD u 0).toInt ∧ (P.getD u 0).toInt ≤ 99) {cl : Int32} (yes : n_hasV cl (v 128) → ∀ (H : aH), y_fr h H [19584, 19585, 19587, 19588] [154, 163] → y_J H → K0 (some (.int (if 0 ≤ n_nb v P cl.toInt.toNat (v 128).toInt.toNat then (if n_now v = 0 then n_m2 else Int32.ofInt (n_nb v P cl.toInt.toNat (v 128).toInt.toNat)) else Int32.ofInt (-1)))) H C S) (no : ¬ n_hasV cl (v 128) → ∀ (H : aH), y_fr h H [19584] [] → K0 (some (.int (Int32.ofInt (-1)))) H C S) : aOK s_P X (d + 5) a_m207 0 [some (.ref 155), some (.int cl), none, none, none, none, none, none, none, none] [] h C S K0 := by
  have g0 : w_f h 19591 = some (.int (v 128)) := hm.1 (128, 19591) (by decide)
  obtain ⟨fo, o4, o5, o6⟩ := id hm.2.1.2.2.2.2.2.2.1
  have T27 : ∀ {G0 G : aH} {sa : List Int32} {wl : List Int64} {wh : Int64}, n_hasV cl (v 128) → y_fr h G0 [19584] [163] → y_J G0 → f_wc G0 v sa wl → y_fr G0 G [] [] → wh.toInt = n_now v → 0 ≤ wh.toInt → wh.toInt ≤ 100000000 → aOK s_P X (d + 5) a_m207 27 [some (.ref 155), some (.int cl), some (.int (Int32.ofInt (-1))), some (.long (Int64.ofNat 0)), none, none, none, none, none, none] [.long wh] G C S K0 := by
    intro G0 G sa wl wh hv e0 J0 hw e hwh w0 w8
    obtain ⟨v1, v2⟩ := id hv
    have n1 := hw.2.2.2.2.1
    refine w_go z_hl [32] [] 30 e.1 ?_
    intro H hH
    have f : y_fr G0 H [] [] := y_st e hH (by repeat (first | exact w_nil | refine w_cons (Or.inl (y_m rfl)) ?_ | refine w_cons (Or.inr (by assumption)) ?_)) (by repeat (first | exact w_nil | refine w_cons (Or.inl (y_m rfl)) ?_ | refine w_cons (Or.inr (by assumption)) ?_))
    have f1 : y_fr h H [19584] [163] := y_sq e0 f rfl rfl
    refine f_need_loop (c := cl.toInt.toNat) (by omega) (by omega) hwh w0 w8 pb o6 (v 128).toInt.toNat H _ _ _ 0 _ (f_wc_fr hw f rfl rfl rfl) ((y_ae f1 rfl).trans g) ((y_ae f1 rfl).trans o4) rfl (by omega) (show (Int32.ofInt (-1)).toInt = -1 by decide) (by decide) (by decide) (fun w => absurd w (by decide)) (fun r H5 e5 er => ?_)
    rw [er]
    exact yes hv H5 (y_sq (y_mo f1 rfl rfl) e5 rfl rfl) (y_J_fr e5 rfl rfl (y_J_fr f rfl rfl J0))
  have T19 : ∀ {G0 : aH} {sa : List Int32} {wl : List Int64}, n_hasV cl (v 128) → y_fr h G0 [19584] [163] → y_J G0 → f_wc G0 v sa wl → aOK s_P X (d + 5) a_m207 19 [some (.ref 155), some (.int cl), none, none, none, none, none, none, none, none] [] G0 C S K0 := by
    intro G0 sa wl hv e0 J0 hw
    refine w_go z_hl [] [189] 30 e0.1 ?_
    intro H hH
    have f : y_fr G0 H [] [] := y_st (y_rf e0.1) hH (by repeat (first | exact w_nil | refine w_cons (Or.inl (y_m rfl)) ?_ | refine w_cons (Or.inr (by assumption)) ?_)) (by repeat (first | exact w_nil | refine w_cons (Or.inl (y_m rfl)) ?_ | refine w_cons (Or.inr (by assumption)) ?_))
    refine aOK_deep (d := d + 3) (by omega) (r_now (f_wc_fr hw f rfl rfl rfl) (fun r H2 e3 r0 r8 hn => ⟨fun n e => (by cases e), ?_⟩))
    exact T27 hv e0 J0 hw (y_sq f e3 rfl rfl) hn r0 r8
  have T10 : ∀ {G : aH}, n_hasV cl (v 128) → y_fr h G [19584] [] → aOK s_P X (d + 5) a_m207 10 [some (.ref 155), some (.int cl), none, none, none, none, none, none, none, none] [.int (y_01 true)] G C S K0 := by
    intro G hv e
    refine w_go z_hl [] [188] 30 e.1 ?_
    refine ⟨fun _ => fun H hH => ?_, fun z => absurd z (by decide)⟩
    have e2 := y_st e hH (by repeat (first | exact w_nil | refine w_cons (Or.inl (y_m rfl)) ?_ | refine w_cons (Or.inr (by assumption)) ?_)) (by repeat (first | exact w_nil | refine w_cons (Or.inl (y_m rfl)) ?_ | refine w_cons (Or.inr (by assumption)) ?_))
    refine r_up e2.1 (y_J_fr e2 rfl rfl hJ) (n_mS_V (n_fk_m e2 rfl) hm) (fun sa wl H2 e3 J3 hw => ⟨fun n e => (by cases e), ?_⟩)
    exact T19 hv (y_sq (y_mo e2 rfl rfl) e3 rfl rfl) J3 hw
  have T10n : ∀ {G : aH}, ¬ n_hasV cl (v 128) → y_fr h G [19584] [] → aOK s_P X (d + 5) a_m207 10 [some (.ref 155), some (.int cl), none, none, none, none, none, none, none, none] [.int (y_01 false)] G C S K0 := by
    intro G hv e
    refine w_go z_hl [] [188] 30 e.1 ?_
    exact ⟨fun z => absurd z (by decide), fun _ => fun H hH => no hv H (y_st e hH (by repeat (first | exact w_nil | refine w_cons (Or.inl (y_m rfl)) ?_ | refine w_cons (Or.inr (by assumption)) ?_)) (by repeat (first | exact w_nil | refine w_cons (Or.inl (y_m rfl)) ?_ | refine w_cons (Or.inr (by assumption)) ?_)))⟩
  refine w_go z_hl [] [178] 30 hr ?_
  refine ⟨rfl, y_zini (by decide) (by decide), fun H1 h1 => ?_⟩
  have e1 : y_fr h H1 [19584] [] := y_st (y_mo (y_rf hr) rfl rfl) h1 (by repeat (first | exact w_nil | refine w_cons (Or.inl (y_m rfl)) ?_ | refine w_cons (Or.inr (by assumption)) ?_)) (by repeat (first | exact w_nil | refine w_cons (Or.inl (y_m rfl)) ?_ | refine w_cons (Or.inr (by assumption)) ?_))
  refine q_isNode2 (v := cl) e1.1 ((y_fe e1 rfl).trans g0) (fun H2 vv h2 hv hv2 hvc => ⟨fun n e => (by cases e), ?_⟩) (fun H2 h2 nn => ⟨fun n e => (by cases e), ?_⟩)
  · exact T10 ⟨by omega, by omega⟩ (y_sq e1 h2 rfl rfl)
  · exact T10n nn (y_sq e1 h2 rfl rfl)
end NND
end PT33ho
