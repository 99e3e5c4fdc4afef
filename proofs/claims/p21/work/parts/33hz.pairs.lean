section PT33he
/-! ===== v10: weight (laid by wip/tools/mk10f.py) ===== -/
theorem y_wt_F {F F' : Nat → Nat → Int} {w : Nat} : ∀ {k : Nat}, (∀ v, v < k → F' v w = F v w) → y_wt F' w k = y_wt F w k
  | 0, _ => rfl
  | k + 1, h => by
    show y_wt F' w k * F' k w = y_wt F w k * F k w
    rw [y_wt_F (fun v hv => h v (by omega)), h k (by omega)]
theorem y_W_fo {nd : Int32} {le de ta fo fo' : List Int32} {w k : Nat} (h : ∀ v, v < k → y_N fo' v = y_N fo v) : y_W nd le de ta fo' w k = y_W nd le de ta fo w k := y_wt_F (fun v hv => by
  unfold y_fa
  rw [h v hv])
theorem y_l2i {x : Int64} (h0 : 0 ≤ x.toInt) (h1 : x.toInt ≤ 2147483647) : x.toInt32.toInt = x.toInt := by
  rw [Int64.toInt_toInt32]
  exact Int.bmod_eq_of_le (by omega) (by omega)
abbrev n_wtV (a nd : Int32) : Prop := 0 ≤ a.toInt ∧ a.toInt < (y_ways nd : Int)
noncomputable def n_s28 (us : List Int32) (v : Nat → Int32) : (Nat → Int32) × Int32 := match us with
  | [a] => (n_up v 143 (Int32.ofInt 1), if n_wtV a (v 128) then Int32.ofInt (y_W (v 128) (n_ls v 701000 10) (n_ls v 702000 10) (n_ls v 700000 80) (n_ls v 704000 10) a.toInt.toNat (v 128).toInt.toNat) else Int32.ofInt (-1))
  | _ => (v, 0)
section NWT
variable {X : aX} {C S d : Nat} {K0 : Option Value → aH → Nat → Nat → Prop}
theorem c_weightOf {h : aH} (hr : w_hr z_D h) {a nd : Int32} {wl : List Int32} (g0 : w_f h 128 = some (.int nd)) (h0 : 0 ≤ nd.toInt) (h10 : nd.toInt ≤ 10) (a9 : w_a h 9 = some (0, .inl wl)) (yes : n_wtV a nd → ∀ H, y_fr h H [] [] → K0 (some (.int (wl.getD a.toInt.toNat 0))) H C S) (no : ¬ n_wtV a nd → ∀ H, y_fr h H [] [] → K0 (some (.int (Int32.ofInt (-1)))) H C S) : aOK s_P X (d + 1) a_m32 0 [some (.ref 3), some (.int a)] [] h C S K0 := by
  have T5 : ∀ {G : aH}, n_wtV a nd → y_fr h G [] [] → aOK s_P X (d + 1) a_m32 5 [some (.ref 3), some (.int a)] [.int (y_01 true)] G C S K0 := by
    intro G q e
    obtain ⟨v1, v2⟩ := id q
    have wle : y_ways nd ≤ 1024 := (y_all h0 h10).2.2
    refine w_go z_hl [] [] 40 e.1 ?_
    refine ⟨fun q => absurd q (by decide), fun _ => ⟨⟨by omega, by omega⟩, fun l hl len bb => fun H hH => ?_⟩⟩
    obtain rfl := y_ai ((y_ae e rfl).trans a9) hl
    exact yes q H (y_st e hH (by repeat (first | exact w_nil | refine w_cons (Or.inl (y_m rfl)) ?_ | refine w_cons (Or.inr (by assumption)) ?_)) (by repeat (first | exact w_nil | refine w_cons (Or.inl (y_m rfl)) ?_ | refine w_cons (Or.inr (by assumption)) ?_)))
  have T5n : ∀ {G : aH}, ¬ n_wtV a nd → y_fr h G [] [] → aOK s_P X (d + 1) a_m32 5 [some (.ref 3), some (.int a)] [.int (y_01 false)] G C S K0 := by
    intro G nv e
    refine w_go z_hl [] [] 40 e.1 ?_
    exact ⟨fun _ => fun H hH => no nv H (y_st e hH (by repeat (first | exact w_nil | refine w_cons (Or.inl (y_m rfl)) ?_ | refine w_cons (Or.inr (by assumption)) ?_)) (by repeat (first | exact w_nil | refine w_cons (Or.inl (y_m rfl)) ?_ | refine w_cons (Or.inr (by assumption)) ?_))), fun q => absurd q (by decide)⟩
  refine w_go z_hl [] [14] 30 hr ?_
  intro H hH
  have e : y_fr h H [] [] := y_st (y_rf hr) hH (by repeat (first | exact w_nil | refine w_cons (Or.inl (y_m rfl)) ?_ | refine w_cons (Or.inr (by assumption)) ?_)) (by repeat (first | exact w_nil | refine w_cons (Or.inl (y_m rfl)) ?_ | refine w_cons (Or.inr (by assumption)) ?_))
  refine c_hasAll (v := a) e.1 ((y_fe e rfl).trans g0) h0 h10 (fun H2 h2 v1 v2 => ⟨fun n e => (by cases e), ?_⟩) (fun H2 h2 nv => ⟨fun n e => (by cases e), ?_⟩)
  · exact T5 ⟨v1, v2⟩ (y_sq e h2 rfl rfl)
  · exact T5n nv (y_sq e h2 rfl rfl)
theorem c_weight {h : aH} (hr : w_hr z_D h) {a nd F G fr : Int32} {le lc lo de ta fo wl : List Int32} (hn : c_net h nd F G le lc lo de ta fo) (hf : ∀ k : Nat, (k : Int) < nd.toInt → -1 ≤ y_N fo k ∧ y_N fo k ≤ 1) (gf : w_f h 143 = some (.int fr)) (a9 : w_a h 9 = some (0, .inl wl)) (l9 : wl.length = 1024) (hw : fr.toInt ≠ 0 → c_wk nd le de ta fo nd.toInt.toNat wl) (hK : ∀ (H : aH) (wl' : List Int32) (r : Int32), y_fr h H [143] [9] → w_f H 143 = some (.int (Int32.ofInt 1)) → w_a H 9 = some (0, .inl wl') → c_wk nd le de ta fo nd.toInt.toNat wl' → (n_wtV a nd → r = wl'.getD a.toInt.toNat 0) → (¬ n_wtV a nd → r = Int32.ofInt (-1)) → K0 (some (.int r)) H C S) : aOK s_P X (d + 3) a_m28 0 [some (.ref 2), some (.int a)] [] h C S K0 := by
  have b0 := hn.2.2.1
  have g0 := hn.1.1
  have T15 : ∀ {J : aH} {wl' : List Int32} {r : Int32}, y_fr h J [143] [9] → w_f J 143 = some (.int (Int32.ofInt 1)) → w_a J 9 = some (0, .inl wl') → c_wk nd le de ta fo nd.toInt.toNat wl' → (n_wtV a nd → r = wl'.getD a.toInt.toNat 0) → (¬ n_wtV a nd → r = Int32.ofInt (-1)) → aOK s_P X (d + 3) a_m28 15 [some (.ref 2), some (.int a)] [.int r] J C S K0 := by
    intro J wl' r e u1 u2 u3 y n
    refine w_go z_hl [] [] 20 e.1 ?_
    intro H hH
    have f : y_fr J H [] [] := y_st (y_rf e.1) hH (by repeat (first | exact w_nil | refine w_cons (Or.inl (y_m rfl)) ?_ | refine w_cons (Or.inr (by assumption)) ?_)) (by repeat (first | exact w_nil | refine w_cons (Or.inl (y_m rfl)) ?_ | refine w_cons (Or.inr (by assumption)) ?_))
    exact hK H wl' r (y_sq e f rfl rfl) ((y_fe f rfl).trans u1) ((y_ae f rfl).trans u2) u3 y n
  have T7 : ∀ {J : aH} {wl' : List Int32}, y_fr h J [143] [9] → w_f J 143 = some (.int (Int32.ofInt 1)) → w_a J 9 = some (0, .inl wl') → c_wk nd le de ta fo nd.toInt.toNat wl' → aOK s_P X (d + 3) a_m28 7 [some (.ref 2), some (.int a)] [] J C S K0 := by
    intro J wl' e u1 u2 u3
    refine w_go z_hl [] [32] 30 e.1 ?_
    intro H hH
    have f : y_fr J H [] [] := y_st (y_rf e.1) hH (by repeat (first | exact w_nil | refine w_cons (Or.inl (y_m rfl)) ?_ | refine w_cons (Or.inr (by assumption)) ?_)) (by repeat (first | exact w_nil | refine w_cons (Or.inl (y_m rfl)) ?_ | refine w_cons (Or.inr (by assumption)) ?_))
    have e2 : y_fr h H [143] [9] := y_sq e f rfl rfl
    refine c_weightOf (d := d + 1) (a := a) e2.1 ((y_fe e2 rfl).trans g0) b0.1 b0.2 ((y_ae f rfl).trans u2) (fun q H3 h3 => ⟨fun n e => (by cases e), ?_⟩) (fun q H3 h3 => ⟨fun n e => (by cases e), ?_⟩)
    · exact T15 (y_sq e2 h3 rfl rfl) ((y_fe h3 rfl).trans ((y_fe f rfl).trans u1)) ((y_ae h3 rfl).trans ((y_ae f rfl).trans u2)) u3 (fun _ => rfl) (fun w => absurd q w)
    · exact T15 (y_sq e2 h3 rfl rfl) ((y_fe h3 rfl).trans ((y_fe f rfl).trans u1)) ((y_ae h3 rfl).trans ((y_ae f rfl).trans u2)) u3 (fun w => absurd w q) (fun _ => rfl)
  refine w_go z_hl [] [29] 30 hr ?_
  intro H hH
  have e : y_fr h H [] [] := y_st (y_rf hr) hH (by repeat (first | exact w_nil | refine w_cons (Or.inl (y_m rfl)) ?_ | refine w_cons (Or.inr (by assumption)) ?_)) (by repeat (first | exact w_nil | refine w_cons (Or.inl (y_m rfl)) ?_ | refine w_cons (Or.inr (by assumption)) ?_))
  refine c_refresh (d := d) e.1 (c_net_y hn e rfl rfl) hf ((y_fe e rfl).trans gf) ((y_ae e rfl).trans a9) l9 hw (fun H2 wl' f u1 u2 u3 => ⟨fun n e => (by cases e), ?_⟩)
  exact T7 (y_sq (y_mo e rfl rfl) f rfl rfl) u1 u2 u3
theorem f_weight {h : aH} (hr : w_hr z_D h) (hJ : y_J h) {a nd : Int32} {le de ta fo : List Int32} (m1 : w_f h 19591 = some (.int nd)) (m2 : w_a h 156 = some (0, .inl le)) (m3 : w_a h 157 = some (0, .inl de)) (m4 : w_a h 158 = some (0, .inl ta)) (m5 : w_a h 159 = some (0, .inl fo)) (hk : ∀ (r : Int32) (H : aH), y_fr h H [19584] [] → (n_wtV a nd → r.toInt = y_W nd le de ta fo a.toInt.toNat nd.toInt.toNat) → (¬ n_wtV a nd → r = Int32.ofInt (-1)) → K0 (some (.int r)) H C S) : aOK s_P X (d + 2) a_m183 0 [some (.ref 155), some (.int a)] [] h C S K0 := by
  obtain ⟨nd0, le0, de0, ta0, n1, n2, n3, n4, c1, c2, c3, c4, c5⟩ := id hJ.1
  obtain rfl := y_fi m1 n1
  obtain rfl := y_ai m2 n2
  obtain rfl := y_ai m3 n3
  obtain rfl := y_ai m4 n4
  obtain ⟨b1, b2⟩ := y_ndb hr n1
  obtain ⟨ea, l1, l2⟩ := y_all b1 b2
  have net : y_net h nd le de ta fo := ⟨n1, n2, n3, n4, m5, c1, c2, c3, c4⟩
  have T18 : ∀ {G : aH} {x : Int64}, n_wtV a nd → x.toInt = y_W nd le de ta fo a.toInt.toNat nd.toInt.toNat → y_fr h G [19584] [] → aOK s_P X (d + 2) a_m183 18 [some (.ref 155), some (.int a)] [.long x] G C S K0 := by
    intro G x q hx e
    have hta : ∀ x ∈ ta, 0 ≤ x.toInt := by
      obtain ⟨l, g1, g2, g3⟩ := w_arrI hr (o := 158) (t := 0) (n := 80) (lo := 0) (hi := 10000000) (by decide) rfl
      have e := (w_a_at g1).symm.trans n4
      cases e
      exact fun x hx => (g3 x hx).1
    have wb := y_W_b net b2 hta (wy := a.toInt.toNat) (k := nd.toInt.toNat) (by omega)
    refine w_go z_hl [] [] 30 e.1 ?_
    exact fun H hH => hk _ H (y_st e hH (by repeat (first | exact w_nil | refine w_cons (Or.inl (y_m rfl)) ?_ | refine w_cons (Or.inr (by assumption)) ?_)) (by repeat (first | exact w_nil | refine w_cons (Or.inl (y_m rfl)) ?_ | refine w_cons (Or.inr (by assumption)) ?_))) (fun _ => by rw [y_l2i (by omega) (by omega)]; exact hx) (fun w => absurd q w)
  have T10 : ∀ {G : aH}, n_wtV a nd → y_fr h G [19584] [] → aOK s_P X (d + 2) a_m183 10 [some (.ref 155), some (.int a)] [.int (y_01 true)] G C S K0 := by
    intro G q e
    obtain ⟨v1, v2⟩ := id q
    refine w_go z_hl [] [184] 30 e.1 ?_
    refine ⟨fun q => absurd q (by decide), fun _ => fun H hH => ?_⟩
    have e2 := y_st e hH (by repeat (first | exact w_nil | refine w_cons (Or.inl (y_m rfl)) ?_ | refine w_cons (Or.inr (by assumption)) ?_)) (by repeat (first | exact w_nil | refine w_cons (Or.inl (y_m rfl)) ?_ | refine w_cons (Or.inr (by assumption)) ?_))
    refine y_weightOf (wy := a.toInt.toNat) (by omega) (by omega) e2.1 (y_net_fr2 e2 rfl rfl net) b1 (fun r H2 e3 hr3 => ⟨fun n e => (by cases e), ?_⟩)
    exact T18 q hr3 (y_sq e2 e3 rfl rfl)
  have T10n : ∀ {G : aH}, ¬ n_wtV a nd → y_fr h G [19584] [] → aOK s_P X (d + 2) a_m183 10 [some (.ref 155), some (.int a)] [.int (y_01 false)] G C S K0 := by
    intro G q e
    refine w_go z_hl [] [] 30 e.1 ?_
    exact ⟨fun _ => fun H hH => hk _ H (y_st e hH (by repeat (first | exact w_nil | refine w_cons (Or.inl (y_m rfl)) ?_ | refine w_cons (Or.inr (by assumption)) ?_)) (by repeat (first | exact w_nil | refine w_cons (Or.inl (y_m rfl)) ?_ | refine w_cons (Or.inr (by assumption)) ?_))) (fun w => absurd w q) (fun _ => rfl), fun q => absurd q (by decide)⟩
  refine w_go z_hl [] [174] 30 hr ?_
  refine ⟨rfl, y_zini (by decide) (by decide), fun H hH => ?_⟩
  have e : y_fr h H [19584] [] := y_st (y_mo (y_rf hr) rfl rfl) hH (by repeat (first | exact w_nil | refine w_cons (Or.inl (y_m rfl)) ?_ | refine w_cons (Or.inr (by assumption)) ?_)) (by repeat (first | exact w_nil | refine w_cons (Or.inl (y_m rfl)) ?_ | refine w_cons (Or.inr (by assumption)) ?_))
  refine y_isSet (v := a) e.1 ((y_fe e rfl).trans n1) b1 b2 (fun H3 h3 => ⟨fun n e => (by cases e), ?_⟩)
  cases hset : decide (0 ≤ a.toInt ∧ a.toInt < (y_ways nd : Int)) with
  | true => exact T10 (of_decide_eq_true hset) (y_sq e h3 rfl rfl)
  | false => exact T10n (of_decide_eq_false hset) (y_sq e h3 rfl rfl)
end NWT
theorem n_c28 {X : aX} : n_pc X a_m28 1 false n_s28 := by
  intro us h v C S K0 hl _ hI hc hm hk
  match us, hl with
  | [a], _ =>
    have f0 := hc.1 128 (by decide)
    have b0 := n_bd (lo := 0) (hi := 10) hI.1 f0 rfl
    obtain ⟨lc, lo, wl, fr, q8, q9, q10, q11, q12, q13⟩ := n_toW hI.1 hI.2.1.1 hc hm
    refine c_weight (d := 197) (a := a) hI.1 q8 q9 q10 q11 q12 q13 (fun H wl' r e u1 u2 u3 y n => ?_)
    have er : r = (n_s28 [a] v).2 := by
      by_cases q : n_wtV a (v 128)
      · rw [show (n_s28 [a] v).2 = Int32.ofInt (y_W (v 128) (n_ls v 701000 10) (n_ls v 702000 10) (n_ls v 700000 80) (n_ls v 704000 10) a.toInt.toNat (v 128).toInt.toNat) from if_pos q, y q]
        have q2 : a.toInt < ((2 ^ (v 128).toInt.toNat : Nat) : Int) := q.2
        have q1 := q.1
        have wb := c_W_b q8.2.2 (k := (v 128).toInt.toNat) (w := a.toInt.toNat) (by omega)
        refine Int32.toInt_inj.mp ?_
        rw [u3.2 _ (by omega), Int32.toInt_ofInt, show (Int32.size : Nat) = 4294967296 from rfl]
        exact (Int.bmod_eq_of_le (by omega) (by omega)).symm
      · rw [show (n_s28 [a] v).2 = Int32.ofInt (-1) from if_neg q]
        exact n q
    rw [er]
    obtain ⟨fr', hc'⟩ := n_ofW e.1 hc (fun k hk' e3 => e.2.1 k (fun w => e3 (List.mem_singleton.mp w))) (fun o _ e9 => e.2.2 o (fun w => e9 (List.mem_singleton.mp w))) ⟨lc, lo, wl', _, c_net_y q8 e rfl rfl, q9, u1, u2, u3.1, fun _ => u3⟩
    have e1 : n_up v 143 fr' 143 = Int32.ofInt 1 := y_fi (hc'.1 143 (by decide)) u1
    have e2 : fr' = Int32.ofInt 1 := e1
    rw [e2] at hc'
    exact hk H ⟨e.1, y_jfr y_JA_x e rfl rfl hI.2.1, t_day_frc e rfl hI.2.2⟩ hc' (n_mS_V (n_fm_ok e rfl) hm)
theorem n_r183 {X : aX} : n_pr X a_m183 1 false n_s28 := by
  intro us h w v C S K0 hl _ hI hc hm hk
  match us, hl with
  | [a], _ =>
    have g0 : w_f h 19591 = some (.int (v 128)) := hm.1 (128, 19591) (by decide)
    have b0 := n_bd (lo := 0) (hi := 10) hI.1 g0 rfl
    obtain ⟨fo, o1, o2, o3⟩ := id hm.2.1.2.2.2.2.2.2.1
    refine f_weight (d := 198) (a := a) hI.1 hI.2.1.1 g0 hm.2.1.2.2.1 hm.2.1.2.2.2.1 hm.2.1.2.2.2.2.1 o1 (fun r H e y n => ?_)
    have er : r = (n_s28 [a] v).2 := by
      by_cases q : n_wtV a (v 128)
      · rw [show (n_s28 [a] v).2 = Int32.ofInt (y_W (v 128) (n_ls v 701000 10) (n_ls v 702000 10) (n_ls v 700000 80) (n_ls v 704000 10) a.toInt.toNat (v 128).toInt.toNat) from if_pos q]
        have ew : y_W (v 128) (n_ls v 701000 10) (n_ls v 702000 10) (n_ls v 700000 80) (n_ls v 704000 10) a.toInt.toNat (v 128).toInt.toNat = y_W (v 128) (n_ls v 701000 10) (n_ls v 702000 10) (n_ls v 700000 80) fo a.toInt.toNat (v 128).toInt.toNat := y_W_fo (fun u hu => by
          unfold y_N
          rw [n_ls_at (by omega), o3 u (by omega)])
        have yr := y q
        refine Int32.toInt_inj.mp ?_
        rw [ew, ← yr, Int32.ofInt_toInt]
      · rw [show (n_s28 [a] v).2 = Int32.ofInt (-1) from if_neg q]
        exact n q
    rw [er]
    exact hk H ⟨e.1, ⟨y_J_fr e rfl rfl hI.2.1.1, j_say_e e rfl rfl hI.2.1.2.1, j_cost_e e rfl rfl hI.2.1.2.2⟩, t_day_fr e rfl hI.2.2⟩ (n_cS_V (n_fk_c (ex := []) e rfl) hc) (n_mV_3 (n_mS_V (n_fk_m e rfl) hm))
end PT33he
section PT33hf
/-! ===== v11: sums of weights over what is seen (laid by wip/tools/mk11c.py) ===== -/
def c_ok (g : Nat → Int) : Nat → Nat → Bool
  | 0, _ => true
  | k + 1, w => c_ok g k w && ((!decide (g k = 1) || w.testBit k) && (!decide (g k = 0) || !w.testBit k))
theorem c_ok_iff {g : Nat → Int} {w : Nat} : ∀ {k : Nat}, c_ok g k w = true ↔ ∀ j, j < k → (g j = 1 → w.testBit j = true) ∧ (g j = 0 → w.testBit j = false) := by
  intro k
  induction k with
  | zero => exact ⟨fun _ j hj => absurd hj (Nat.not_lt_zero j), fun _ => rfl⟩
  | succ k ih =>
    show (c_ok g k w && ((!decide (g k = 1) || w.testBit k) && (!decide (g k = 0) || !w.testBit k))) = true ↔ _
    have one : ((!decide (g k = 1) || w.testBit k) && (!decide (g k = 0) || !w.testBit k)) = true ↔ (g k = 1 → w.testBit k = true) ∧ (g k = 0 → w.testBit k = false) := by
      by_cases h1 : g k = 1
      · have h0 : ¬ g k = 0 := by omega
        rw [decide_eq_true h1, decide_eq_false h0]
        cases w.testBit k
        · exact ⟨fun q => absurd q (by decide), fun q => absurd (q.1 h1) (by decide)⟩
        · exact ⟨fun _ => ⟨fun _ => rfl, fun q => absurd q h0⟩, fun _ => rfl⟩
      · by_cases h0 : g k = 0
        · rw [decide_eq_false h1, decide_eq_true h0]
          cases w.testBit k
          · exact ⟨fun _ => ⟨fun q => absurd q h1, fun _ => rfl⟩, fun _ => rfl⟩
          · exact ⟨fun q => absurd q (by decide), fun q => absurd (q.2 h0) (by decide)⟩
        · rw [decide_eq_false h1, decide_eq_false h0]
          exact ⟨fun _ => ⟨fun q => absurd q h1, fun q => absurd q h0⟩, fun _ => rfl⟩
    rw [Bool.and_eq_true, one, ih]
    constructor
    · intro h j hj
      by_cases q : j = k
      · subst q
        exact h.2
      · exact h.1 j (by omega)
    · intro h
      exact ⟨fun j hj => h j (by omega), h k (by omega)⟩
/-- the sum over all ways that are as g tells (1 so, 0 not, else free) -/
def c_T (f : Nat → Int) (n : Nat) (g : Nat → Int) : Int := y_S (fun w => if c_ok g n w then f w else 0) (2 ^ n)
def c_up (g : Nat → Int) (k : Nat) (x : Int) : Nat → Int := fun j => if j = k then x else g j
/-- and have one as it is told besides -/
def c_TW (f : Nat → Int) (n : Nat) (g : Nat → Int) (k : Nat) (x : Int) : Int := if 0 ≤ g k ∧ g k ≠ x then 0 else c_T f n (c_up g k x)
section NTS
variable {f f' g g' : Nat → Int} {n k m b : Nat} {x : Int}
theorem c_T_c (hf : ∀ w, w < 2 ^ n → f w = f' w) (hg : ∀ j, j < n → g j = g' j) : c_T f n g = c_T f' n g' := by
  refine c_yS_c (fun w hw => ?_)
  have e : c_ok g n w = c_ok g' n w := Bool.eq_iff_iff.mpr (by
    rw [c_ok_iff, c_ok_iff]
    exact ⟨fun h j hj => by rw [← hg j hj]; exact h j hj, fun h j hj => by rw [hg j hj]; exact h j hj⟩)
  show (if c_ok g n w then f w else 0) = (if c_ok g' n w then f' w else 0)
  rw [e, hf w hw]
theorem c_T_b (f0 : ∀ i, i < 2 ^ n → 0 ≤ f i) : 0 ≤ c_T f n g ∧ c_T f n g ≤ y_S f (2 ^ n) := by
  constructor
  · have h := c_yS_le (f := fun _ => 0) (g := fun w => if c_ok g n w then f w else 0) (n := 2 ^ n) (fun i hi => by
      show (0 : Int) ≤ if c_ok g n i then f i else 0
      split
      · exact f0 i hi
      · exact Int.le_refl 0)
    rw [c_yS_0] at h
    exact h
  · refine c_yS_le (fun i hi => ?_)
    show (if c_ok g n i then f i else 0) ≤ f i
    split
    · exact Int.le_refl _
    · exact f0 i hi
theorem c_TW_b (f0 : ∀ i, i < 2 ^ n → 0 ≤ f i) : 0 ≤ c_TW f n g k x ∧ c_TW f n g k x ≤ y_S f (2 ^ n) := by
  unfold c_TW
  split
  · have := c_T_b (n := n) (g := g) f0
    omega
  · exact c_T_b f0
theorem c_T_S (hm : ∀ j, j < n → m.testBit j = decide (0 ≤ g j)) (hb : ∀ j, j < n → b.testBit j = decide (g j = 1)) (hg : ∀ j, j < n → g j ≤ 1) : c_S m b f n 0 = c_T f n g := by
  rw [← c_S_P]
  refine c_yS_c (fun w hw => ?_)
  have e : c_P m b n w = c_ok g n w := Bool.eq_iff_iff.mpr (by
    rw [c_P_iff, c_ok_iff]
    constructor
    · intro h j hj
      refine ⟨fun q => ?_, fun q => ?_⟩
      · rw [h j hj (by rw [hm j hj]; exact decide_eq_true (by omega)), hb j hj]
        exact decide_eq_true q
      · rw [h j hj (by rw [hm j hj]; exact decide_eq_true (by omega)), hb j hj]
        exact decide_eq_false (by omega)
    · intro h j hj q
      rw [hm j hj] at q
      have q := of_decide_eq_true q
      have := hg j hj
      rw [hb j hj]
      by_cases z : g j = 1
      · rw [decide_eq_true z]
        exact (h j hj).1 z
      · rw [decide_eq_false z]
        exact (h j hj).2 (by omega))
  show (if c_P m b n w then f (0 ||| w) else 0) = _
  rw [e, Nat.zero_or]
theorem c_yS_pl {p q : Nat → Int} : ∀ {n : Nat}, y_S (fun w => p w + q w) n = y_S p n + y_S q n
  | 0 => rfl
  | n + 1 => by
    show y_S (fun w => p w + q w) n + (p n + q n) = y_S p n + p n + (y_S q n + q n)
    rw [c_yS_pl]
    omega
theorem c_upk : c_up g k x k = x := if_pos rfl
theorem c_upo {j : Nat} (h : j ≠ k) : c_up g k x j = g j := if_neg h
theorem c_up_s (h : g k = x) : c_T f n (c_up g k x) = c_T f n g := c_T_c (fun _ _ => rfl) (fun j _ => by
  by_cases e : j = k
  · rw [e, c_upk, h]
  · exact c_upo e)
/-- one way or the other -/
theorem c_T_sp (hk : k < n) (h0 : -1 ≤ g k) (h1 : g k ≤ 1) : c_T f n g = c_TW f n g k 1 + c_TW f n g k 0 := by
  unfold c_TW
  by_cases z1 : g k = 1
  · rw [if_neg (by omega), if_pos (by omega), c_up_s z1]
    omega
  · by_cases z0 : g k = 0
    · rw [if_pos (by omega), if_neg (by omega), c_up_s z0]
      omega
    · rw [if_neg (by omega), if_neg (by omega)]
      show y_S _ (2 ^ n) = y_S _ (2 ^ n) + y_S _ (2 ^ n)
      rw [← c_yS_pl]
      refine c_yS_c (fun w hw => ?_)
      have e1 : c_ok (c_up g k 1) n w = (c_ok g n w && w.testBit k) := Bool.eq_iff_iff.mpr (by
        rw [Bool.and_eq_true, c_ok_iff, c_ok_iff]
        constructor
        · intro h
          refine ⟨fun j hj => ?_, (h k hk).1 c_upk⟩
          by_cases e : j = k
          · rw [e]
            exact ⟨fun q => absurd q z1, fun q => absurd q z0⟩
          · have := h j hj
            rw [c_upo e] at this
            exact this
        · intro h j hj
          by_cases e : j = k
          · rw [e, c_upk]
            exact ⟨fun _ => h.2, fun q => absurd q (by decide)⟩
          · rw [c_upo e]
            exact h.1 j hj)
      have e0 : c_ok (c_up g k 0) n w = (c_ok g n w && !w.testBit k) := Bool.eq_iff_iff.mpr (by
        rw [Bool.and_eq_true, Bool.not_eq_true', c_ok_iff, c_ok_iff]
        constructor
        · intro h
          refine ⟨fun j hj => ?_, (h k hk).2 c_upk⟩
          by_cases e : j = k
          · rw [e]
            exact ⟨fun q => absurd q z1, fun q => absurd q z0⟩
          · have := h j hj
            rw [c_upo e] at this
            exact this
        · intro h j hj
          by_cases e : j = k
          · rw [e, c_upk]
            exact ⟨fun q => absurd q (by decide), fun _ => h.2⟩
          · rw [c_upo e]
            exact h.1 j hj)
      show (if c_ok g n w then f w else 0) = (if c_ok (c_up g k 1) n w then f w else 0) + (if c_ok (c_up g k 0) n w then f w else 0)
      rw [e1, e0]
      cases c_ok g n w <;> cases w.testBit k
      · show (0 : Int) = 0 + 0
        rfl
      · show (0 : Int) = 0 + 0
        rfl
      · show f w = 0 + f w
        omega
      · show f w = f w + 0
        omega
end NTS
/-- bits that tell a state of each -/
def c_gb (F G : Int32) (n : Nat) (g : Nat → Int) : Prop := (0 ≤ F.toInt ∧ F.toInt < ((2 ^ n : Nat) : Int)) ∧ (0 ≤ G.toInt ∧ G.toInt < ((2 ^ n : Nat) : Int)) ∧ ∀ j, j < n → F.toInt.toNat.testBit j = decide (0 ≤ g j) ∧ G.toInt.toNat.testBit j = decide (g j = 1) ∧ -1 ≤ g j ∧ g j ≤ 1
/-- weights of the class -/
def c_ws (h : aH) (n : Nat) (f : Nat → Int) : Prop := ∃ (nd : Int32) (wl : List Int32), w_f h 128 = some (.int nd) ∧ nd.toInt = n ∧ n ≤ 10 ∧ w_a h 9 = some (0, .inl wl) ∧ (∀ i, i < 2 ^ n → (wl.getD i 0).toInt = f i) ∧ (∀ i, 0 ≤ f i) ∧ y_S f (2 ^ n) ≤ 100000000
theorem c_ws_fr {h H : aH} {n : Nat} {f : Nat → Int} {fs as : List Nat} (e : y_fr h H fs as) (h1 : fs.elem 128 = false) (h2 : as.elem 9 = false) (q : c_ws h n f) : c_ws H n f := by
  obtain ⟨nd, wl, g0, q1, q2, a9, q3⟩ := q
  exact ⟨nd, wl, (e.2.1 _ (n_nel h1)).trans g0, q1, q2, (e.2.2 _ (n_nel h2)).trans a9, q3⟩
theorem c_fb_lt {A B : Int32} {o n : Nat} {b : Bool} (n10 : n ≤ 10) (on : o < n) (a0 : 0 ≤ A.toInt) (a1 : A.toInt < ((2 ^ n : Nat) : Int)) (hb : c_fb A B o b) : 0 ≤ B.toInt ∧ B.toInt < ((2 ^ n : Nat) : Int) := by
  refine ⟨hb.1.1, ?_⟩
  have h1 : B.toInt.toNat < 2 ^ n := Nat.lt_pow_two_of_testBit _ (fun k hk => by
    by_cases k10 : k < 10
    · have h3 := hb.2 k k10
      rw [if_neg (by omega), n_tb0 a0 a1 hk] at h3
      exact h3
    · exact c_fb_hi hb.1 (by omega))
  have := hb.1.1
  omega
theorem c_0shl {x : Int32} {k : Nat} (hx : x.toInt = k) (k10 : k < 10) : y_01 false <<< (x &&& 31) = Int32.ofInt 0 := by
  rw [(y_ofNat hx (by omega)).1]
  rcases (show k = 0 ∨ k = 1 ∨ k = 2 ∨ k = 3 ∨ k = 4 ∨ k = 5 ∨ k = 6 ∨ k = 7 ∨ k = 8 ∨ k = 9 by omega) with rfl | rfl | rfl | rfl | rfl | rfl | rfl | rfl | rfl | rfl <;> decide
abbrev c_01 (s : Bool) : Int := if s then 1 else 0
theorem c_gb_up {F G node : Int32} {n k : Nat} {g : Nat → Int} {s : Bool} (hg : c_gb F G n g) (n10 : n ≤ 10) (hk : node.toInt = k) (kn : k < n) (nc : ¬ (0 ≤ g k ∧ g k ≠ c_01 s)) : c_gb (F ||| (Int32.ofInt 1 <<< (node &&& 31))) (G ||| (y_01 s <<< (node &&& 31))) n (c_up g k (c_01 s)) := by
  obtain ⟨⟨p1, p2⟩, ⟨p3, p4⟩, p5⟩ := hg
  have pw : 2 ^ n ≤ 2 ^ 10 := n_p2 n10
  have bF := c_fb1 (F := F) (k := node) p1 (by omega) hk (by omega)
  have lF := c_fb_lt n10 kn p1 p2 bF
  cases s with
  | true =>
    have bG : c_fb G (G ||| (y_01 true <<< (node &&& 31))) k true := c_fb1 (F := G) (k := node) p3 (by omega) hk (by omega)
    refine ⟨lF, c_fb_lt n10 kn p3 p4 bG, fun j hj => ?_⟩
    rw [bF.2 j (by omega), bG.2 j (by omega)]
    by_cases e : j = k
    · rw [if_pos e, if_pos e, e, c_upk]
      exact ⟨rfl, rfl, by decide, by decide⟩
    · rw [if_neg e, if_neg e, c_upo e]
      exact p5 j hj
  | false =>
    rw [c_0shl hk (by omega), i_or0]
    refine ⟨lF, ⟨p3, p4⟩, fun j hj => ?_⟩
    rw [bF.2 j (by omega)]
    by_cases e : j = k
    · rw [if_pos e, e, c_upk, (p5 k kn).2.1]
      refine ⟨rfl, ?_, by decide, by decide⟩
      have z : ¬ (0 ≤ g k ∧ g k ≠ 0) := nc
      rw [decide_eq_false (show ¬ g k = 1 by omega)]
      rfl
    · rw [if_neg e, c_upo e]
      exact p5 j hj
section NTC
variable {X : aX} {C S d : Nat} {K0 : Option Value → aH → Nat → Nat → Prop}
theorem c_weighG {h : aH} (hr : w_hr z_D h) {n : Nat} {f g : Nat → Int} {mask bits : Int32} (hw : c_ws h n f) (hg : c_gb mask bits n g) (hK : ∀ (H : aH) (s : Int32), y_fr h H [] [] → s.toInt = c_T f n g → K0 (some (.int s)) H C S) : aOK s_P X (d + 1) a_m36 0 [some (.ref 3), some (.int mask), some (.int bits), none, none, none, none, none] [] h C S K0 := by
  obtain ⟨nd, wl, g0, en, n10, a9, wf, f0, f8⟩ := hw
  obtain ⟨⟨p1, p2⟩, ⟨p3, p4⟩, p5⟩ := hg
  have en' : nd.toInt.toNat = n := by omega
  refine c_weigh (d := d) (m := mask.toInt.toNat) (b := bits.toInt.toNat) (f := f) hr g0 (by omega) (by omega) (by omega) (by omega) (by rw [en']; omega) (fun j hj => ?_) a9 (by rw [en']; exact wf) f0 (by rw [en']; exact f8) (fun H s e hs => hK H s e ?_)
  · by_cases z : j < n
    · rw [(p5 j z).2.1] at hj
      have := of_decide_eq_true hj
      rw [(p5 j z).1]
      exact decide_eq_true (by omega)
    · rw [n_tb0 p3 p4 (by omega)] at hj
      cases hj
  · rw [hs, en']
    exact c_T_S (fun j hj => (p5 j hj).1) (fun j hj => (p5 j hj).2.1) (fun j hj => (p5 j hj).2.2.2)
theorem c_weighWith {h : aH} (hr : w_hr z_D h) {n k : Nat} {f g : Nat → Int} {mask bits node : Int32} {s : Bool} (hw : c_ws h n f) (hg : c_gb mask bits n g) (hk : node.toInt = k) (kn : k < n) (hK : ∀ (H : aH) (r : Int32), y_fr h H [] [] → r.toInt = c_TW f n g k (c_01 s) → K0 (some (.int r)) H C S) : aOK s_P X (d + 2) a_m38 0 [some (.ref 3), some (.int mask), some (.int bits), some (.int node), some (.int (y_01 s))] [] h C S K0 := by
  have n10 : n ≤ 10 := by
    obtain ⟨nd, wl, g0, en, n10, -⟩ := hw
    exact n10
  obtain ⟨⟨p1, p2⟩, ⟨p3, p4⟩, p5⟩ := id hg
  have pw : 2 ^ n ≤ 2 ^ 10 := n_p2 n10
  have m1 := c_b01 (bits := mask) (k := node) (b := mask.toInt.toNat) (o := k) (by omega) (by omega) hk (by omega)
  have m2 := c_b01 (bits := bits) (k := node) (b := bits.toInt.toNat) (o := k) (by omega) (by omega) hk (by omega)
  obtain ⟨u1, u2, u3, u4⟩ := p5 k kn
  rw [u1] at m1
  rw [u2] at m2
  have T20 : ∀ {G : aH}, y_fr h G [] [] → ¬ (0 ≤ g k ∧ g k ≠ c_01 s) → aOK s_P X (d + 2) a_m38 20 [some (.ref 3), some (.int mask), some (.int bits), some (.int node), some (.int (y_01 s))] [] G C S K0 := by
    intro G e nc
    refine w_go z_hl [] [36] 40 e.1 ?_
    intro H hH
    have e2 : y_fr h H [] [] := y_st e hH (by repeat (first | exact w_nil | refine w_cons (Or.inl (y_m rfl)) ?_ | refine w_cons (Or.inr (by assumption)) ?_)) (by repeat (first | exact w_nil | refine w_cons (Or.inl (y_m rfl)) ?_ | refine w_cons (Or.inr (by assumption)) ?_))
    refine c_weighG (d := d) e2.1 (c_ws_fr e2 rfl rfl hw) (c_gb_up hg n10 hk kn nc) (fun H3 r f3 hr3 => ⟨fun n e => (by cases e), ?_⟩)
    have e3 := y_sq e2 f3 rfl rfl
    refine w_go z_hl [] [] 20 e3.1 ?_
    intro H4 h4
    exact hK H4 r (y_st e3 h4 (by repeat (first | exact w_nil | refine w_cons (Or.inl (y_m rfl)) ?_ | refine w_cons (Or.inr (by assumption)) ?_)) (by repeat (first | exact w_nil | refine w_cons (Or.inl (y_m rfl)) ?_ | refine w_cons (Or.inr (by assumption)) ?_))) (by rw [hr3]; exact (if_neg nc).symm)
  refine w_go z_hl [20] [] 60 hr ?_
  refine ⟨fun q => fun H hH => ?_, fun q => ⟨fun q2 => fun H hH => ?_, fun q2 => fun H hH => ?_⟩⟩
  · have z : ((mask >>> (node &&& 31)) &&& Int32.ofInt 1).toInt = (0 : Int32).toInt := (y_ci .eq _ _).mp q
    have z2 : ((mask >>> (node &&& 31)) &&& Int32.ofInt 1).toInt = 0 := z
    refine T20 (y_st (y_rf hr) hH (by repeat (first | exact w_nil | refine w_cons (Or.inl (y_m rfl)) ?_ | refine w_cons (Or.inr (by assumption)) ?_)) (by repeat (first | exact w_nil | refine w_cons (Or.inl (y_m rfl)) ?_ | refine w_cons (Or.inr (by assumption)) ?_))) (fun w => ?_)
    rw [decide_eq_true w.1, if_pos rfl] at m1
    omega
  · have z : ((bits >>> (node &&& 31)) &&& Int32.ofInt 1).toInt = (y_01 s).toInt := (y_ci .eq _ _).mp q2
    refine T20 (y_st (y_rf hr) hH (by repeat (first | exact w_nil | refine w_cons (Or.inl (y_m rfl)) ?_ | refine w_cons (Or.inr (by assumption)) ?_)) (by repeat (first | exact w_nil | refine w_cons (Or.inl (y_m rfl)) ?_ | refine w_cons (Or.inr (by assumption)) ?_))) (fun w => ?_)
    rw [m2] at z
    cases s with
    | true =>
      rw [show (y_01 true).toInt = 1 by decide] at z
      have w2 : g k ≠ 1 := w.2
      rw [decide_eq_false w2, if_neg (by decide)] at z
      omega
    | false =>
      rw [show (y_01 false).toInt = 0 by decide] at z
      have w1 := w.1
      have w2 : g k ≠ 0 := w.2
      rw [decide_eq_true (show g k = 1 by omega), if_pos rfl] at z
      omega
  · have z0 : ¬ (((mask >>> (node &&& 31)) &&& Int32.ofInt 1).toInt = (0 : Int32).toInt) := y_cif q
    have z : ¬ (((bits >>> (node &&& 31)) &&& Int32.ofInt 1).toInt = (y_01 s).toInt) := y_cif q2
    have nc : 0 ≤ g k ∧ g k ≠ c_01 s := by
      have w1 : 0 ≤ g k := by
        by_cases w : 0 ≤ g k
        · exact w
        · rw [decide_eq_false w, if_neg (by decide)] at m1
          exact absurd (show _ = (0 : Int32).toInt from m1) z0
      refine ⟨w1, fun w => z ?_⟩
      rw [m2]
      cases s with
      | true =>
        have w2 : g k = 1 := w
        rw [decide_eq_true w2]
        decide
      | false =>
        have w2 : g k = 0 := w
        rw [decide_eq_false (show ¬ g k = 1 by omega)]
        decide
    exact hK H _ (y_st (y_rf hr) hH (by repeat (first | exact w_nil | refine w_cons (Or.inl (y_m rfl)) ?_ | refine w_cons (Or.inr (by assumption)) ?_)) (by repeat (first | exact w_nil | refine w_cons (Or.inl (y_m rfl)) ?_ | refine w_cons (Or.inr (by assumption)) ?_))) (by rw [show c_TW f n g k (c_01 s) = 0 from if_pos nc]; decide)
end NTC
/-- by what is held -/
def n_W (v : Nat → Int32) (w : Nat) : Int := y_W (v 128) (n_ls v 701000 10) (n_ls v 702000 10) (n_ls v 700000 80) (n_ls v 704000 10) w (v 128).toInt.toNat
def n_sg (v : Nat → Int32) (k : Nat) : Int := (v (705000 + k)).toInt
def n_now (v : Nat → Int32) : Int := c_T (n_W v) ((v 128).toInt.toNat) (n_sg v)
def n_nwW (v : Nat → Int32) (k : Nat) (s : Bool) : Int := c_TW (n_W v) ((v 128).toInt.toNat) (n_sg v) k (c_01 s)
/-- what a call leaves that works the weights, then tells a row -/
def z_qm : List Nat := [143, 1152, 1281, 1408, 19328, 19329, 19456, 19457]
def n_Qs (v : Nat → Int32) (h H : aH) : Prop := w_hr z_D H ∧ y_JA H ∧ z_frm z_D z_qm h H ∧ n_Wv v H ∧ w_f H 143 = some (.int (Int32.ofInt 1))
section NQS
variable {X : aX} {C S d : Nat} {K0 : Option Value → aH → Nat → Nat → Prop} {h G H : aH} {v : Nat → Int32}
theorem n_Qs_y (q : n_Qs v h G) (e : y_fr G H [] []) : n_Qs v h H := ⟨e.1, y_jfr y_JA_x e rfl rfl q.2.1, z_frm_tr q.2.2.1 (y_frm q.1 e rfl rfl), n_Wv_p G H (fun k _ => e.2.1 k List.not_mem_nil) (fun o _ => e.2.2 o List.not_mem_nil) q.2.2.2.1, (y_fe e rfl).trans q.2.2.2.2⟩
theorem n_Qs_l (hr : w_hr z_D h) (e : y_fr h G [] []) (q : n_Qs v G H) : n_Qs v h H := ⟨q.1, q.2.1, z_frm_tr (y_frm hr e rfl rfl) q.2.2.1, q.2.2.2⟩
theorem n_Qs_z {ms : List Nat} (q : n_Qs v h G) (hr' : w_hr z_D H) (hJ' : y_JA H) (hf : z_frm z_D ms G H) (h1 : ms.all (fun x => z_qm.elem x) = true) (h2 : z_pm ms = true) : n_Qs v h H := by
  unfold z_pm at h2
  rw [Bool.and_eq_true] at h2
  have A : ∀ k ∈ z_pF, w_f H k = w_f G k := fun k hk => n_dk q.1 hf (List.all_eq_true.mp z_pd k hk) (by
    have := List.all_eq_true.mp h2.1 k hk
    rw [Bool.not_eq_true'] at this
    exact this)
  have B : ∀ o ∈ z_pA, w_a H o = w_a G o := fun o ho => n_da hf (List.all_eq_true.mp z_pd2 o ho) (by
    have := List.all_eq_true.mp h2.2 o ho
    rw [Bool.not_eq_true'] at this
    exact this)
  exact ⟨hr', hJ', z_frm_tr q.2.2.1 (n_zmo hf h1), n_Wv_p G H A B q.2.2.2.1, (A 143 (by decide)).trans q.2.2.2.2⟩
theorem c_refreshQ (hr : w_hr z_D h) (hJ : y_JA h) (hW : n_Wv v h) (hK : ∀ H, n_Qs v h H → K0 none H C S) : aOK s_P X (d + 2) a_m29 0 [some (.ref 3), none] [] h C S K0 := by
  obtain ⟨lc, lo, wl, fr, q8, q9, q10, q11, q12, q13⟩ := hW
  refine c_refresh (d := d) hr q8 q9 q10 q11 q12 q13 (fun H wl' f u1 u2 u3 => hK H ?_)
  exact ⟨f.1, y_jfr y_JA_x f rfl rfl hJ, y_frm hr f rfl rfl, ⟨lc, lo, wl', _, c_net_y q8 f rfl rfl, q9, u1, u2, u3.1, fun _ => u3⟩, u1⟩
theorem n_W_s {F G : Int32} {lc lo : List Int32} (q : c_nok (v 128) F G (n_ls v 701000 10) lc lo (n_ls v 702000 10) (n_ls v 700000 80) (n_ls v 704000 10)) : (∀ i, 0 ≤ n_W v i) ∧ y_S (n_W v) (2 ^ (v 128).toInt.toNat) ≤ 100000000 := by
  obtain ⟨b, -, -, q4, q5, q6, q7⟩ := id q
  refine ⟨fun i => (c_W_b q (by omega)).1, ?_⟩
  refine Int.le_trans (y_fa_sum (n := (v 128).toInt.toNat) (le := y_Nn (n_ls v 701000 10)) (de := y_N (n_ls v 702000 10)) (ta := y_N (n_ls v 700000 80)) (fo := y_N (n_ls v 704000 10)) (fun u hu => (q4 u (by omega)).1) (fun u hu => Nat.le_trans (y_pl_m (show (v 128).toInt.toNat ≤ 10 by omega)) (q4 u (by omega)).2.1) (fun u c hu hc => ?_) (fun u hu => Int.le_trans (by decide) (q6 u (by omega)).1)) q7
  have h1 := q5 (8 * u + c) (by omega)
  rw [show (8 * u + c) / 8 = u by omega] at h1
  exact h1
theorem n_Qs_ws (q : n_Qs v h G) : c_ws G ((v 128).toInt.toNat) (n_W v) := by
  obtain ⟨lc, lo, wl, fr, q8, q9, q10, q11, q12, q13⟩ := q.2.2.2.1
  have e : fr = Int32.ofInt 1 := y_fi q10 q.2.2.2.2
  have wk := q13 (by rw [e]; decide)
  have b0 := q8.2.2.1
  obtain ⟨s1, s2⟩ := n_W_s q8.2.2
  exact ⟨v 128, wl, q8.1.1, by omega, by omega, q11, wk.2, s1, s2⟩
theorem n_Qs_sn (hr : w_hr z_D h) (hc : n_cV h v) (q : n_Qs v h G) : w_f G 138 = some (.int (v 138)) ∧ w_f G 139 = some (.int (v 139)) ∧ c_gb (v 138) (v 139) ((v 128).toInt.toNat) (n_sg v) := by
  have hm : n_mk z_qm [143, 1152] = true := by decide +kernel
  obtain ⟨p1, p2, p3⟩ := id hc.2.2.2.2.2.2.2.2.2.2.2.2.1
  refine ⟨(n_mk_c hr q.2.2.1 hm 138 (by decide) (by decide)).trans (hc.1 138 (by decide)), (n_mk_c hr q.2.2.1 hm 139 (by decide) (by decide)).trans (hc.1 139 (by decide)), p1, p2, fun j hj => ?_⟩
  exact p3 j (by omega)
theorem n_Qs_pc (hI : t_I h) (hc : n_cV h v) (hm : n_mV h v) (q : n_Qs v h H) : t_I H ∧ n_cV H (n_up v 143 (Int32.ofInt 1)) ∧ n_mV H v := by
  obtain ⟨q1, q2, q3, q4, q5⟩ := q
  have h6 : n_mk z_qm [143, 1152] = true := by decide +kernel
  have A1 : ∀ k ∈ nC, k ≠ 143 → w_f H k = w_f h k := fun k hk e => n_mk_c hI.1 q3 h6 k hk (fun w => by
    have z : nC.all (fun k => decide (k ≠ 1152)) = true := rfl
    have z := of_decide_eq_true (List.all_eq_true.mp z k hk)
    simp only [List.mem_cons, List.not_mem_nil, or_false] at w
    omega)
  have A2 : ∀ o ∈ nCA, o ≠ 9 → w_a H o = w_a h o := fun o ho e => n_mk_a q3 h6 o ho (fun w => by
    simp only [List.mem_cons, List.not_mem_nil, or_false] at w
    omega)
  obtain ⟨fr, hc'⟩ := n_ofW q1 hc A1 A2 q4
  have e1 : n_up v 143 fr 143 = Int32.ofInt 1 := y_fi (hc'.1 143 (by decide)) q5
  have e2 : fr = Int32.ofInt 1 := e1
  rw [e2] at hc'
  exact ⟨⟨q1, q2, t_day_frm hI.1 q3 (by decide) hI.2.2⟩, hc', n_mS_V (n_mk_m (ex := [143, 1152]) hI.1 q3 h6) hm⟩
theorem c_wNow (hr : w_hr z_D h) (hc : n_cV h v) (q : n_Qs v h G) (hK : ∀ (H : aH) (r : Int32), n_Qs v h H → r.toInt = n_now v → K0 (some (.int r)) H C S) : aOK s_P X (d + 2) a_m35 0 [some (.ref 3)] [] G C S K0 := by
  obtain ⟨g1, g2, gb⟩ := n_Qs_sn hr hc q
  refine w_go z_hl [] [36] 40 q.1 ?_
  intro x hx _ _
  obtain rfl := y_fi g1 hx
  intro y hy _ _
  obtain rfl := y_fi g2 hy
  intro H hH
  have e : y_fr G H [] [] := y_st (y_rf q.1) hH (by repeat (first | exact w_nil | refine w_cons (Or.inl (y_m rfl)) ?_ | refine w_cons (Or.inr (by assumption)) ?_)) (by repeat (first | exact w_nil | refine w_cons (Or.inl (y_m rfl)) ?_ | refine w_cons (Or.inr (by assumption)) ?_))
  refine c_weighG (d := d) e.1 (c_ws_fr e rfl rfl (n_Qs_ws q)) gb (fun H3 r f3 hr3 => ⟨fun n e => (by cases e), ?_⟩)
  refine w_go z_hl [] [] 20 f3.1 ?_
  intro H4 h4
  exact hK H4 r (n_Qs_y q (y_st (y_sq e f3 rfl rfl) h4 (by repeat (first | exact w_nil | refine w_cons (Or.inl (y_m rfl)) ?_ | refine w_cons (Or.inr (by assumption)) ?_)) (by repeat (first | exact w_nil | refine w_cons (Or.inl (y_m rfl)) ?_ | refine w_cons (Or.inr (by assumption)) ?_)))) hr3
theorem c_weighNowWith (hr : w_hr z_D h) (hc : n_cV h v) (q : n_Qs v h G) {node : Int32} {k : Nat} {s : Bool} (hk : node.toInt = k) (kn : k < (v 128).toInt.toNat) (hK : ∀ (H : aH) (r : Int32), n_Qs v h H → r.toInt = n_nwW v k s → K0 (some (.int r)) H C S) : aOK s_P X (d + 3) a_m37 0 [some (.ref 3), some (.int node), some (.int (y_01 s))] [] G C S K0 := by
  obtain ⟨g1, g2, gb⟩ := n_Qs_sn hr hc q
  refine w_go z_hl [] [38] 40 q.1 ?_
  intro x hx _ _
  obtain rfl := y_fi g1 hx
  intro y hy _ _
  obtain rfl := y_fi g2 hy
  intro H hH
  have e : y_fr G H [] [] := y_st (y_rf q.1) hH (by repeat (first | exact w_nil | refine w_cons (Or.inl (y_m rfl)) ?_ | refine w_cons (Or.inr (by assumption)) ?_)) (by repeat (first | exact w_nil | refine w_cons (Or.inl (y_m rfl)) ?_ | refine w_cons (Or.inr (by assumption)) ?_))
  refine c_weighWith (d := d) (s := s) e.1 (c_ws_fr e rfl rfl (n_Qs_ws q)) gb hk kn (fun H3 r f3 hr3 => ⟨fun n e => (by cases e), ?_⟩)
  refine w_go z_hl [] [] 20 f3.1 ?_
  intro H4 h4
  exact hK H4 r (n_Qs_y q (y_st (y_sq e f3 rfl rfl) h4 (by repeat (first | exact w_nil | refine w_cons (Or.inl (y_m rfl)) ?_ | refine w_cons (Or.inr (by assumption)) ?_)) (by repeat (first | exact w_nil | refine w_cons (Or.inl (y_m rfl)) ?_ | refine w_cons (Or.inr (by assumption)) ?_)))) hr3
/-- a fraction is put, and told -/
theorem c_put1 (q : n_Qs v h G) {a b : Int64} (hK : ∀ H, n_Qs v h H → K0 none H C S) : aOK s_P X (d + 1) a_m39 0 [some (.ref 153), some (.long a), none, some (.long b), none, none, none] [] G C S K0 := by
  have b1 := a.toInt_lt
  have b2 := a.le_toInt
  have b3 := b.toInt_lt
  have b4 := b.le_toInt
  exact n_boxv [.long a, .long b] (z_x13_s (y_jx_l y_JA_x)) rfl rfl rfl q.1 q.2.1 (n_Bl (by omega) (by omega) (n_Bl (by omega) (by omega) n_B0)) (fun q hq => by cases hq) (by decide) rfl (by decide +kernel) (fun H' r1 r2 r3 => hK H' (n_Qs_z q r1 r2 r3 (by decide) (by decide)))
theorem c_tell1 (q : n_Qs v h G) (hK : ∀ H, n_Qs v h H → K0 none H C S) : aOK s_P X (d + 2) a_m42 0 [some (.ref 12), some (.ref 153)] [] G C S K0 := n_boxv [] (z_x17_s (y_jx_l y_JA_x)) rfl rfl rfl q.1 q.2.1 n_B0 (fun q hq => by cases hq) (by decide) rfl (by decide +kernel) (fun H' r1 r2 r3 => hK H' (n_Qs_z q r1 r2 r3 (by decide) (by decide)))
end NQS
/-- the reference's sums -/
theorem y_ws_S {wl : List Int64} {a b : Int32} : ∀ {n : Nat}, y_ws wl a b n = y_S (fun w => if y_sel a b (Int32.ofNat w) then (wl.getD w 0).toInt else 0) n
  | 0 => rfl
  | n + 1 => by
    show y_ws wl a b n + _ = y_S _ n + _
    rw [y_ws_S]
theorem c_and_i {x y : Int32} {n m : Nat} (hx : x.toInt = n) (hy : y.toInt = m) : (x &&& y = y ↔ ∀ j, m.testBit j = true → n.testBit j = true) ∧ (x &&& y = 0 ↔ ∀ j, m.testBit j = true → n.testBit j = false) := by
  have e := c_and hx hy
  constructor
  · constructor
    · intro h j hj
      have h2 : n &&& m = m := by
        rw [h, hy] at e
        omega
      have h3 : (n &&& m).testBit j = true := by rw [h2]; exact hj
      rw [Nat.testBit_and, Bool.and_eq_true] at h3
      exact h3.1
    · intro h
      refine Int32.toInt_inj.mp ?_
      rw [e, hy]
      have : n &&& m = m := Nat.eq_of_testBit_eq (fun j => by
        rw [Nat.testBit_and]
        cases hj : m.testBit j with
        | true => rw [h j hj]; rfl
        | false => exact Bool.and_false _)
      rw [this]
  · constructor
    · intro h j hj
      have h2 : n &&& m = 0 := by
        rw [h, show (0 : Int32).toInt = 0 by decide] at e
        omega
      have h3 : (n &&& m).testBit j = false := by rw [h2]; exact Nat.zero_testBit j
      rw [Nat.testBit_and, hj, Bool.and_true] at h3
      exact h3
    · intro h
      refine Int32.toInt_inj.mp ?_
      rw [e, show (0 : Int32).toInt = 0 by decide]
      have : n &&& m = 0 := Nat.eq_of_testBit_eq (fun j => by
        rw [Nat.testBit_and, Nat.zero_testBit]
        cases hj : m.testBit j with
        | true => rw [h j hj]; rfl
        | false => exact Bool.and_false _)
      rw [this]
      rfl
theorem y_sel_i {a b : Int32} {A B w : Nat} (ha : a.toInt = A) (hb : b.toInt = B) (w10 : w < 1024) : y_sel a b (Int32.ofNat w) = true ↔ ∀ j, (A.testBit j = true → w.testBit j = true) ∧ (B.testBit j = true → w.testBit j = false) := by
  have hw : (Int32.ofNat w).toInt = w := Int32.toInt_ofNat_of_lt (by omega)
  unfold y_sel
  rw [Bool.and_eq_true, decide_eq_true_eq, decide_eq_true_eq, (c_and_i hw ha).1, (c_and_i hw hb).2]
  exact ⟨fun h j => ⟨h.1 j, h.2 j⟩, fun h => ⟨fun j => (h j).1, fun j => (h j).2⟩⟩
theorem y_bits_N {p : Nat → Bool} : ∀ {n : Nat}, n ≤ 10 → ∃ A : Nat, (y_bits p n).toInt = A ∧ A < 1024 ∧ ∀ j, A.testBit j = (decide (j < n) && p j) := by
  intro n
  induction n with
  | zero =>
    intro _
    refine ⟨0, show (Int32.ofInt 0).toInt = ((0 : Nat) : Int) by decide, by decide, fun j => ?_⟩
    rw [Nat.zero_testBit, decide_eq_false (Nat.not_lt_zero j)]
    rfl
  | succ n ih =>
    intro n10
    obtain ⟨A, h1, h2, h3⟩ := ih (by omega)
    have hn : (Int32.ofNat n).toInt = n := Int32.toInt_ofNat_of_lt (by omega)
    have sh := c_shlN hn (by omega)
    have p10 : 2 ^ n < 2 ^ 10 := Nat.pow_lt_pow_right (by decide) (by omega)
    cases hp : p n with
    | true =>
      have e : y_bits p (n + 1) = y_bits p n ||| (Int32.ofInt 1 <<< (Int32.ofNat n &&& 31)) := by
        show y_bits p n ||| cond (p n) _ _ = _
        rw [hp]
        rfl
      obtain ⟨o1, o2⟩ := c_orN h1 sh h2 (by omega)
      refine ⟨_, by rw [e]; exact o1, o2, fun j => ?_⟩
      rw [Nat.testBit_or, h3 j, Nat.testBit_two_pow]
      by_cases z : n = j
      · subst z
        rw [decide_eq_true (rfl : n = n), decide_eq_true (Nat.lt_succ_self n), hp, Bool.or_true]
        rfl
      · rw [decide_eq_false z, Bool.or_false]
        by_cases y : j < n
        · rw [decide_eq_true y, decide_eq_true (show j < n + 1 by omega)]
        · rw [decide_eq_false y, decide_eq_false (show ¬ j < n + 1 by omega)]
    | false =>
      have e : y_bits p (n + 1) = y_bits p n := by
        show y_bits p n ||| cond (p n) _ _ = _
        rw [hp]
        exact i_or0 _
      refine ⟨A, by rw [e]; exact h1, h2, fun j => ?_⟩
      rw [h3 j]
      by_cases z : j = n
      · subst z
        rw [hp, Bool.and_false, Bool.and_false]
      · by_cases y : j < n
        · rw [decide_eq_true y, decide_eq_true (show j < n + 1 by omega)]
        · rw [decide_eq_false y, decide_eq_false (show ¬ j < n + 1 by omega)]
/-- a sum of the reference, where no bit is asked both ways -/
theorem y_ws_T {wl : List Int64} {a b : Int32} {A B n : Nat} {f g : Nat → Int} (ha : a.toInt = A) (hb : b.toInt = B) (n10 : n ≤ 10) (hA : ∀ j, A.testBit j = true ↔ (j < n ∧ g j = 1)) (hB : ∀ j, B.testBit j = true ↔ (j < n ∧ g j = 0)) (hf : ∀ w, w < 2 ^ n → (wl.getD w 0).toInt = f w) : y_ws wl a b (2 ^ n) = c_T f n g := by
  have pw : 2 ^ n ≤ 2 ^ 10 := Nat.pow_le_pow_right (by decide) n10
  rw [y_ws_S]
  refine c_yS_c (fun w hw => ?_)
  have e : y_sel a b (Int32.ofNat w) = c_ok g n w := Bool.eq_iff_iff.mpr (by
    rw [y_sel_i ha hb (by omega), c_ok_iff]
    constructor
    · intro h j hj
      exact ⟨fun q => (h j).1 ((hA j).mpr ⟨hj, q⟩), fun q => (h j).2 ((hB j).mpr ⟨hj, q⟩)⟩
    · intro h j
      exact ⟨fun q => (h j ((hA j).mp q).1).1 ((hA j).mp q).2, fun q => (h j ((hB j).mp q).1).2 ((hB j).mp q).2⟩)
  show (if y_sel a b (Int32.ofNat w) then (wl.getD w 0).toInt else 0) = (if c_ok g n w then f w else 0)
  rw [e, hf w hw]
/-- and 0 where one is -/
theorem y_ws_0 {wl : List Int64} {a b : Int32} {A B n j : Nat} (ha : a.toInt = A) (hb : b.toInt = B) (n10 : n ≤ 10) (jA : A.testBit j = true) (jB : B.testBit j = true) : y_ws wl a b (2 ^ n) = 0 := by
  have pw : 2 ^ n ≤ 2 ^ 10 := Nat.pow_le_pow_right (by decide) n10
  rw [y_ws_S, c_yS_c (g := fun _ => 0) (fun w hw => ?_), c_yS_0]
  have e : y_sel a b (Int32.ofNat w) = false := by
    cases q : y_sel a b (Int32.ofNat w) with
    | false => rfl
    | true =>
      have h := (y_sel_i ha hb (by omega)).mp q j
      have := h.1 jA
      rw [h.2 jB] at this
      cases this
  show (if y_sel a b (Int32.ofNat w) then (wl.getD w 0).toInt else 0) = 0
  rw [e]
  rfl
/-- what is seen but one -/
def n_bu (g : Nat → Int) (but : Int32) (j : Nat) : Int := if (j : Int) = but.toInt then -1 else g j
theorem y_pS_i {sa : List Int32} {but : Int32} {j n : Nat} {g : Nat → Int} (hs : ∀ j, j < n → y_N sa j = g j) (hj : j < n) : y_pS sa but j = true ↔ n_bu g but j = 1 := by
  unfold y_pS n_bu
  rw [Bool.and_eq_true, Bool.not_eq_true', decide_eq_false_iff_not, decide_eq_true_eq, hs j hj]
  by_cases e : (j : Int) = but.toInt
  · rw [if_pos e]
    exact ⟨fun q => absurd e q.1, fun q => absurd q (by decide)⟩
  · rw [if_neg e]
    exact ⟨fun q => q.2, fun q => ⟨e, q⟩⟩
theorem y_pN_i {sa : List Int32} {but : Int32} {j n : Nat} {g : Nat → Int} (hs : ∀ j, j < n → y_N sa j = g j) (hj : j < n) : y_pN sa but j = true ↔ n_bu g but j = 0 := by
  unfold y_pN n_bu
  rw [Bool.and_eq_true, Bool.not_eq_true', decide_eq_false_iff_not, decide_eq_true_eq, hs j hj]
  by_cases e : (j : Int) = but.toInt
  · rw [if_pos e]
    exact ⟨fun q => absurd e q.1, fun q => absurd q (by decide)⟩
  · rw [if_neg e]
    exact ⟨fun q => q.2, fun q => ⟨e, q⟩⟩
theorem y_nw_T {sa : List Int32} {nd but : Int32} {wl : List Int64} {n : Nat} {f g : Nat → Int} {s : Bool} (hn : nd.toInt = n) (n10 : n ≤ 10) (hs : ∀ j, j < n → y_N sa j = g j) (hf : ∀ w, w < 2 ^ n → (wl.getD w 0).toInt = f w) : y_nw sa nd wl (Int32.ofInt (-1)) s but = c_T f n (n_bu g but) := by
  have en : nd.toInt.toNat = n := by omega
  obtain ⟨A, a1, a2, a3⟩ := y_bits_N (p := y_pS sa but) n10
  obtain ⟨B, b1, b2, b3⟩ := y_bits_N (p := y_pN sa but) n10
  unfold y_nw
  have eb : y_bt (Int32.ofInt (-1)) = Int32.ofInt 0 := by decide
  have ew : y_ways nd = 2 ^ n := by unfold y_ways; rw [en]
  rw [eb, en, ew, show cond s (Int32.ofInt 0) (Int32.ofInt 0) = Int32.ofInt 0 by cases s <;> rfl, i_or0, i_or0]
  refine y_ws_T a1 b1 n10 (fun j => ?_) (fun j => ?_) hf
  · rw [a3 j, Bool.and_eq_true, decide_eq_true_eq]
    exact ⟨fun q => ⟨q.1, (y_pS_i hs q.1).mp q.2⟩, fun q => ⟨q.1, (y_pS_i hs q.1).mpr q.2⟩⟩
  · rw [b3 j, Bool.and_eq_true, decide_eq_true_eq]
    exact ⟨fun q => ⟨q.1, (y_pN_i hs q.1).mp q.2⟩, fun q => ⟨q.1, (y_pN_i hs q.1).mpr q.2⟩⟩
theorem y_nw_W {sa : List Int32} {nd node but : Int32} {wl : List Int64} {n k : Nat} {f g : Nat → Int} {s : Bool} (hn : nd.toInt = n) (n10 : n ≤ 10) (hk : node.toInt = k) (kn : k < n) (hs : ∀ j, j < n → y_N sa j = g j) (h1 : g k ≤ 1) (hf : ∀ w, w < 2 ^ n → (wl.getD w 0).toInt = f w) : y_nw sa nd wl node s but = c_TW f n (n_bu g but) k (c_01 s) := by
  have en : nd.toInt.toNat = n := by omega
  obtain ⟨A, a1, a2, a3⟩ := y_bits_N (p := y_pS sa but) n10
  obtain ⟨B, b1, b2, b3⟩ := y_bits_N (p := y_pN sa but) n10
  have a4 : ∀ j, A.testBit j = true ↔ (j < n ∧ n_bu g but j = 1) := fun j => by
    rw [a3 j, Bool.and_eq_true, decide_eq_true_eq]
    exact ⟨fun q => ⟨q.1, (y_pS_i hs q.1).mp q.2⟩, fun q => ⟨q.1, (y_pS_i hs q.1).mpr q.2⟩⟩
  have b4 : ∀ j, B.testBit j = true ↔ (j < n ∧ n_bu g but j = 0) := fun j => by
    rw [b3 j, Bool.and_eq_true, decide_eq_true_eq]
    exact ⟨fun q => ⟨q.1, (y_pN_i hs q.1).mp q.2⟩, fun q => ⟨q.1, (y_pN_i hs q.1).mpr q.2⟩⟩
  have g1 : n_bu g but k ≤ 1 := by
    unfold n_bu
    split
    · decide
    · exact h1
  have p10 : 2 ^ k < 2 ^ 10 := Nat.pow_lt_pow_right (by decide) (by omega)
  have sh := c_shlN hk (by omega)
  have eb : y_bt node = Int32.ofInt 1 <<< (node &&& 31) := if_neg (by omega)
  have ew : y_ways nd = 2 ^ n := by unfold y_ways; rw [en]
  unfold y_nw
  rw [eb, en, ew]
  have ob : ∀ {D j : Nat}, (D ||| 2 ^ k).testBit j = true ↔ (D.testBit j = true ∨ k = j) := fun {D j} => by
    rw [Nat.testBit_or, Nat.testBit_two_pow, Bool.or_eq_true, decide_eq_true_eq]
  cases s with
  | true =>
    rw [show cond true (Int32.ofInt 1 <<< (node &&& 31)) (Int32.ofInt 0) = Int32.ofInt 1 <<< (node &&& 31) from rfl, show cond true (Int32.ofInt 0) (Int32.ofInt 1 <<< (node &&& 31)) = Int32.ofInt 0 from rfl, i_or0]
    obtain ⟨o1, o2⟩ := c_orN a1 sh a2 (by omega)
    by_cases z : 0 ≤ n_bu g but k ∧ n_bu g but k ≠ 1
    · rw [show c_TW f n (n_bu g but) k (c_01 true) = 0 from if_pos z]
      exact y_ws_0 (j := k) o1 b1 n10 (ob.mpr (Or.inr rfl)) ((b4 k).mpr ⟨kn, by omega⟩)
    · rw [show c_TW f n (n_bu g but) k (c_01 true) = c_T f n (c_up (n_bu g but) k 1) from if_neg z]
      refine y_ws_T o1 b1 n10 (fun j => ?_) (fun j => ?_) hf
      · rw [ob, a4 j]
        by_cases e : j = k
        · rw [e, c_upk]
          exact ⟨fun _ => ⟨kn, rfl⟩, fun _ => Or.inr rfl⟩
        · rw [c_upo e]
          exact ⟨fun q => q.resolve_right (fun w => e w.symm), fun q => Or.inl q⟩
      · rw [b4 j]
        by_cases e : j = k
        · rw [e, c_upk]
          exact ⟨fun q => absurd ⟨by omega, by omega⟩ z, fun q => absurd q.2 (by decide)⟩
        · rw [c_upo e]
  | false =>
    rw [show cond false (Int32.ofInt 1 <<< (node &&& 31)) (Int32.ofInt 0) = Int32.ofInt 0 from rfl, show cond false (Int32.ofInt 0) (Int32.ofInt 1 <<< (node &&& 31)) = Int32.ofInt 1 <<< (node &&& 31) from rfl, i_or0]
    obtain ⟨o1, o2⟩ := c_orN b1 sh b2 (by omega)
    by_cases z : 0 ≤ n_bu g but k ∧ n_bu g but k ≠ 0
    · rw [show c_TW f n (n_bu g but) k (c_01 false) = 0 from if_pos z]
      exact y_ws_0 (j := k) a1 o1 n10 ((a4 k).mpr ⟨kn, by omega⟩) (ob.mpr (Or.inr rfl))
    · rw [show c_TW f n (n_bu g but) k (c_01 false) = c_T f n (c_up (n_bu g but) k 0) from if_neg z]
      refine y_ws_T a1 o1 n10 (fun j => ?_) (fun j => ?_) hf
      · rw [a4 j]
        by_cases e : j = k
        · rw [e, c_upk]
          exact ⟨fun q => absurd ⟨by omega, by omega⟩ z, fun q => absurd q.2 (by decide)⟩
        · rw [c_upo e]
      · rw [ob, b4 j]
        by_cases e : j = k
        · rw [e, c_upk]
          exact ⟨fun _ => ⟨kn, rfl⟩, fun _ => Or.inr rfl⟩
        · rw [c_upo e]
          exact ⟨fun q => q.resolve_right (fun w => e w.symm), fun q => Or.inl q⟩
theorem n_bu_n {g : Nat → Int} {j : Nat} : n_bu g (Int32.ofInt (-1)) j = g j := by
  unfold n_bu
  exact if_neg (by rw [show (Int32.ofInt (-1)).toInt = -1 by decide]; omega)
section NRS
variable {X : aX} {C S d : Nat} {K0 : Option Value → aH → Nat → Nat → Prop} {h : aH} {v : Nat → Int32}
/-- the reference's weights, by what is held -/
theorem f_up (hr : w_hr z_D h) (hJ : y_J h) (hm : n_mV h v) (hK : ∀ (wl : List Int64) (H : aH), y_fr h H [] [163] → y_J H → y_wl H wl → (∀ i, i < 2 ^ (v 128).toInt.toNat → (wl.getD i 0).toInt = n_W v i) → K0 none H C S) : aOK s_P X (d + 2) a_m188 0 [some (.ref 155), none] [] h C S K0 := by
  obtain ⟨q1, q2, q3, q4, q5, q6, q7⟩ := id hJ
  obtain ⟨nd, le, de, ta, n1, n2, n3, n4, c1, c2, c3, c4, c5⟩ := id q1
  obtain ⟨nd', wl, w1, w2, w3, w4, w5⟩ := q4
  obtain rfl := y_fi n1 w1
  have g0 : w_f h 19591 = some (.int (v 128)) := hm.1 (128, 19591) (by decide)
  have e0 : nd = v 128 := y_fi n1 g0
  have e1 : le = n_ls v 701000 10 := y_ai n2 hm.2.1.2.2.1
  have e2 : de = n_ls v 702000 10 := y_ai n3 hm.2.1.2.2.2.1
  have e3 : ta = n_ls v 700000 80 := y_ai n4 hm.2.1.2.2.2.2.1
  obtain ⟨fo, o1, o2, o3⟩ := id hm.2.1.2.2.2.2.2.2.1
  obtain ⟨b1, b2⟩ := y_ndb hr n1
  have net : y_net h nd le de ta fo := ⟨n1, n2, n3, n4, o1, c1, c2, c3, c4⟩
  refine y_weighsUp hr net w2 w5 (fun wl' H e hw' hok => ?_)
  have net2 : y_net H nd le de ta fo := y_net_fr2 e rfl rfl net
  have hwl := y_wok_wl net2 e.1 b1 b2 hw' hok
  refine hK wl' H e ⟨j_net_e (y_fe e rfl) (y_ae e rfl) (y_ae e rfl) (y_ae e rfl) q1, j_dp_e (y_fe e rfl) (y_fe e rfl) (y_ae e rfl) q2, j_old_e (y_ae e rfl) (y_ae e rfl) (y_ae e rfl) (y_ae e rfl) (y_ae e rfl) (y_ae e rfl) q3, ⟨nd, wl', (y_fe e rfl).trans n1, hw', hwl.2.1, hwl.2.2, hok.2⟩, j_seen_e (y_fe e rfl) (y_fe e rfl) (y_ae e rfl) (y_ae e rfl) q5, j_kept_e (y_fe e rfl) (y_ae e rfl) (y_ae e rfl) (y_ae e rfl) (y_ae e rfl) q6, j_land_e (y_fe e rfl) (y_ae e rfl) q7⟩ hwl (fun i hi => ?_)
  have hi' : i < y_ways nd := by rw [e0]; exact hi
  have b3 : (v 128).toInt ≤ 10 := by rw [← e0]; exact b2
  rw [hok.1 i hi', e0, e1, e2, e3]
  unfold n_W
  exact y_W_fo (fun u hu => by
    unfold y_N
    rw [n_ls_at (by omega), o3 u (by omega)])
/-- what the reference has seen, by what is held -/
theorem f_sn (hr : w_hr z_D h) (hJ : y_J h) (hm : n_mV h v) : ∃ sa : List Int32, w_a h 160 = some (0, .inl sa) ∧ (∀ j, j < (v 128).toInt.toNat → y_N sa j = n_sg v j) ∧ (∀ j, j < (v 128).toInt.toNat → -1 ≤ n_sg v j ∧ n_sg v j ≤ 1) ∧ (v 128).toInt = (v 128).toInt.toNat ∧ (v 128).toInt.toNat ≤ 10 := by
  have g0 : w_f h 19591 = some (.int (v 128)) := hm.1 (128, 19591) (by decide)
  have b0 := n_bd (lo := 0) (hi := 10) hr g0 rfl
  obtain ⟨sa, u1, u2, u3⟩ := id hm.2.1.2.2.2.2.2.2.2.2.1
  obtain ⟨l, l1, l2, l3⟩ := c_arr hr (ob := 160) (n := 10) rfl
  have el : l = sa := y_ai l1 u1
  have sj : ∀ j, j < (v 128).toInt.toNat → y_N sa j = n_sg v j := fun j hj => congrArg Int32.toInt (u3 j (by omega) (by omega))
  refine ⟨sa, u1, sj, fun j hj => ?_, by omega, by omega⟩
  rw [← sj j hj]
  rw [el] at l2 l3
  exact l3 _ (z_gd (0 : Int32) (by omega))
end NRS
end PT33hf
