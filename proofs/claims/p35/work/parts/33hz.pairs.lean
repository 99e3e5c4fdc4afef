section PT33he
/-! ===== v10: weight (laid by wip/tools/mk10f.py) ===== -/
theorem y_wt_F {F F' : Nat → Nat → Int} {w : Nat} : ∀ {k : Nat}, (∀ v, v < k → F' v w = F v w) → y_wt F' w k = y_wt F w k
  | 0, _ => rfl
  | k + 1, h => by
    show y_wt F' w k * F' k w = y_wt F w k * F k w
    rw [y_wt_F (fun v hv => h v (by omega)), h k (by omega)]
theorem y_W_fo {nd : Int32} {le de ta fo fo' : List Int32} {w k : Nat} (h : ∀ v, v < k → y_N fo' v = y_N fo v) : y_W nd le de ta fo' w k = y_W nd le de ta fo w k := y_wt_F (fun v hv => by
  unfold y_fa
  rw [h v hv])
theorem y_l2i {x : Int64} (h0 : 0 ≤ x.toInt) (h1 : x.toInt ≤ 2147483647) : x.toInt32.toInt = x.toInt := by
  rw [Int64.toInt_toInt32]
  exact Int.bmod_eq_of_le (by omega) (by omega)
abbrev n_wtV (a nd : Int32) : Prop := 0 ≤ a.toInt ∧ a.toInt < (y_ways nd : Int)
noncomputable def n_s28 (us : List Int32) (v : Nat → Int32) : (Nat → Int32) × Int32 := match us with
  | [a] => (n_up v 143 (Int32.ofInt 1), if n_wtV a (v 128) then Int32.ofInt (y_W (v 128) (n_ls v 701000 10) (n_ls v 702000 10) (n_ls v 700000 80) (n_ls v 704000 10) a.toInt.toNat (v 128).toInt.toNat) else Int32.ofInt (-1))
  | _ => (v, 0)
section NWT
variable {X : aX} {C S d : Nat} {K0 : Option Value → aH → Nat → Nat → Prop}
theorem c_weightOf {h : aH} (hr : w_hr z_D h) {a nd : Int32} {wl : List Int32} (g0 : w_f h 128 = some (.int nd)) (h0 : 0 ≤ nd.toInt) (h10 : nd.toInt ≤ 10) (a9 : w_a h 9 = some (0, .inl wl)) (yes : n_wtV a nd → ∀ H, y_fr h H [] [] → K0 (some (.int (wl.getD a.toInt.toNat 0))) H C S) (no : ¬ n_wtV a nd → ∀ H, y_fr h H [] [] → K0 (some (.int (Int32.ofInt (-1)))) H C S) : aOK s_P X (d + 1) a_m32 0 [some (.ref 3), some (.int a)] [] h C S K0 := by
  have T5 : ∀ {G : aH}, n_wtV a nd → y_fr h G [] [] → aOK s_P X (d + 1) a_m32 5 [some (.ref 3), some (.int a)] [.int (y_01 true)] G C S K0 := by
    intro G q e
    obtain ⟨v1, v2⟩ := id q
    have wle : y_ways nd ≤ 1024 := (y_all h0 h10).2.2
    refine w_go z_hl [] [] 40 e.1 ?_
    refine ⟨fun q => absurd q (by decide), fun _ => ⟨⟨by omega, by omega⟩, fun l hl len bb => fun H hH => ?_⟩⟩
    obtain rfl := y_ai ((y_ae e rfl).trans a9) hl
    exact yes q H (y_st e hH (by repeat (first | exact w_nil | refine w_cons (Or.inl (y_m rfl)) ?_ | refine w_cons (Or.inr (by assumption)) ?_)) (by repeat (first | exact w_nil | refine w_cons (Or.inl (y_m rfl)) ?_ | refine w_cons (Or.inr (by assumption)) ?_)))
  have T5n : ∀ {G : aH}, ¬ n_wtV a nd → y_fr h G [] [] → aOK s_P X (d + 1) a_m32 5 [some (.ref 3), some (.int a)] [.int (y_01 false)] G C S K0 := by
    intro G nv e
    refine w_go z_hl [] [] 40 e.1 ?_
    exact ⟨fun _ => fun H hH => no nv H (y_st e hH (by repeat (first | exact w_nil | refine w_cons (Or.inl (y_m rfl)) ?_ | refine w_cons (Or.inr (by assumption)) ?_)) (by repeat (first | exact w_nil | refine w_cons (Or.inl (y_m rfl)) ?_ | refine w_cons (Or.inr (by assumption)) ?_))), fun q => absurd q (by decide)⟩
  refine w_go z_hl [] [14] 30 hr ?_
  intro H hH
  have e : y_fr h H [] [] := y_st (y_rf hr) hH (by repeat (first | exact w_nil | refine w_cons (Or.inl (y_m rfl)) ?_ | refine w_cons (Or.inr (by assumption)) ?_)) (by repeat (first | exact w_nil | refine w_cons (Or.inl (y_m rfl)) ?_ | refine w_cons (Or.inr (by assumption)) ?_))
  refine c_hasAll (v := a) e.1 ((y_fe e rfl).trans g0) h0 h10 (fun H2 h2 v1 v2 => ⟨fun n e => (by cases e), ?_⟩) (fun H2 h2 nv => ⟨fun n e => (by cases e), ?_⟩)
  · exact T5 ⟨v1, v2⟩ (y_sq e h2 rfl rfl)
  · exact T5n nv (y_sq e h2 rfl rfl)
theorem c_weight {h : aH} (hr : w_hr z_D h) {a nd F G fr : Int32} {le lc lo de ta fo wl : List Int32} (hn : c_net h nd F G le lc lo de ta fo) (hf : ∀ k : Nat, (k : Int) < nd.toInt → -1 ≤ y_N fo k ∧ y_N fo k ≤ 1) (gf : w_f h 143 = some (.int fr)) (a9 : w_a h 9 = some (0, .inl wl)) (l9 : wl.length = 1024) (hw : fr.toInt ≠ 0 → c_wk nd le de ta fo nd.toInt.toNat wl) (hK : ∀ (H : aH) (wl' : List Int32) (r : Int32), y_fr h H [143] [9] → w_f H 143 = some (.int (Int32.ofInt 1)) → w_a H 9 = some (0, .inl wl') → c_wk nd le de ta fo nd.toInt.toNat wl' → (n_wtV a nd → r = wl'.getD a.toInt.toNat 0) → (¬ n_wtV a nd → r = Int32.ofInt (-1)) → K0 (some (.int r)) H C S) : aOK s_P X (d + 3) a_m28 0 [some (.ref 2), some (.int a)] [] h C S K0 := by
  have b0 := hn.2.2.1
  have g0 := hn.1.1
  have T15 : ∀ {J : aH} {wl' : List Int32} {r : Int32}, y_fr h J [143] [9] → w_f J 143 = some (.int (Int32.ofInt 1)) → w_a J 9 = some (0, .inl wl') → c_wk nd le de ta fo nd.toInt.toNat wl' → (n_wtV a nd → r = wl'.getD a.toInt.toNat 0) → (¬ n_wtV a nd → r = Int32.ofInt (-1)) → aOK s_P X (d + 3) a_m28 15 [some (.ref 2), some (.int a)] [.int r] J C S K0 := by
    intro J wl' r e u1 u2 u3 y n
    refine w_go z_hl [] [] 20 e.1 ?_
    intro H hH
    have f : y_fr J H [] [] := y_st (y_rf e.1) hH (by repeat (first | exact w_nil | refine w_cons (Or.inl (y_m rfl)) ?_ | refine w_cons (Or.inr (by assumption)) ?_)) (by repeat (first | exact w_nil | refine w_cons (Or.inl (y_m rfl)) ?_ | refine w_cons (Or.inr (by assumption)) ?_))
    exact hK H wl' r (y_sq e f rfl rfl) ((y_fe f rfl).trans u1) ((y_ae f rfl).trans u2) u3 y n
  have T7 : ∀ {J : aH} {wl' : List Int32}, y_fr h J [143] [9] → w_f J 143 = some (.int (Int32.ofInt 1)) → w_a J 9 = some (0, .inl wl') → c_wk nd le de ta fo nd.toInt.toNat wl' → aOK s_P X (d + 3) a_m28 7 [some (.ref 2), some (.int a)] [] J C S K0 := by
    intro J wl' e u1 u2 u3
    refine w_go z_hl [] [32] 30 e.1 ?_
    intro H hH
    have f : y_fr J H [] [] := y_st (y_rf e.1) hH (by repeat (first | exact w_nil | refine w_cons (Or.inl (y_m rfl)) ?_ | refine w_cons (Or.inr (by assumption)) ?_)) (by repeat (first | exact w_nil | refine w_cons (Or.inl (y_m rfl)) ?_ | refine w_cons (Or.inr (by assumption)) ?_))
    have e2 : y_fr h H [143] [9] := y_sq e f rfl rfl
    refine c_weightOf (d := d + 1) (a := a) e2.1 ((y_fe e2 rfl).trans g0) b0.1 b0.2 ((y_ae f rfl).trans u2) (fun q H3 h3 => ⟨fun n e => (by cases e), ?_⟩) (fun q H3 h3 => ⟨fun n e => (by cases e), ?_⟩)
    · exact T15 (y_sq e2 h3 rfl rfl) ((y_fe h3 rfl).trans ((y_fe f rfl).trans u1)) ((y_ae h3 rfl).trans ((y_ae f rfl).trans u2)) u3 (fun _ => rfl) (fun w => absurd q w)
    · exact T15 (y_sq e2 h3 rfl rfl) ((y_fe h3 rfl).trans ((y_fe f rfl).trans u1)) ((y_ae h3 rfl).trans ((y_ae f rfl).trans u2)) u3 (fun w => absurd w q) (fun _ => rfl)
  refine w_go z_hl [] [29] 30 hr ?_
  intro H hH
  have e : y_fr h H [] [] := y_st (y_rf hr) hH (by repeat (first | exact w_nil | refine w_cons (Or.inl (y_m rfl)) ?_ | refine w_cons (Or.inr (by assumption)) ?_)) (by repeat (first | exact w_nil | refine w_cons (Or.inl (y_m rfl)) ?_ | refine w_cons (Or.inr (by assumption)) ?_))
  refine c_refresh (d := d) e.1 (c_net_y hn e rfl rfl) hf ((y_fe e rfl).trans gf) ((y_ae e rfl).trans a9) l9 hw (fun H2 wl' f u1 u2 u3 => ⟨fun n e => (by cases e), ?_⟩)
  exact T7 (y_sq (y_mo e rfl rfl) f rfl rfl) u1 u2 u3
theorem f_weight {h : aH} (hr : w_hr z_D h) (hJ : y_J h) {a nd : Int32} {le de ta fo : List Int32} (m1 : w_f h 19591 = some (.int nd)) (m2 : w_a h 156 = some (0, .inl le)) (m3 : w_a h 157 = some (0, .inl de)) (m4 : w_a h 158 = some (0, .inl ta)) (m5 : w_a h 159 = some (0, .inl fo)) (hk : ∀ (r : Int32) (H : aH), y_fr h H [19584] [] → (n_wtV a nd → r.toInt = y_W nd le de ta fo a.toInt.toNat nd.toInt.toNat) → (¬ n_wtV a nd → r = Int32.ofInt (-1)) → K0 (some (.int r)) H C S) : aOK s_P X (d + 2) a_m183 0 [some (.ref 155), some (.int a)] [] h C S K0 := by
  obtain ⟨nd0, le0, de0, ta0, n1, n2, n3, n4, c1, c2, c3, c4, c5⟩ := id hJ.1
  obtain rfl := y_fi m1 n1
  obtain rfl := y_ai m2 n2
  obtain rfl := y_ai m3 n3
  obtain rfl := y_ai m4 n4
  obtain ⟨b1, b2⟩ := y_ndb hr n1
  obtain ⟨ea, l1, l2⟩ := y_all b1 b2
  have net : y_net h nd le de ta fo := ⟨n1, n2, n3, n4, m5, c1, c2, c3, c4⟩
  have T18 : ∀ {G : aH} {x : Int64}, n_wtV a nd → x.toInt = y_W nd le de ta fo a.toInt.toNat nd.toInt.toNat → y_fr h G [19584] [] → aOK s_P X (d + 2) a_m183 18 [some (.ref 155), some (.int a)] [.long x] G C S K0 := by
    intro G x q hx e
    have hta : ∀ x ∈ ta, 0 ≤ x.toInt := by
      obtain ⟨l, g1, g2, g3⟩ := w_arrI hr (o := 158) (t := 0) (n := 80) (lo := 0) (hi := 10000000) (by decide) rfl
      have e := (w_a_at g1).symm.trans n4
      cases e
      exact fun x hx => (g3 x hx).1
    have wb := y_W_b net b2 hta (wy := a.toInt.toNat) (k := nd.toInt.toNat) (by omega)
    refine w_go z_hl [] [] 30 e.1 ?_
    exact fun H hH => hk _ H (y_st e hH (by repeat (first | exact w_nil | refine w_cons (Or.inl (y_m rfl)) ?_ | refine w_cons (Or.inr (by assumption)) ?_)) (by repeat (first | exact w_nil | refine w_cons (Or.inl (y_m rfl)) ?_ | refine w_cons (Or.inr (by assumption)) ?_))) (fun _ => by rw [y_l2i (by omega) (by omega)]; exact hx) (fun w => absurd q w)
  have T10 : ∀ {G : aH}, n_wtV a nd → y_fr h G [19584] [] → aOK s_P X (d + 2) a_m183 10 [some (.ref 155), some (.int a)] [.int (y_01 true)] G C S K0 := by
    intro G q e
    obtain ⟨v1, v2⟩ := id q
    refine w_go z_hl [] [184] 30 e.1 ?_
    refine ⟨fun q => absurd q (by decide), fun _ => fun H hH => ?_⟩
    have e2 := y_st e hH (by repeat (first | exact w_nil | refine w_cons (Or.inl (y_m rfl)) ?_ | refine w_cons (Or.inr (by assumption)) ?_)) (by repeat (first | exact w_nil | refine w_cons (Or.inl (y_m rfl)) ?_ | refine w_cons (Or.inr (by assumption)) ?_))
    refine y_weightOf (wy := a.toInt.toNat) (by omega) (by omega) e2.1 (y_net_fr2 e2 rfl rfl net) b1 (fun r H2 e3 hr3 => ⟨fun n e => (by cases e), ?_⟩)
    exact T18 q hr3 (y_sq e2 e3 rfl rfl)
  have T10n : ∀ {G : aH}, ¬ n_wtV a nd → y_fr h G [19584] [] → aOK s_P X (d + 2) a_m183 10 [some (.ref 155), some (.int a)] [.int (y_01 false)] G C S K0 := by
    intro G q e
    refine w_go z_hl [] [] 30 e.1 ?_
    exact ⟨fun _ => fun H hH => hk _ H (y_st e hH (by repeat (first | exact w_nil | refine w_cons (Or.inl (y_m rfl)) ?_ | refine w_cons (Or.inr (by assumption)) ?_)) (by repeat (first | exact w_nil | refine w_cons (Or.inl (y_m rfl)) ?_ | refine w_cons (Or.inr (by assumption)) ?_))) (fun w => absurd w q) (fun _ => rfl), fun q => absurd q (by decide)⟩
  refine w_go z_hl [] [174] 30 hr ?_
  refine ⟨rfl, y_zini (by decide) (by decide), fun H hH => ?_⟩
  have e : y_fr h H [19584] [] := y_st (y_mo (y_rf hr) rfl rfl) hH (by repeat (first | exact w_nil | refine w_cons (Or.inl (y_m rfl)) ?_ | refine w_cons (Or.inr (by assumption)) ?_)) (by repeat (first | exact w_nil | refine w_cons (Or.inl (y_m rfl)) ?_ | refine w_cons (Or.inr (by assumption)) ?_))
  refine y_isSet (v := a) e.1 ((y_fe e rfl).trans n1) b1 b2 (fun H3 h3 => ⟨fun n e => (by cases e), ?_⟩)
  cases hset : decide (0 ≤ a.toInt ∧ a.toInt < (y_ways nd : Int)) with
  | true => exact T10 (of_decide_eq_true hset) (y_sq e h3 rfl rfl)
  | false => exact T10n (of_decide_eq_false hset) (y_sq e h3 rfl rfl)
end NWT
theorem n_c28 {X : aX} : n_pc X a_m28 1 false n_s28 := by
  intro us h v C S K0 hl _ hI hc hm hk
  match us, hl with
  | [a], _ =>
    have f0 := hc.1 128 (by decide)
    have b0 := n_bd (lo := 0) (hi := 10) hI.1 f0 rfl
    obtain ⟨lc, lo, wl, fr, q8, q9, q10, q11, q12, q13⟩ := n_toW hI.1 hI.2.1.1 hc hm
    refine c_weight (d := 197) (a := a) hI.1 q8 q9 q10 q11 q12 q13 (fun H wl' r e u1 u2 u3 y n => ?_)
    have er : r = (n_s28 [a] v).2 := by
      by_cases q : n_wtV a (v 128)
      · rw [show (n_s28 [a] v).2 = Int32.ofInt (y_W (v 128) (n_ls v 701000 10) (n_ls v 702000 10) (n_ls v 700000 80) (n_ls v 704000 10) a.toInt.toNat (v 128).toInt.toNat) from if_pos q, y q]
        have q2 : a.toInt < ((2 ^ (v 128).toInt.toNat : Nat) : Int) := q.2
        have q1 := q.1
        have wb := c_W_b q8.2.2 (k := (v 128).toInt.toNat) (w := a.toInt.toNat) (by omega)
        refine Int32.toInt_inj.mp ?_
        rw [u3.2 _ (by omega), Int32.toInt_ofInt, show (Int32.size : Nat) = 4294967296 from rfl]
        exact (Int.bmod_eq_of_le (by omega) (by omega)).symm
      · rw [show (n_s28 [a] v).2 = Int32.ofInt (-1) from if_neg q]
        exact n q
    rw [er]
    obtain ⟨fr', hc'⟩ := n_ofW e.1 hc (fun k hk' e3 => e.2.1 k (fun w => e3 (List.mem_singleton.mp w))) (fun o _ e9 => e.2.2 o (fun w => e9 (List.mem_singleton.mp w))) ⟨lc, lo, wl', _, c_net_y q8 e rfl rfl, q9, u1, u2, u3.1, fun _ => u3⟩
    have e1 : n_up v 143 fr' 143 = Int32.ofInt 1 := y_fi (hc'.1 143 (by decide)) u1
    have e2 : fr' = Int32.ofInt 1 := e1
    rw [e2] at hc'
    exact hk H ⟨e.1, y_jfr y_JA_x e rfl rfl hI.2.1, t_day_frc e rfl hI.2.2⟩ hc' (n_mS_V (n_fm_ok e rfl) hm)
theorem n_r183 {X : aX} : n_pr X a_m183 1 false n_s28 := by
  intro us h w v C S K0 hl _ hI hc hm hk
  match us, hl with
  | [a], _ =>
    have g0 : w_f h 19591 = some (.int (v 128)) := hm.1 (128, 19591) (by decide)
    have b0 := n_bd (lo := 0) (hi := 10) hI.1 g0 rfl
    obtain ⟨fo, o1, o2, o3⟩ := id hm.2.1.2.2.2.2.2.2.1
    refine f_weight (d := 198) (a := a) hI.1 hI.2.1.1 g0 hm.2.1.2.2.1 hm.2.1.2.2.2.1 hm.2.1.2.2.2.2.1 o1 (fun r H e y n => ?_)
    have er : r = (n_s28 [a] v).2 := by
      by_cases q : n_wtV a (v 128)
      · rw [show (n_s28 [a] v).2 = Int32.ofInt (y_W (v 128) (n_ls v 701000 10) (n_ls v 702000 10) (n_ls v 700000 80) (n_ls v 704000 10) a.toInt.toNat (v 128).toInt.toNat) from if_pos q]
        have ew : y_W (v 128) (n_ls v 701000 10) (n_ls v 702000 10) (n_ls v 700000 80) (n_ls v 704000 10) a.toInt.toNat (v 128).toInt.toNat = y_W (v 128) (n_ls v 701000 10) (n_ls v 702000 10) (n_ls v 700000 80) fo a.toInt.toNat (v 128).toInt.toNat := y_W_fo (fun u hu => by
          unfold y_N
          rw [n_ls_at (by omega), o3 u (by omega)])
        have yr := y q
        refine Int32.toInt_inj.mp ?_
        rw [ew, ← yr, Int32.ofInt_toInt]
      · rw [show (n_s28 [a] v).2 = Int32.ofInt (-1) from if_neg q]
        exact n q
    rw [er]
    exact hk H ⟨e.1, ⟨y_J_fr e rfl rfl hI.2.1.1, j_say_e e rfl rfl hI.2.1.2.1, j_cost_e e rfl rfl hI.2.1.2.2⟩, t_day_fr e rfl hI.2.2⟩ (n_cS_V (n_fk_c (ex := []) e rfl) hc) (n_mV_3 (n_mS_V (n_fk_m e rfl) hm))
end PT33he
section PT33hf
/-! ===== v11: sums of weights over what is seen (laid by wip/tools/mk11c.py) ===== -/
def c_ok (g : Nat → Int) : Nat → Nat → Bool
  | 0, _ => true
  | k + 1, w => c_ok g k w && ((!decide (g k = 1) || w.testBit k) && (!decide (g k = 0) || !w.testBit k))
theorem c_ok_iff {g : Nat → Int} {w : Nat} : ∀ {k : Nat}, c_ok g k w = true ↔ ∀ j, j < k → (g j = 1 → w.testBit j = true) ∧ (g j = 0 → w.testBit j = false) := by
  intro k
  induction k with
  | zero => exact ⟨fun _ j hj => absurd hj (Nat.not_lt_zero j), fun _ => rfl⟩
  | succ k ih =>
    show (c_ok g k w && ((!decide (g k = 1) || w.testBit k) && (!decide (g k = 0) || !w.testBit k))) = true ↔ _
    have one : ((!decide (g k = 1) || w.testBit k) && (!decide (g k = 0) || !w.testBit k)) = true ↔ (g k = 1 → w.testBit k = true) ∧ (g k = 0 → w.testBit k = false) := by
      by_cases h1 : g k = 1
      · have h0 : ¬ g k = 0 := by omega
        rw [decide_eq_true h1, decide_eq_false h0]
        cases w.testBit k
        · exact ⟨fun q => absurd q (by decide), fun q => absurd (q.1 h1) (by decide)⟩
        · exact ⟨fun _ => ⟨fun _ => rfl, fun q => absurd q h0⟩, fun _ => rfl⟩
      · by_cases h0 : g k = 0
        · rw [decide_eq_false h1, decide_eq_true h0]
          cases w.testBit k
          · exact ⟨fun _ => ⟨fun q => absurd q h1, fun _ => rfl⟩, fun _ => rfl⟩
          · exact ⟨fun q => absurd q (by decide), fun q => absurd (q.2 h0) (by decide)⟩
        · rw [decide_eq_false h1, decide_eq_false h0]
          exact ⟨fun _ => ⟨fun q => absurd q h1, fun q => absurd q h0⟩, fun _ => rfl⟩
    rw [Bool.and_eq_true, one, ih]
    constructor
    · intro h j hj
      by_cases q : j = k
      · subst q
        exact h.2
      · exact h.1 j (by omega)
    · intro h
      exact ⟨fun j hj => h j (by omega), h k (by omega)⟩
/-- the sum over all ways that are as g tells (1 so, 0 not, else free) -/
def c_T (f : Nat → Int) (n : Nat) (g : Nat → Int) : Int := y_S (fun w => if c_ok g n w then f w else 0) (2 ^ n)
def c_up (g : Nat → Int) (k : Nat) (x : Int) : Nat → Int := fun j => if j = k then x else g j
/-- and have one as it is told besides -/
def c_TW (f : Nat → Int) (n : Nat) (g : Nat → Int) (k : Nat) (x : Int) : Int := if 0 ≤ g k ∧ g k ≠ x then 0 else c_T f n (c_up g k x)
section NTS
variable {f f' g g' : Nat → Int} {n k m b : Nat} {x : Int}
theorem c_T_c (hf : ∀ w, w < 2 ^ n → f w = f' w) (hg : ∀ j, j < n → g j = g' j) : c_T f n g = c_T f' n g' := by
  refine c_yS_c (fun w hw => ?_)
  have e : c_ok g n w = c_ok g' n w := Bool.eq_iff_iff.mpr (by
    rw [c_ok_iff, c_ok_iff]
    exact ⟨fun h j hj => by rw [← hg j hj]; exact h j hj, fun h j hj => by rw [hg j hj]; exact h j hj⟩)
  show (if c_ok g n w then f w else 0) = (if c_ok g' n w then f' w else 0)
  rw [e, hf w hw]
theorem c_T_b (f0 : ∀ i, i < 2 ^ n → 0 ≤ f i) : 0 ≤ c_T f n g ∧ c_T f n g ≤ y_S f (2 ^ n) := by
  constructor
  · have h := c_yS_le (f := fun _ => 0) (g := fun w => if c_ok g n w then f w else 0) (n := 2 ^ n) (fun i hi => by
      show (0 : Int) ≤ if c_ok g n i then f i else 0
      split
      · exact f0 i hi
      · exact Int.le_refl 0)
    rw [c_yS_0] at h
    exact h
  · refine c_yS_le (fun i hi => ?_)
    show (if c_ok g n i then f i else 0) ≤ f i
    split
    · exact Int.le_refl _
    · exact f0 i hi
theorem c_TW_b (f0 : ∀ i, i < 2 ^ n → 0 ≤ f i) : 0 ≤ c_TW f n g k x ∧ c_TW f n g k x ≤ y_S f (2 ^ n) := by
  unfold c_TW
  split
  · have := c_T_b (n := n) (g := g) f0
    omega
  · exact c_T_b f0
theorem c_T_S (hm : ∀ j, j < n → m.testBit j = decide (0 ≤ g j)) (hb : ∀ j, j < n → b.testBit j = decide (g j = 1)) (hg : ∀ j, j < n → g j ≤ 1) : c_S m b f n 0 = c_T f n g := by
  rw [← c_S_P]
  refine c_yS_c (fun w hw => ?_)
  have e : c_P m b n w = c_ok g n w := Bool.eq_iff_iff.mpr (by
    rw [c_P_iff, c_ok_iff]
    constructor
    · intro h j hj
      refine ⟨fun q => ?_, fun q => ?_⟩
      · rw [h j hj (by rw [hm j hj]; exact decide_eq_true (by omega)), hb j hj]
        exact decide_eq_true q
      · rw [h j hj (by rw [hm j hj]; exact decide_eq_true (by omega)), hb j hj]
        exact decide_eq_false (by omega)
    · intro h j hj q
      rw [hm j hj] at q
      have q := of_decide_eq_true q
      have := hg j hj
      rw [hb j hj]
      by_cases z : g j = 1
      · rw [decide_eq_true z]
        exact (h j hj).1 z
      · rw [decide_eq_false z]
        exact (h j hj).2 (by omega))
  show (if c_P m b n w then f (0 ||| w) else 0) = _
  rw [e, Nat.zero_or]
theorem c_yS_pl {p q : Nat → Int} : ∀ {n : Nat}, y_S (fun w => p w + q w) n = y_S p n + y_S q n
  | 0 => rfl
  | n + 1 => by
    show y_S (fun w => p w + q w) n + (p n + q n) = y_S p n + p n + (y_S q n + q n)
    rw [c_yS_pl]
    omega
theorem c_upk : c_up g k x k = x := if_pos rfl
theorem c_upo {j : Nat} (h : j ≠ k) : c_up g k x j = g j := if_neg h
theorem c_up_s (h : g k = x) : c_T f n (c_up g k x) = c_T f n g := c_T_c (fun _ _ => rfl) (fun j _ => by
  by_cases e : j = k
  · rw [e, c_upk, h]
  · exact c_upo e)
/-- one way or the other -/
theorem c_T_sp (hk : k < n) (h0 : -1 ≤ g k) (h1 : g k ≤ 1) : c_T f n g = c_TW f n g k 1 + c_TW f n g k 0 := by
  unfold c_TW
  by_cases z1 : g k = 1
  · rw [if_neg (by omega), if_pos (by omega), c_up_s z1]
    omega
  · by_cases z0 : g k = 0
    · rw [if_pos (by omega), if_neg (by omega), c_up_s z0]
      omega
    · rw [if_neg (by omega), if_neg (by omega)]
      show y_S _ (2 ^ n) = y_S _ (2 ^ n) + y_S _ (2 ^ n)
      rw [← c_yS_pl]
      refine c_yS_c (fun w hw => ?_)
      have e1 : c_ok (c_up g k 1) n w = (c_ok g n w && w.testBit k) := Bool.eq_iff_iff.mpr (by
        rw [Bool.and_eq_true, c_ok_iff, c_ok_iff]
        constructor
        · intro h
          refine ⟨fun j hj => ?_, (h k hk).1 c_upk⟩
          by_cases e : j = k
          · rw [e]
            exact ⟨fun q => absurd q z1, fun q => absurd q z0⟩
          · have := h j hj
            rw [c_upo e] at this
            exact this
        · intro h j hj
          by_cases e : j = k
          · rw [e, c_upk]
            exact ⟨fun _ => h.2, fun q => absurd q (by decide)⟩
          · rw [c_upo e]
            exact h.1 j hj)
      have e0 : c_ok (c_up g k 0) n w = (c_ok g n w && !w.testBit k) := Bool.eq_iff_iff.mpr (by
        rw [Bool.and_eq_true, Bool.not_eq_true', c_ok_iff, c_ok_iff]
        constructor
        · intro h
          refine ⟨fun j hj => ?_, (h k hk).2 c_upk⟩
          by_cases e : j = k
          · rw [e]
            exact ⟨fun q => absurd q z1, fun q => absurd q z0⟩
          · have := h j hj
            rw [c_upo e] at this
            exact this
        · intro h j hj
          by_cases e : j = k
          · rw [e, c_upk]
            exact ⟨fun q => absurd q (by decide), fun _ => h.2⟩
          · rw [c_upo e]
            exact h.1 j hj)
      show (if c_ok g n w then f w else 0) = (if c_ok (c_up g k 1) n w then f w else 0) + (if c_ok (c_up g k 0) n w then f w else 0)
      rw [e1, e0]
      cases c_ok g n w <;> cases w.testBit k
      · show (0 : Int) = 0 + 0
        rfl
      · show (0 : Int) = 0 + 0
        rfl
      · show f w = 0 + f w
        omega
      · show f w = f w + 0
        omega
end NTS
/-- bits that tell a state of each -/
def c_gb (F G : Int32) (n : Nat) (g : Nat → Int) : Prop := (0 ≤ F.toInt ∧ F.toInt < ((2 ^ n : Nat) : Int)) ∧ (0 ≤ G.toInt ∧ G.toInt < ((2 ^ n : Nat) : Int)) ∧ ∀ j, j < n → F.toInt.toNat.testBit j = decide (0 ≤ g j) ∧ G.toInt.toNat.testBit j = decide (g j = 1) ∧ -1 ≤ g j ∧ g j ≤ 1
/-- weights of the class -/
def c_ws (h : aH) (n : Nat) (f : Nat → Int) : Prop := ∃ (nd : Int32) (wl : List Int32), w_f h 128 = some (.int nd) ∧ nd.toInt = n ∧ n ≤ 10 ∧ w_a h 9 = some (0, .inl wl) ∧ (∀ i, i < 2 ^ n → (wl.getD i 0).toInt = f i) ∧ (∀ i, 0 ≤ f i) ∧ y_S f (2 ^ n) ≤ 100000000
theorem c_ws_fr {h H : aH} {n : Nat} {f : Nat → Int} {fs as : List Nat} (e : y_fr h H fs as) (h1 : fs.elem 128 = false) (h2 : as.elem 9 = false) (q : c_ws h n f) : c_ws H n f := by
  obtain ⟨nd, wl, g0, q1, q2, a9, q3⟩ := q
  exact ⟨nd, wl, (e.2.1 _ (n_nel h1)).trans g0, q1, q2, (e.2.2 _ (n_nel h2)).trans a9, q3⟩
theorem c_fb_lt {A B : Int32} {o n : Nat} {b : Bool} (n10 : n ≤ 10) (on : o < n) (a0 : 0 ≤ A.toInt) (a1 : A.toInt < ((2 ^ n : Nat) : Int)) (hb : c_fb A B o b) : 0 ≤ B.toInt ∧ B.toInt < ((2 ^ n : Nat) : Int) := by
  refine ⟨hb.1.1, ?_⟩
  have h1 : B.toInt.toNat < 2 ^ n := Nat.lt_pow_two_of_testBit _ (fun k hk => by
    by_cases k10 : k < 10
    · have h3 := hb.2 k k10
      rw [if_neg (by omega), n_tb0 a0 a1 hk] at h3
      exact h3
    · exact c_fb_hi hb.1 (by omega))
  have := hb.1.1
  omega
theorem c_0shl {x : Int32} {k : Nat} (hx : x.toInt = k) (k10 : k < 10) : y_01 false <<< (x &&& 31) = Int32.ofInt 0 := by
  rw [(y_ofNat hx (by omega)).1]
  rcases (show k = 0 ∨ k = 1 ∨ k = 2 ∨ k = 3 ∨ k = 4 ∨ k = 5 ∨ k = 6 ∨ k = 7 ∨ k = 8 ∨ k = 9 by omega) with rfl | rfl | rfl | rfl | rfl | rfl | rfl | rfl | rfl | rfl <;> decide
abbrev c_01 (s : Bool) : Int := if s then 1 else 0
theorem c_gb_up {F G node : Int32} {n k : Nat} {g : Nat → Int} {s : Bool} (hg : c_gb F G n g) (n10 : n ≤ 10) (hk : node.toInt = k) (kn : k < n) (nc : ¬ (0 ≤ g k ∧ g k ≠ c_01 s)) : c_gb (F ||| (Int32.ofInt 1 <<< (node &&& 31))) (G ||| (y_01 s <<< (node &&& 31))) n (c_up g k (c_01 s)) := by
  obtain ⟨⟨p1, p2⟩, ⟨p3, p4⟩, p5⟩ := hg
  have pw : 2 ^ n ≤ 2 ^ 10 := n_p2 n10
  have bF := c_fb1 (F := F) (k := node) p1 (by omega) hk (by omega)
  have lF := c_fb_lt n10 kn p1 p2 bF
  cases s with
  | true =>
    have bG : c_fb G (G ||| (y_01 true <<< (node &&& 31))) k true := c_fb1 (F := G) (k := node) p3 (by omega) hk (by omega)
    refine ⟨lF, c_fb_lt n10 kn p3 p4 bG, fun j hj => ?_⟩
    rw [bF.2 j (by omega), bG.2 j (by omega)]
    by_cases e : j = k
    · rw [if_pos e, if_pos e, e, c_upk]
      exact ⟨rfl, rfl, by decide, by decide⟩
    · rw [if_neg e, if_neg e, c_upo e]
      exact p5 j hj
  | false =>
    rw [c_0shl hk (by omega), i_or0]
    refine ⟨lF, ⟨p3, p4⟩, fun j hj => ?_⟩
    rw [bF.2 j (by omega)]
    by_cases e : j = k
    · rw [if_pos e, e, c_upk, (p5 k kn).2.1]
      refine ⟨rfl, ?_, by decide, by decide⟩
      have z : ¬ (0 ≤ g k ∧ g k ≠ 0) := nc
      rw [decide_eq_false (show ¬ g k = 1 by omega)]
      rfl
    · rw [if_neg e, c_upo e]
      exact p5 j hj
section NTC
variable {X : aX} {C S d : Nat} {K0 : Option Value → aH → Nat → Nat → Prop}
theorem c_weighG {h : aH} (hr : w_hr z_D h) {n : Nat} {f g : Nat → Int} {mask bits : Int32} (hw : c_ws h n f) (hg : c_gb mask bits n g) (hK : ∀ (H : aH) (s : Int32), y_fr h H [] [] → s.toInt = c_T f n g → K0 (some (.int s)) H C S) : aOK s_P X (d + 1) a_m36 0 [some (.ref 3), some (.int mask), some (.int bits), none, none, none, none, none] [] h C S K0 := by
  obtain ⟨nd, wl, g0, en, n10, a9, wf, f0, f8⟩ := hw
  obtain ⟨⟨p1, p2⟩, ⟨p3, p4⟩, p5⟩ := hg
  have en' : nd.toInt.toNat = n := by omega
  refine c_weigh (d := d) (m := mask.toInt.toNat) (b := bits.toInt.toNat) (f := f) hr g0 (by omega) (by omega) (by omega) (by omega) (by rw [en']; omega) (fun j hj => ?_) a9 (by rw [en']; exact wf) f0 (by rw [en']; exact f8) (fun H s e hs => hK H s e ?_)
  · by_cases z : j < n
    · rw [(p5 j z).2.1] at hj
      have := of_decide_eq_true hj
      rw [(p5 j z).1]
      exact decide_eq_true (by omega)
    · rw [n_tb0 p3 p4 (by omega)] at hj
      cases hj
  · rw [hs, en']
    exact c_T_S (fun j hj => (p5 j hj).1) (fun j hj => (p5 j hj).2.1) (fun j hj => (p5 j hj).2.2.2)
theorem c_weighWith {h : aH} (hr : w_hr z_D h) {n k : Nat} {f g : Nat → Int} {mask bits node : Int32} {s : Bool} (hw : c_ws h n f) (hg : c_gb mask bits n g) (hk : node.toInt = k) (kn : k < n) (hK : ∀ (H : aH) (r : Int32), y_fr h H [] [] → r.toInt = c_TW f n g k (c_01 s) → K0 (some (.int r)) H C S) : aOK s_P X (d + 2) a_m38 0 [some (.ref 3), some (.int mask), some (.int bits), some (.int node), some (.int (y_01 s))] [] h C S K0 := by
  have n10 : n ≤ 10 := by
    obtain ⟨nd, wl, g0, en, n10, -⟩ := hw
    exact n10
  obtain ⟨⟨p1, p2⟩, ⟨p3, p4⟩, p5⟩ := id hg
  have pw : 2 ^ n ≤ 2 ^ 10 := n_p2 n10
  have m1 := c_b01 (bits := mask) (k := node) (b := mask.toInt.toNat) (o := k) (by omega) (by omega) hk (by omega)
  have m2 := c_b01 (bits := bits) (k := node) (b := bits.toInt.toNat) (o := k) (by omega) (by omega) hk (by omega)
  obtain ⟨u1, u2, u3, u4⟩ := p5 k kn
  rw [u1] at m1
  rw [u2] at m2
  have T20 : ∀ {G : aH}, y_fr h G [] [] → ¬ (0 ≤ g k ∧ g k ≠ c_01 s) → aOK s_P X (d + 2) a_m38 20 [some (.ref 3), some (.int mask), some (.int bits), some (.int node), some (.int (y_01 s))] [] G C S K0 := by
    intro G e nc
    refine w_go z_hl [] [36] 40 e.1 ?_
    intro H hH
    have e2 : y_fr h H [] [] := y_st e hH (by repeat (first | exact w_nil | refine w_cons (Or.inl (y_m rfl)) ?_ | refine w_cons (Or.inr (by assumption)) ?_)) (by repeat (first | exact w_nil | refine w_cons (Or.inl (y_m rfl)) ?_ | refine w_cons (Or.inr (by assumption)) ?_))
    refine c_weighG (d := d) e2.1 (c_ws_fr e2 rfl rfl hw) (c_gb_up hg n10 hk kn nc) (fun H3 r f3 hr3 => ⟨fun n e => (by cases e), ?_⟩)
    have e3 := y_sq e2 f3 rfl rfl
    refine w_go z_hl [] [] 20 e3.1 ?_
    intro H4 h4
    exact hK H4 r (y_st e3 h4 (by repeat (first | exact w_nil | refine w_cons (Or.inl (y_m rfl)) ?_ | refine w_cons (Or.inr (by assumption)) ?_)) (by repeat (first | exact w_nil | refine w_cons (Or.inl (y_m rfl)) ?_ | refine w_cons (Or.inr (by assumption)) ?_))) (by rw [hr3]; exact (if_neg nc).symm)
  refine w_go z_hl [20] [] 60 hr ?_
  refine ⟨fun q => fun H hH => ?_, fun q => ⟨fun q2 => fun H hH => ?_, fun q2 => fun H hH => ?_⟩⟩
  · have z : ((mask >>> (node &&& 31)) &&& Int32.ofInt 1).toInt = (0 : Int32).toInt := (y_ci .eq _ _).mp q
    have z2 : ((mask >>> (node &&& 31)) &&& Int32.ofInt 1).toInt = 0 := z
    refine T20 (y_st (y_rf hr) hH (by repeat (first | exact w_nil | refine w_cons (Or.inl (y_m rfl)) ?_ | refine w_cons (Or.inr (by assumption)) ?_)) (by repeat (first | exact w_nil | refine w_cons (Or.inl (y_m rfl)) ?_ | refine w_cons (Or.inr (by assumption)) ?_))) (fun w => ?_)
    rw [decide_eq_true w.1, if_pos rfl] at m1
    omega
  · have z : ((bits >>> (node &&& 31)) &&& Int32.ofInt 1).toInt = (y_01 s).toInt := (y_ci .eq _ _).mp q2
    refine T20 (y_st (y_rf hr) hH (by repeat (first | exact w_nil | refine w_cons (Or.inl (y_m rfl)) ?_ | refine w_cons (Or.inr (by assumption)) ?_)) (by repeat (first | exact w_nil | refine w_cons (Or.inl (y_m rfl)) ?_ | refine w_cons (Or.inr (by assumption)) ?_))) (fun w => ?_)
    rw [m2] at z
    cases s with
    | true =>
      rw [show (y_01 true).toInt = 1 by decide] at z
      have w2 : g k ≠ 1 := w.2
      rw [decide_eq_false w2, if_neg (by decide)] at z
      omega
    | false =>
      rw [show (y_01 false).toInt = 0 by decide] at z
      have w1 := w.1
      have w2 : g k ≠ 0 := w.2
      rw [decide_eq_true (show g k = 1 by omega), if_pos rfl] at z
      omega
  · have z0 : ¬ (((mask >>> (node &&& 31)) &&& Int32.ofInt 1).toInt = (0 : Int32).toInt) := y_cif q
    have z : ¬ (((bits >>> (node &&& 31)) &&& Int32.ofInt 1).toInt = (y_01 s).toInt) := y_cif q2
    have nc : 0 ≤ g k ∧ g k ≠ c_01 s := by
      have w1 : 0 ≤ g k := by
        by_cases w : 0 ≤ g k
        · exact w
        · rw [decide_eq_false w, if_neg (by decide)] at m1
          exact absurd (show _ = (0 : Int32).toInt from m1) z0
      refine ⟨w1, fun w => z ?_⟩
      rw [m2]
      cases s with
      | true =>
        have w2 : g k = 1 := w
        rw [decide_eq_true w2]
        decide
      | false =>
        have w2 : g k = 0 := w
        rw [decide_eq_false (show ¬ g k = 1 by omega)]
        decide
    exact hK H _ (y_st (y_rf hr) hH (by repeat (first | exact w_nil | refine w_cons (Or.inl (y_m rfl)) ?_ | refine w_cons (Or.inr (by assumption)) ?_)) (by repeat (first | exact w_nil | refine w_cons (Or.inl (y_m rfl)) ?_ | refine w_cons (Or.inr (by assumption)) ?_))) (by rw [show c_TW f n g k (c_01 s) = 0 from if_pos nc]; decide)
end NTC
/-- by what is held -/
def n_W (v : Nat → Int32) (w : Nat) : Int := y_W (v 128) (n_ls v 701000 10) (n_ls v 702000 10) (n_ls v 700000 80) (n_ls v 704000 10) w (v 128).toInt.toNat
def n_sg (v : Nat → Int32) (k : Nat) : Int := (v (705000 + k)).toInt
def n_now (v : Nat → Int32) : Int := c_T (n_W v) ((v 128).toInt.toNat) (n_sg v)
def n_nwW (v : Nat → Int32) (k : Nat) (s : Bool) : Int := c_TW (n_W v) ((v 128).toInt.toNat) (n_sg v) k (c_01 s)
/-- what a call leaves that works the weights, then tells a row -/
def z_qm : List Nat := [143, 1152, 1281, 1408, 19328, 19329, 19456, 19457]
def n_Qs (v : Nat → Int32) (h H : aH) : Prop := w_hr z_D H ∧ y_JA H ∧ z_frm z_D z_qm h H ∧ n_Wv v H ∧ w_f H 143 = some (.int (Int32.ofInt 1))
section NQS
variable {X : aX} {C S d : Nat} {K0 : Option Value → aH → Nat → Nat → Prop} {h G H : aH} {v : Nat → Int32}
theorem n_Qs_y (q : n_Qs v h G) (e : y_fr G H [] []) : n_Qs v h H := ⟨e.1, y_jfr y_JA_x e rfl rfl q.2.1, z_frm_tr q.2.2.1 (y_frm q.1 e rfl rfl), n_Wv_p G H (fun k _ => e.2.1 k List.not_mem_nil) (fun o _ => e.2.2 o List.not_mem_nil) q.2.2.2.1, (y_fe e rfl).trans q.2.2.2.2⟩
theorem n_Qs_l (hr : w_hr z_D h) (e : y_fr h G [] []) (q : n_Qs v G H) : n_Qs v h H := ⟨q.1, q.2.1, z_frm_tr (y_frm hr e rfl rfl) q.2.2.1, q.2.2.2⟩
theorem n_Qs_z {ms : List Nat} (q : n_Qs v h G) (hr' : w_hr z_D H) (hJ' : y_JA H) (hf : z_frm z_D ms G H) (h1 : ms.all (fun x => z_qm.elem x) = true) (h2 : z_pm ms = true) : n_Qs v h H := by
  unfold z_pm at h2
  rw [Bool.and_eq_true] at h2
  have A : ∀ k ∈ z_pF, w_f H k = w_f G k := fun k hk => n_dk q.1 hf (List.all_eq_true.mp z_pd k hk) (by
    have := List.all_eq_true.mp h2.1 k hk
    rw [Bool.not_eq_true'] at this
    exact this)
  have B : ∀ o ∈ z_pA, w_a H o = w_a G o := fun o ho => n_da hf (List.all_eq_true.mp z_pd2 o ho) (by
    have := List.all_eq_true.mp h2.2 o ho
    rw [Bool.not_eq_true'] at this
    exact this)
  exact ⟨hr', hJ', z_frm_tr q.2.2.1 (n_zmo hf h1), n_Wv_p G H A B q.2.2.2.1, (A 143 (by decide)).trans q.2.2.2.2⟩
theorem c_refreshQ (hr : w_hr z_D h) (hJ : y_JA h) (hW : n_Wv v h) (hK : ∀ H, n_Qs v h H → K0 none H C S) : aOK s_P X (d + 2) a_m29 0 [some (.ref 3), none] [] h C S K0 := by
  obtain ⟨lc, lo, wl, fr, q8, q9, q10, q11, q12, q13⟩ := hW
  refine c_refresh (d := d) hr q8 q9 q10 q11 q12 q13 (fun H wl' f u1 u2 u3 => hK H ?_)
  exact ⟨f.1, y_jfr y_JA_x f rfl rfl hJ, y_frm hr f rfl rfl, ⟨lc, lo, wl', _, c_net_y q8 f rfl rfl, q9, u1, u2, u3.1, fun _ => u3⟩, u1⟩
theorem n_W_s {F G : Int32} {lc lo : List Int32} (q : c_nok (v 128) F G (n_ls v 701000 10) lc lo (n_ls v 702000 10) (n_ls v 700000 80) (n_ls v 704000 10)) : (∀ i, 0 ≤ n_W v i) ∧ y_S (n_W v) (2 ^ (v 128).toInt.toNat) ≤ 100000000 := by
  obtain ⟨b, -, -, q4, q5, q6, q7⟩ := id q
  refine ⟨fun i => (c_W_b q (by omega)).1, ?_⟩
  refine Int.le_trans (y_fa_sum (n := (v 128).toInt.toNat) (le := y_Nn (n_ls v 701000 10)) (de := y_N (n_ls v 702000 10)) (ta := y_N (n_ls v 700000 80)) (fo := y_N (n_ls v 704000 10)) (fun u hu => (q4 u (by omega)).1) (fun u hu => Nat.le_trans (y_pl_m (show (v 128).toInt.toNat ≤ 10 by omega)) (q4 u (by omega)).2.1) (fun u c hu hc => ?_) (fun u hu => Int.le_trans (by decide) (q6 u (by omega)).1)) q7
  have h1 := q5 (8 * u + c) (by omega)
  rw [show (8 * u + c) / 8 = u by omega] at h1
  exact h1
theorem n_Qs_ws (q : n_Qs v h G) : c_ws G ((v 128).toInt.toNat) (n_W v) := by
  obtain ⟨lc, lo, wl, fr, q8, q9, q10, q11, q12, q13⟩ := q.2.2.2.1
  have e : fr = Int32.ofInt 1 := y_fi q10 q.2.2.2.2
  have wk := q13 (by rw [e]; decide)
  have b0 := q8.2.2.1
  obtain ⟨s1, s2⟩ := n_W_s q8.2.2
  exact ⟨v 128, wl, q8.1.1, by omega, by omega, q11, wk.2, s1, s2⟩
theorem n_Qs_sn (hr : w_hr z_D h) (hc : n_cV h v) (q : n_Qs v h G) : w_f G 138 = some (.int (v 138)) ∧ w_f G 139 = some (.int (v 139)) ∧ c_gb (v 138) (v 139) ((v 128).toInt.toNat) (n_sg v) := by
  have hm : n_mk z_qm [143, 1152] = true := by decide +kernel
  obtain ⟨p1, p2, p3⟩ := id hc.2.2.2.2.2.2.2.2.2.2.2.2.1
  refine ⟨(n_mk_c hr q.2.2.1 hm 138 (by decide) (by decide)).trans (hc.1 138 (by decide)), (n_mk_c hr q.2.2.1 hm 139 (by decide) (by decide)).trans (hc.1 139 (by decide)), p1, p2, fun j hj => ?_⟩
  exact p3 j (by omega)
theorem n_Qs_pc (hI : t_I h) (hc : n_cV h v) (hm : n_mV h v) (q : n_Qs v h H) : t_I H ∧ n_cV H (n_up v 143 (Int32.ofInt 1)) ∧ n_mV H v := by
  obtain ⟨q1, q2, q3, q4, q5⟩ := q
  have h6 : n_mk z_qm [143, 1152] = true := by decide +kernel
  have A1 : ∀ k ∈ nC, k ≠ 143 → w_f H k = w_f h k := fun k hk e => n_mk_c hI.1 q3 h6 k hk (fun w => by
    have z : nC.all (fun k => decide (k ≠ 1152)) = true := rfl
    have z := of_decide_eq_true (List.all_eq_true.mp z k hk)
    simp only [List.mem_cons, List.not_mem_nil, or_false] at w
    omega)
  have A2 : ∀ o ∈ nCA, o ≠ 9 → w_a H o = w_a h o := fun o ho e => n_mk_a q3 h6 o ho (fun w => by
    simp only [List.mem_cons, List.not_mem_nil, or_false] at w
    omega)
  obtain ⟨fr, hc'⟩ := n_ofW q1 hc A1 A2 q4
  have e1 : n_up v 143 fr 143 = Int32.ofInt 1 := y_fi (hc'.1 143 (by decide)) q5
  have e2 : fr = Int32.ofInt 1 := e1
  rw [e2] at hc'
  exact ⟨⟨q1, q2, t_day_frm hI.1 q3 (by decide) hI.2.2⟩, hc', n_mS_V (n_mk_m (ex := [143, 1152]) hI.1 q3 h6) hm⟩
theorem c_wNow (hr : w_hr z_D h) (hc : n_cV h v) (q : n_Qs v h G) (hK : ∀ (H : aH) (r : Int32), n_Qs v h H → r.toInt = n_now v → K0 (some (.int r)) H C S) : aOK s_P X (d + 2) a_m35 0 [some (.ref 3)] [] G C S K0 := by
  obtain ⟨g1, g2, gb⟩ := n_Qs_sn hr hc q
  refine w_go z_hl [] [36] 40 q.1 ?_
  intro x hx _ _
  obtain rfl := y_fi g1 hx
  intro y hy _ _
  obtain rfl := y_fi g2 hy
  intro H hH
  have e : y_fr G H [] [] := y_st (y_rf q.1) hH (by repeat (first | exact w_nil | refine w_cons (Or.inl (y_m rfl)) ?_ | refine w_cons (Or.inr (by assumption)) ?_)) (by repeat (first | exact w_nil | refine w_cons (Or.inl (y_m rfl)) ?_ | refine w_cons (Or.inr (by assumption)) ?_))
  refine c_weighG (d := d) e.1 (c_ws_fr e rfl rfl (n_Qs_ws q)) gb (fun H3 r f3 hr3 => ⟨fun n e => (by cases e), ?_⟩)
  refine w_go z_hl [] [] 20 f3.1 ?_
  intro H4 h4
  exact hK H4 r (n_Qs_y q (y_st (y_sq e f3 rfl rfl) h4 (by repeat (first | exact w_nil | refine w_cons (Or.inl (y_m rfl)) ?_ | refine w_cons (Or.inr (by assumption)) ?_)) (by repeat (first | exact w_nil | refine w_cons (Or.inl (y_m rfl)) ?_ | refine w_cons (Or.inr (by assumption)) ?_)))) hr3
theorem c_weighNowWith (hr : w_hr z_D h) (hc : n_cV h v) (q : n_Qs v h G) {node : Int32} {k : Nat} {s : Bool} (hk : node.toInt = k) (kn : k < (v 128).toInt.toNat) (hK : ∀ (H : aH) (r : Int32), n_Qs v h H → r.toInt = n_nwW v k s → K0 (some (.int r)) H C S) : aOK s_P X (d + 3) a_m37 0 [some (.ref 3), some (.int node), some (.int (y_01 s))] [] G C S K0 := by
  obtain ⟨g1, g2, gb⟩ := n_Qs_sn hr hc q
  refine w_go z_hl [] [38] 40 q.1 ?_
  intro x hx _ _
  obtain rfl := y_fi g1 hx
  intro y hy _ _
  obtain rfl := y_fi g2 hy
  intro H hH
  have e : y_fr G H [] [] := y_st (y_rf q.1) hH (by repeat (first | exact w_nil | refine w_cons (Or.inl (y_m rfl)) ?_ | refine w_cons (Or.inr (by assumption)) ?_)) (by repeat (first | exact w_nil | refine w_cons (Or.inl (y_m rfl)) ?_ | refine w_cons (Or.inr (by assumption)) ?_))
  refine c_weighWith (d := d) (s := s) e.1 (c_ws_fr e rfl rfl (n_Qs_ws q)) gb hk kn (fun H3 r f3 hr3 => ⟨fun n e => (by cases e), ?_⟩)
  refine w_go z_hl [] [] 20 f3.1 ?_
  intro H4 h4
  exact hK H4 r (n_Qs_y q (y_st (y_sq e f3 rfl rfl) h4 (by repeat (first | exact w_nil | refine w_cons (Or.inl (y_m rfl)) ?_ | refine w_cons (Or.inr (by assumption)) ?_)) (by repeat (first | exact w_nil | refine w_cons (Or.inl (y_m rfl)) ?_ | refine w_cons (Or.inr (by assumption)) ?_)))) hr3
/-- a fraction is put, and told -/
theorem c_put1 (q : n_Qs v h G) {a b : Int64} (hK : ∀ H, n_Qs v h H → K0 none H C S) : aOK s_P X (d + 1) a_m39 0 [some (.ref 153), some (.long a), none, some (.long b), none, none, none] [] G C S K0 := by
  have b1 := a.toInt_lt
  have b2 := a.le_toInt
  have b3 := b.toInt_lt
  have b4 := b.le_toInt
  exact n_boxv [.long a, .long b] (z_x13_s (y_jx_l y_JA_x)) rfl rfl rfl q.1 q.2.1 (n_Bl (by omega) (by omega) (n_Bl (by omega) (by omega) n_B0)) (fun q hq => by cases hq) (by decide) rfl (by decide +kernel) (fun H' r1 r2 r3 => hK H' (n_Qs_z q r1 r2 r3 (by decide) (by decide)))
theorem c_tell1 (q : n_Qs v h G) (hK : ∀ H, n_Qs v h H → K0 none H C S) : aOK s_P X (d + 2) a_m42 0 [some (.ref 12), some (.ref 153)] [] G C S K0 := n_boxv [] (z_x17_s (y_jx_l y_JA_x)) rfl rfl rfl q.1 q.2.1 n_B0 (fun q hq => by cases hq) (by decide) rfl (by decide +kernel) (fun H' r1 r2 r3 => hK H' (n_Qs_z q r1 r2 r3 (by decide) (by decide)))
end NQS
/-- the reference's sums -/
theorem y_ws_S {wl : List Int64} {a b : Int32} : ∀ {n : Nat}, y_ws wl a b n = y_S (fun w => if y_sel a b (Int32.ofNat w) then (wl.getD w 0).toInt else 0) n
  | 0 => rfl
  | n + 1 => by
    show y_ws wl a b n + _ = y_S _ n + _
    rw [y_ws_S]
theorem c_and_i {x y : Int32} {n m : Nat} (hx : x.toInt = n) (hy : y.toInt = m) : (x &&& y = y ↔ ∀ j, m.testBit j = true → n.testBit j = true) ∧ (x &&& y = 0 ↔ ∀ j, m.testBit j = true → n.testBit j = false) := by
  have e := c_and hx hy
  constructor
  · constructor
    · intro h j hj
      have h2 : n &&& m = m := by
        rw [h, hy] at e
        omega
      have h3 : (n &&& m).testBit j = true := by rw [h2]; exact hj
      rw [Nat.testBit_and, Bool.and_eq_true] at h3
      exact h3.1
    · intro h
      refine Int32.toInt_inj.mp ?_
      rw [e, hy]
      have : n &&& m = m := Nat.eq_of_testBit_eq (fun j => by
        rw [Nat.testBit_and]
        cases hj : m.testBit j with
        | true => rw [h j hj]; rfl
        | false => exact Bool.and_false _)
      rw [this]
  · constructor
    · intro h j hj
      have h2 : n &&& m = 0 := by
        rw [h, show (0 : Int32).toInt = 0 by decide] at e
        omega
      have h3 : (n &&& m).testBit j = false := by rw [h2]; exact Nat.zero_testBit j
      rw [Nat.testBit_and, hj, Bool.and_true] at h3
      exact h3
    · intro h
      refine Int32.toInt_inj.mp ?_
      rw [e, show (0 : Int32).toInt = 0 by decide]
      have : n &&& m = 0 := Nat.eq_of_testBit_eq (fun j => by
        rw [Nat.testBit_and, Nat.zero_testBit]
        cases hj : m.testBit j with
        | true => rw [h j hj]; rfl
        | false => exact Bool.and_false _)
      rw [this]
      rfl
theorem y_sel_i {a b : Int32} {A B w : Nat} (ha : a.toInt = A) (hb : b.toInt = B) (w10 : w < 1024) : y_sel a b (Int32.ofNat w) = true ↔ ∀ j, (A.testBit j = true → w.testBit j = true) ∧ (B.testBit j = true → w.testBit j = false) := by
  have hw : (Int32.ofNat w).toInt = w := Int32.toInt_ofNat_of_lt (by omega)
  unfold y_sel
  rw [Bool.and_eq_true, decide_eq_true_eq, decide_eq_true_eq, (c_and_i hw ha).1, (c_and_i hw hb).2]
  exact ⟨fun h j => ⟨h.1 j, h.2 j⟩, fun h => ⟨fun j => (h j).1, fun j => (h j).2⟩⟩
theorem y_bits_N {p : Nat → Bool} : ∀ {n : Nat}, n ≤ 10 → ∃ A : Nat, (y_bits p n).toInt = A ∧ A < 1024 ∧ ∀ j, A.testBit j = (decide (j < n) && p j) := by
  intro n
  induction n with
  | zero =>
    intro _
    refine ⟨0, show (Int32.ofInt 0).toInt = ((0 : Nat) : Int) by decide, by decide, fun j => ?_⟩
    rw [Nat.zero_testBit, decide_eq_false (Nat.not_lt_zero j)]
    rfl
  | succ n ih =>
    intro n10
    obtain ⟨A, h1, h2, h3⟩ := ih (by omega)
    have hn : (Int32.ofNat n).toInt = n := Int32.toInt_ofNat_of_lt (by omega)
    have sh := c_shlN hn (by omega)
    have p10 : 2 ^ n < 2 ^ 10 := Nat.pow_lt_pow_right (by decide) (by omega)
    cases hp : p n with
    | true =>
      have e : y_bits p (n + 1) = y_bits p n ||| (Int32.ofInt 1 <<< (Int32.ofNat n &&& 31)) := by
        show y_bits p n ||| cond (p n) _ _ = _
        rw [hp]
        rfl
      obtain ⟨o1, o2⟩ := c_orN h1 sh h2 (by omega)
      refine ⟨_, by rw [e]; exact o1, o2, fun j => ?_⟩
      rw [Nat.testBit_or, h3 j, Nat.testBit_two_pow]
      by_cases z : n = j
      · subst z
        rw [decide_eq_true (rfl : n = n), decide_eq_true (Nat.lt_succ_self n), hp, Bool.or_true]
        rfl
      · rw [decide_eq_false z, Bool.or_false]
        by_cases y : j < n
        · rw [decide_eq_true y, decide_eq_true (show j < n + 1 by omega)]
        · rw [decide_eq_false y, decide_eq_false (show ¬ j < n + 1 by omega)]
    | false =>
      have e : y_bits p (n + 1) = y_bits p n := by
        show y_bits p n ||| cond (p n) _ _ = _
        rw [hp]
        exact i_or0 _
      refine ⟨A, by rw [e]; exact h1, h2, fun j => ?_⟩
      rw [h3 j]
      by_cases z : j = n
      · subst z
        rw [hp, Bool.and_false, Bool.and_false]
      · by_cases y : j < n
        · rw [decide_eq_true y, decide_eq_true (show j < n + 1 by omega)]
        · rw [decide_eq_false y, decide_eq_false (show ¬ j < n + 1 by omega)]
/-- a sum of the reference, where no bit is asked both ways -/
theorem y_ws_T {wl : List Int64} {a b : Int32} {A B n : Nat} {f g : Nat → Int} (ha : a.toInt = A) (hb : b.toInt = B) (n10 : n ≤ 10) (hA : ∀ j, A.testBit j = true ↔ (j < n ∧ g j = 1)) (hB : ∀ j, B.testBit j = true ↔ (j < n ∧ g j = 0)) (hf : ∀ w, w < 2 ^ n → (wl.getD w 0).toInt = f w) : y_ws wl a b (2 ^ n) = c_T f n g := by
  have pw : 2 ^ n ≤ 2 ^ 10 := Nat.pow_le_pow_right (by decide) n10
  rw [y_ws_S]
  refine c_yS_c (fun w hw => ?_)
  have e : y_sel a b (Int32.ofNat w) = c_ok g n w := Bool.eq_iff_iff.mpr (by
    rw [y_sel_i ha hb (by omega), c_ok_iff]
    constructor
    · intro h j hj
      exact ⟨fun q => (h j).1 ((hA j).mpr ⟨hj, q⟩), fun q => (h j).2 ((hB j).mpr ⟨hj, q⟩)⟩
    · intro h j
      exact ⟨fun q => (h j ((hA j).mp q).1).1 ((hA j).mp q).2, fun q => (h j ((hB j).mp q).1).2 ((hB j).mp q).2⟩)
  show (if y_sel a b (Int32.ofNat w) then (wl.getD w 0).toInt else 0) = (if c_ok g n w then f w else 0)
  rw [e, hf w hw]
/-- and 0 where one is -/
theorem y_ws_0 {wl : List Int64} {a b : Int32} {A B n j : Nat} (ha : a.toInt = A) (hb : b.toInt = B) (n10 : n ≤ 10) (jA : A.testBit j = true) (jB : B.testBit j = true) : y_ws wl a b (2 ^ n) = 0 := by
  have pw : 2 ^ n ≤ 2 ^ 10 := Nat.pow_le_pow_right (by decide) n10
  rw [y_ws_S, c_yS_c (g := fun _ => 0) (fun w hw => ?_), c_yS_0]
  have e : y_sel a b (Int32.ofNat w) = false := by
    cases q : y_sel a b (Int32.ofNat w) with
    | false => rfl
    | true =>
      have h := (y_sel_i ha hb (by omega)).mp q j
      have := h.1 jA
      rw [h.2 jB] at this
      cases this
  show (if y_sel a b (Int32.ofNat w) then (wl.getD w 0).toInt else 0) = 0
  rw [e]
  rfl
/-- what is seen but one -/
def n_bu (g : Nat → Int) (but : Int32) (j : Nat) : Int := if (j : Int) = but.toInt then -1 else g j
theorem y_pS_i {sa : List Int32} {but : Int32} {j n : Nat} {g : Nat → Int} (hs : ∀ j, j < n → y_N sa j = g j) (hj : j < n) : y_pS sa but j = true ↔ n_bu g but j = 1 := by
  unfold y_pS n_bu
  rw [Bool.and_eq_true, Bool.not_eq_true', decide_eq_false_iff_not, decide_eq_true_eq, hs j hj]
  by_cases e : (j : Int) = but.toInt
  · rw [if_pos e]
    exact ⟨fun q => absurd e q.1, fun q => absurd q (by decide)⟩
  · rw [if_neg e]
    exact ⟨fun q => q.2, fun q => ⟨e, q⟩⟩
theorem y_pN_i {sa : List Int32} {but : Int32} {j n : Nat} {g : Nat → Int} (hs : ∀ j, j < n → y_N sa j = g j) (hj : j < n) : y_pN sa but j = true ↔ n_bu g but j = 0 := by
  unfold y_pN n_bu
  rw [Bool.and_eq_true, Bool.not_eq_true', decide_eq_false_iff_not, decide_eq_true_eq, hs j hj]
  by_cases e : (j : Int) = but.toInt
  · rw [if_pos e]
    exact ⟨fun q => absurd e q.1, fun q => absurd q (by decide)⟩
  · rw [if_neg e]
    exact ⟨fun q => q.2, fun q => ⟨e, q⟩⟩
theorem y_nw_T {sa : List Int32} {nd but : Int32} {wl : List Int64} {n : Nat} {f g : Nat → Int} {s : Bool} (hn : nd.toInt = n) (n10 : n ≤ 10) (hs : ∀ j, j < n → y_N sa j = g j) (hf : ∀ w, w < 2 ^ n → (wl.getD w 0).toInt = f w) : y_nw sa nd wl (Int32.ofInt (-1)) s but = c_T f n (n_bu g but) := by
  have en : nd.toInt.toNat = n := by omega
  obtain ⟨A, a1, a2, a3⟩ := y_bits_N (p := y_pS sa but) n10
  obtain ⟨B, b1, b2, b3⟩ := y_bits_N (p := y_pN sa but) n10
  unfold y_nw
  have eb : y_bt (Int32.ofInt (-1)) = Int32.ofInt 0 := by decide
  have ew : y_ways nd = 2 ^ n := by unfold y_ways; rw [en]
  rw [eb, en, ew, show cond s (Int32.ofInt 0) (Int32.ofInt 0) = Int32.ofInt 0 by cases s <;> rfl, i_or0, i_or0]
  refine y_ws_T a1 b1 n10 (fun j => ?_) (fun j => ?_) hf
  · rw [a3 j, Bool.and_eq_true, decide_eq_true_eq]
    exact ⟨fun q => ⟨q.1, (y_pS_i hs q.1).mp q.2⟩, fun q => ⟨q.1, (y_pS_i hs q.1).mpr q.2⟩⟩
  · rw [b3 j, Bool.and_eq_true, decide_eq_true_eq]
    exact ⟨fun q => ⟨q.1, (y_pN_i hs q.1).mp q.2⟩, fun q => ⟨q.1, (y_pN_i hs q.1).mpr q.2⟩⟩
theorem y_nw_W {sa : List Int32} {nd node but : Int32} {wl : List Int64} {n k : Nat} {f g : Nat → Int} {s : Bool} (hn : nd.toInt = n) (n10 : n ≤ 10) (hk : node.toInt = k) (kn : k < n) (hs : ∀ j, j < n → y_N sa j = g j) (h1 : g k ≤ 1) (hf : ∀ w, w < 2 ^ n → (wl.getD w 0).toInt = f w) : y_nw sa nd wl node s but = c_TW f n (n_bu g but) k (c_01 s) := by
  have en : nd.toInt.toNat = n := by omega
  obtain ⟨A, a1, a2, a3⟩ := y_bits_N (p := y_pS sa but) n10
  obtain ⟨B, b1, b2, b3⟩ := y_bits_N (p := y_pN sa but) n10
  have a4 : ∀ j, A.testBit j = true ↔ (j < n ∧ n_bu g but j = 1) := fun j => by
    rw [a3 j, Bool.and_eq_true, decide_eq_true_eq]
    exact ⟨fun q => ⟨q.1, (y_pS_i hs q.1).mp q.2⟩, fun q => ⟨q.1, (y_pS_i hs q.1).mpr q.2⟩⟩
  have b4 : ∀ j, B.testBit j = true ↔ (j < n ∧ n_bu g but j = 0) := fun j => by
    rw [b3 j, Bool.and_eq_true, decide_eq_true_eq]
    exact ⟨fun q => ⟨q.1, (y_pN_i hs q.1).mp q.2⟩, fun q => ⟨q.1, (y_pN_i hs q.1).mpr q.2⟩⟩
  have g1 : n_bu g but k ≤ 1 := by
    unfold n_bu
    split
    · decide
    · exact h1
  have p10 : 2 ^ k < 2 ^ 10 := Nat.pow_lt_pow_right (by decide) (by omega)
  have sh := c_shlN hk (by omega)
  have eb : y_bt node = Int32.ofInt 1 <<< (node &&& 31) := if_neg (by omega)
  have ew : y_ways nd = 2 ^ n := by unfold y_ways; rw [en]
  unfold y_nw
  rw [eb, en, ew]
  have ob : ∀ {D j : Nat}, (D ||| 2 ^ k).testBit j = true ↔ (D.testBit j = true ∨ k = j) := fun {D j} => by
    rw [Nat.testBit_or, Nat.testBit_two_pow, Bool.or_eq_true, decide_eq_true_eq]
  cases s with
  | true =>
    rw [show cond true (Int32.ofInt 1 <<< (node &&& 31)) (Int32.ofInt 0) = Int32.ofInt 1 <<< (node &&& 31) from rfl, show cond true (Int32.ofInt 0) (Int32.ofInt 1 <<< (node &&& 31)) = Int32.ofInt 0 from rfl, i_or0]
    obtain ⟨o1, o2⟩ := c_orN a1 sh a2 (by omega)
    by_cases z : 0 ≤ n_bu g but k ∧ n_bu g but k ≠ 1
    · rw [show c_TW f n (n_bu g but) k (c_01 true) = 0 from if_pos z]
      exact y_ws_0 (j := k) o1 b1 n10 (ob.mpr (Or.inr rfl)) ((b4 k).mpr ⟨kn, by omega⟩)
    · rw [show c_TW f n (n_bu g but) k (c_01 true) = c_T f n (c_up (n_bu g but) k 1) from if_neg z]
      refine y_ws_T o1 b1 n10 (fun j => ?_) (fun j => ?_) hf
      · rw [ob, a4 j]
        by_cases e : j = k
        · rw [e, c_upk]
          exact ⟨fun _ => ⟨kn, rfl⟩, fun _ => Or.inr rfl⟩
        · rw [c_upo e]
          exact ⟨fun q => q.resolve_right (fun w => e w.symm), fun q => Or.inl q⟩
      · rw [b4 j]
        by_cases e : j = k
        · rw [e, c_upk]
          exact ⟨fun q => absurd ⟨by omega, by omega⟩ z, fun q => absurd q.2 (by decide)⟩
        · rw [c_upo e]
  | false =>
    rw [show cond false (Int32.ofInt 1 <<< (node &&& 31)) (Int32.ofInt 0) = Int32.ofInt 0 from rfl, show cond false (Int32.ofInt 0) (Int32.ofInt 1 <<< (node &&& 31)) = Int32.ofInt 1 <<< (node &&& 31) from rfl, i_or0]
    obtain ⟨o1, o2⟩ := c_orN b1 sh b2 (by omega)
    by_cases z : 0 ≤ n_bu g but k ∧ n_bu g but k ≠ 0
    · rw [show c_TW f n (n_bu g but) k (c_01 false) = 0 from if_pos z]
      exact y_ws_0 (j := k) a1 o1 n10 ((a4 k).mpr ⟨kn, by omega⟩) (ob.mpr (Or.inr rfl))
    · rw [show c_TW f n (n_bu g but) k (c_01 false) = c_T f n (c_up (n_bu g but) k 0) from if_neg z]
      refine y_ws_T a1 o1 n10 (fun j => ?_) (fun j => ?_) hf
      · rw [a4 j]
        by_cases e : j = k
        · rw [e, c_upk]
          exact ⟨fun q => absurd ⟨by omega, by omega⟩ z, fun q => absurd q.2 (by decide)⟩
        · rw [c_upo e]
      · rw [ob, b4 j]
        by_cases e : j = k
        · rw [e, c_upk]
          exact ⟨fun _ => ⟨kn, rfl⟩, fun _ => Or.inr rfl⟩
        · rw [c_upo e]
          exact ⟨fun q => q.resolve_right (fun w => e w.symm), fun q => Or.inl q⟩
theorem n_bu_n {g : Nat → Int} {j : Nat} : n_bu g (Int32.ofInt (-1)) j = g j := by
  unfold n_bu
  exact if_neg (by rw [show (Int32.ofInt (-1)).toInt = -1 by decide]; omega)
section NRS
variable {X : aX} {C S d : Nat} {K0 : Option Value → aH → Nat → Nat → Prop} {h : aH} {v : Nat → Int32}
/-- the reference's weights, by what is held -/
theorem f_up (hr : w_hr z_D h) (hJ : y_J h) (hm : n_mV h v) (hK : ∀ (wl : List Int64) (H : aH), y_fr h H [] [163] → y_J H → y_wl H wl → (∀ i, i < 2 ^ (v 128).toInt.toNat → (wl.getD i 0).toInt = n_W v i) → K0 none H C S) : aOK s_P X (d + 2) a_m188 0 [some (.ref 155), none] [] h C S K0 := by
  obtain ⟨q1, q2, q3, q4, q5, q6, q7⟩ := id hJ
  obtain ⟨nd, le, de, ta, n1, n2, n3, n4, c1, c2, c3, c4, c5⟩ := id q1
  obtain ⟨nd', wl, w1, w2, w3, w4, w5⟩ := q4
  obtain rfl := y_fi n1 w1
  have g0 : w_f h 19591 = some (.int (v 128)) := hm.1 (128, 19591) (by decide)
  have e0 : nd = v 128 := y_fi n1 g0
  have e1 : le = n_ls v 701000 10 := y_ai n2 hm.2.1.2.2.1
  have e2 : de = n_ls v 702000 10 := y_ai n3 hm.2.1.2.2.2.1
  have e3 : ta = n_ls v 700000 80 := y_ai n4 hm.2.1.2.2.2.2.1
  obtain ⟨fo, o1, o2, o3⟩ := id hm.2.1.2.2.2.2.2.2.1
  obtain ⟨b1, b2⟩ := y_ndb hr n1
  have net : y_net h nd le de ta fo := ⟨n1, n2, n3, n4, o1, c1, c2, c3, c4⟩
  refine y_weighsUp hr net w2 w5 (fun wl' H e hw' hok => ?_)
  have net2 : y_net H nd le de ta fo := y_net_fr2 e rfl rfl net
  have hwl := y_wok_wl net2 e.1 b1 b2 hw' hok
  refine hK wl' H e ⟨j_net_e (y_fe e rfl) (y_ae e rfl) (y_ae e rfl) (y_ae e rfl) q1, j_dp_e (y_fe e rfl) (y_fe e rfl) (y_ae e rfl) q2, j_old_e (y_ae e rfl) (y_ae e rfl) (y_ae e rfl) (y_ae e rfl) (y_ae e rfl) (y_ae e rfl) q3, ⟨nd, wl', (y_fe e rfl).trans n1, hw', hwl.2.1, hwl.2.2, hok.2⟩, j_seen_e (y_fe e rfl) (y_fe e rfl) (y_ae e rfl) (y_ae e rfl) q5, j_kept_e (y_fe e rfl) (y_ae e rfl) (y_ae e rfl) (y_ae e rfl) (y_ae e rfl) q6, j_land_e (y_fe e rfl) (y_ae e rfl) q7⟩ hwl (fun i hi => ?_)
  have hi' : i < y_ways nd := by rw [e0]; exact hi
  have b3 : (v 128).toInt ≤ 10 := by rw [← e0]; exact b2
  rw [hok.1 i hi', e0, e1, e2, e3]
  unfold n_W
  exact y_W_fo (fun u hu => by
    unfold y_N
    rw [n_ls_at (by omega), o3 u (by omega)])
/-- what the reference has seen, by what is held -/
theorem f_sn (hr : w_hr z_D h) (hJ : y_J h) (hm : n_mV h v) : ∃ sa : List Int32, w_a h 160 = some (0, .inl sa) ∧ (∀ j, j < (v 128).toInt.toNat → y_N sa j = n_sg v j) ∧ (∀ j, j < (v 128).toInt.toNat → -1 ≤ n_sg v j ∧ n_sg v j ≤ 1) ∧ (v 128).toInt = (v 128).toInt.toNat ∧ (v 128).toInt.toNat ≤ 10 := by
  have g0 : w_f h 19591 = some (.int (v 128)) := hm.1 (128, 19591) (by decide)
  have b0 := n_bd (lo := 0) (hi := 10) hr g0 rfl
  obtain ⟨sa, u1, u2, u3⟩ := id hm.2.1.2.2.2.2.2.2.2.2.1
  obtain ⟨l, l1, l2, l3⟩ := c_arr hr (ob := 160) (n := 10) rfl
  have el : l = sa := y_ai l1 u1
  have sj : ∀ j, j < (v 128).toInt.toNat → y_N sa j = n_sg v j := fun j hj => congrArg Int32.toInt (u3 j (by omega) (by omega))
  refine ⟨sa, u1, sj, fun j hj => ?_, by omega, by omega⟩
  rw [← sj j hj]
  rw [el] at l2 l3
  exact l3 _ (z_gd (0 : Int32) (by omega))
end NRS
end PT33hf
section PT33hg
/-! ===== v11: chance (laid by wip/tools/mk11c.py) ===== -/
abbrev n_hasV (a nd : Int32) : Prop := 0 ≤ a.toInt ∧ a.toInt < nd.toInt
abbrev n_m2 : Int32 := (Int8.ofInt (-2)).toInt32
noncomputable def n_s33 (us : List Int32) (v : Nat → Int32) : (Nat → Int32) × Int32 := match us with
  | [a] => if n_hasV a (v 128) then (n_up v 143 (Int32.ofInt 1), if n_now v = 0 then n_m2 else Int32.ofInt 0) else (v, Int32.ofInt (-1))
  | _ => (v, 0)
section NCH
variable {X : aX} {C S d : Nat} {K0 : Option Value → aH → Nat → Nat → Prop} {h : aH} {v : Nat → Int32}
theorem c_putChance {G : aH} (hr : w_hr z_D h) (hc : n_cV h v) (q : n_Qs v h G) {a : Int32} {k : Nat} (hk : a.toInt = k) (kn : k < (v 128).toInt.toNat) (yes : n_now v ≠ 0 → ∀ H, n_Qs v h H → K0 (some (.int (Int32.ofInt 1))) H C S) (no : n_now v = 0 → ∀ H, n_Qs v h H → K0 (some (.int (Int32.ofInt 0))) H C S) : aOK s_P X (d + 4) a_m34 0 [some (.ref 3), some (.int a), some (.ref 153), none] [] G C S K0 := by
  have T24 : ∀ {G : aH} {w : Int32}, n_now v ≠ 0 → n_Qs v h G → aOK s_P X (d + 4) a_m34 24 [some (.ref 3), some (.int a), some (.ref 153), some (.int w)] [] G C S K0 := by
    intro G w nz q
    refine w_go z_hl [] [] 20 q.1 ?_
    exact ⟨by decide, fun H hH => yes nz H (n_Qs_y q (y_st (y_rf q.1) hH (by repeat (first | exact w_nil | refine w_cons (Or.inl (y_m rfl)) ?_ | refine w_cons (Or.inr (by assumption)) ?_)) (by repeat (first | exact w_nil | refine w_cons (Or.inl (y_m rfl)) ?_ | refine w_cons (Or.inr (by assumption)) ?_))))⟩
  have T18 : ∀ {G : aH} {w r : Int32}, n_now v ≠ 0 → n_Qs v h G → aOK s_P X (d + 4) a_m34 18 [some (.ref 3), some (.int a), some (.ref 153), some (.int w)] [.int r, .ref 153] G C S K0 := by
    intro G w r nz q
    refine w_go z_hl [] [39] 30 q.1 ?_
    intro H hH
    refine c_put1 (d := d + 2) (n_Qs_y q (y_st (y_rf q.1) hH (by repeat (first | exact w_nil | refine w_cons (Or.inl (y_m rfl)) ?_ | refine w_cons (Or.inr (by assumption)) ?_)) (by repeat (first | exact w_nil | refine w_cons (Or.inl (y_m rfl)) ?_ | refine w_cons (Or.inr (by assumption)) ?_)))) (fun H3 q3 => ⟨fun n e => (by cases e), ?_⟩)
    exact T24 nz q3
  have T11 : ∀ {G : aH} {w : Int32}, n_now v ≠ 0 → n_Qs v h G → aOK s_P X (d + 4) a_m34 11 [some (.ref 3), some (.int a), some (.ref 153), some (.int w)] [] G C S K0 := by
    intro G w nz q
    refine w_go z_hl [] [37] 30 q.1 ?_
    intro H hH
    refine c_weighNowWith (d := d) (s := true) hr hc (n_Qs_y q (y_st (y_rf q.1) hH (by repeat (first | exact w_nil | refine w_cons (Or.inl (y_m rfl)) ?_ | refine w_cons (Or.inr (by assumption)) ?_)) (by repeat (first | exact w_nil | refine w_cons (Or.inl (y_m rfl)) ?_ | refine w_cons (Or.inr (by assumption)) ?_)))) hk kn (fun H3 r q3 _ => ⟨fun n e => (by cases e), ?_⟩)
    exact T18 nz q3
  have T4 : ∀ {G : aH} {w : Int32}, w.toInt = n_now v → n_Qs v h G → aOK s_P X (d + 4) a_m34 4 [some (.ref 3), some (.int a), some (.ref 153), none] [.int w] G C S K0 := by
    intro G w hw q
    refine w_go z_hl [11] [] 30 q.1 ?_
    refine ⟨fun z => fun H hH => ?_, fun z => ⟨by decide, fun H hH => ?_⟩⟩
    · have z1 : w.toInt ≠ (0 : Int32).toInt := (y_ci .ne _ _).mp z
      have z2 : w.toInt ≠ 0 := z1
      exact T11 (by omega) (n_Qs_y q (y_st (y_rf q.1) hH (by repeat (first | exact w_nil | refine w_cons (Or.inl (y_m rfl)) ?_ | refine w_cons (Or.inr (by assumption)) ?_)) (by repeat (first | exact w_nil | refine w_cons (Or.inl (y_m rfl)) ?_ | refine w_cons (Or.inr (by assumption)) ?_))))
    · have z1 : ¬ (w.toInt ≠ (0 : Int32).toInt) := y_cif z
      have z2 : w.toInt = 0 := Decidable.not_not.mp z1
      exact no (by omega) H (n_Qs_y q (y_st (y_rf q.1) hH (by repeat (first | exact w_nil | refine w_cons (Or.inl (y_m rfl)) ?_ | refine w_cons (Or.inr (by assumption)) ?_)) (by repeat (first | exact w_nil | refine w_cons (Or.inl (y_m rfl)) ?_ | refine w_cons (Or.inr (by assumption)) ?_))))
  refine w_go z_hl [] [35] 30 q.1 ?_
  intro H hH
  refine c_wNow (d := d + 1) hr hc (n_Qs_y q (y_st (y_rf q.1) hH (by repeat (first | exact w_nil | refine w_cons (Or.inl (y_m rfl)) ?_ | refine w_cons (Or.inr (by assumption)) ?_)) (by repeat (first | exact w_nil | refine w_cons (Or.inl (y_m rfl)) ?_ | refine w_cons (Or.inr (by assumption)) ?_)))) (fun H3 r q3 hr3 => ⟨fun n e => (by cases e), ?_⟩)
  exact T4 hr3 q3
theorem c_chance (hr : w_hr z_D h) (hJ : y_JA h) (hc : n_cV h v) (hW : n_Wv v h) {a : Int32} (yes : n_hasV a (v 128) → ∀ H, n_Qs v h H → K0 (some (.int (if n_now v = 0 then n_m2 else Int32.ofInt 0))) H C S) (no : ¬ n_hasV a (v 128) → ∀ H, y_fr h H [] [] → K0 (some (.int (Int32.ofInt (-1)))) H C S) : aOK s_P X (d + 5) a_m33 0 [some (.ref 2), some (.int a)] [] h C S K0 := by
  have g0 := hc.1 128 (by decide)
  have T49 : ∀ {G : aH}, n_hasV a (v 128) → n_now v ≠ 0 → n_Qs v h G → aOK s_P X (d + 5) a_m33 49 [some (.ref 2), some (.int a)] [] G C S K0 := by
    intro G hv nz q
    refine w_go z_hl [] [] 20 q.1 ?_
    intro H hH
    have := yes hv H (n_Qs_y q (y_st (y_rf q.1) hH (by repeat (first | exact w_nil | refine w_cons (Or.inl (y_m rfl)) ?_ | refine w_cons (Or.inr (by assumption)) ?_)) (by repeat (first | exact w_nil | refine w_cons (Or.inl (y_m rfl)) ?_ | refine w_cons (Or.inr (by assumption)) ?_))))
    rw [if_neg nz] at this
    exact this
  have T32 : ∀ {G : aH}, n_hasV a (v 128) → n_now v ≠ 0 → n_Qs v h G → aOK s_P X (d + 5) a_m33 32 [some (.ref 2), some (.int a)] [.int (Int32.ofInt 1)] G C S K0 := by
    intro G hv nz q
    refine w_go z_hl [] [42] 30 q.1 ?_
    refine ⟨fun _ => fun H hH => ?_, fun z => absurd z (by decide)⟩
    refine c_tell1 (d := d + 2) (n_Qs_y q (y_st (y_rf q.1) hH (by repeat (first | exact w_nil | refine w_cons (Or.inl (y_m rfl)) ?_ | refine w_cons (Or.inr (by assumption)) ?_)) (by repeat (first | exact w_nil | refine w_cons (Or.inl (y_m rfl)) ?_ | refine w_cons (Or.inr (by assumption)) ?_)))) (fun H3 q3 => ⟨fun n e => (by cases e), ?_⟩)
    exact T49 hv nz q3
  have T32n : ∀ {G : aH}, n_hasV a (v 128) → n_now v = 0 → n_Qs v h G → aOK s_P X (d + 5) a_m33 32 [some (.ref 2), some (.int a)] [.int (Int32.ofInt 0)] G C S K0 := by
    intro G hv nz q
    refine w_go z_hl [] [42] 30 q.1 ?_
    refine ⟨fun z => absurd z (by decide), fun _ => fun H hH => ?_⟩
    have := yes hv H (n_Qs_y q (y_st (y_rf q.1) hH (by repeat (first | exact w_nil | refine w_cons (Or.inl (y_m rfl)) ?_ | refine w_cons (Or.inr (by assumption)) ?_)) (by repeat (first | exact w_nil | refine w_cons (Or.inl (y_m rfl)) ?_ | refine w_cons (Or.inr (by assumption)) ?_))))
    rw [if_pos nz] at this
    exact this
  have T20 : ∀ {G : aH}, n_hasV a (v 128) → n_Qs v h G → aOK s_P X (d + 5) a_m33 20 [some (.ref 2), some (.int a)] [] G C S K0 := by
    intro G hv q
    obtain ⟨v1, v2⟩ := id hv
    refine w_go z_hl [] [34] 30 q.1 ?_
    intro H hH
    refine c_putChance (d := d) (k := a.toInt.toNat) hr hc (n_Qs_y q (y_st (y_rf q.1) hH (by repeat (first | exact w_nil | refine w_cons (Or.inl (y_m rfl)) ?_ | refine w_cons (Or.inr (by assumption)) ?_)) (by repeat (first | exact w_nil | refine w_cons (Or.inl (y_m rfl)) ?_ | refine w_cons (Or.inr (by assumption)) ?_)))) (by omega) (by omega) (fun nz H3 q3 => ⟨fun n e => (by cases e), ?_⟩) (fun nz H3 q3 => ⟨fun n e => (by cases e), ?_⟩)
    · exact T32 hv nz q3
    · exact T32n hv nz q3
  have T8 : ∀ {G : aH}, n_hasV a (v 128) → y_fr h G [] [] → aOK s_P X (d + 5) a_m33 8 [some (.ref 2), some (.int a)] [.int (y_01 true)] G C S K0 := by
    intro G hv e
    refine w_go z_hl [] [29] 30 e.1 ?_
    refine ⟨fun _ => fun H hH => ?_, fun z => absurd z (by decide)⟩
    have e2 : y_fr h H [] [] := y_st e hH (by repeat (first | exact w_nil | refine w_cons (Or.inl (y_m rfl)) ?_ | refine w_cons (Or.inr (by assumption)) ?_)) (by repeat (first | exact w_nil | refine w_cons (Or.inl (y_m rfl)) ?_ | refine w_cons (Or.inr (by assumption)) ?_))
    refine c_refreshQ (d := d + 2) (v := v) e2.1 (y_jfr y_JA_x e2 rfl rfl hJ) (n_Wv_p h H (fun k _ => e2.2.1 k List.not_mem_nil) (fun o _ => e2.2.2 o List.not_mem_nil) hW) (fun H3 q3 => ⟨fun n e => (by cases e), ?_⟩)
    exact T20 hv (n_Qs_l hr e2 q3)
  have T8n : ∀ {G : aH}, ¬ n_hasV a (v 128) → y_fr h G [] [] → aOK s_P X (d + 5) a_m33 8 [some (.ref 2), some (.int a)] [.int (y_01 false)] G C S K0 := by
    intro G hv e
    refine w_go z_hl [] [29] 30 e.1 ?_
    exact ⟨fun z => absurd z (by decide), fun _ => fun H hH => no hv H (y_st e hH (by repeat (first | exact w_nil | refine w_cons (Or.inl (y_m rfl)) ?_ | refine w_cons (Or.inr (by assumption)) ?_)) (by repeat (first | exact w_nil | refine w_cons (Or.inl (y_m rfl)) ?_ | refine w_cons (Or.inr (by assumption)) ?_)))⟩
  refine w_go z_hl [] [19] 30 hr ?_
  intro H hH
  have e : y_fr h H [] [] := y_st (y_rf hr) hH (by repeat (first | exact w_nil | refine w_cons (Or.inl (y_m rfl)) ?_ | refine w_cons (Or.inr (by assumption)) ?_)) (by repeat (first | exact w_nil | refine w_cons (Or.inl (y_m rfl)) ?_ | refine w_cons (Or.inr (by assumption)) ?_))
  refine c_hasN (v := a) e.1 ((y_fe e rfl).trans g0) (fun v1 v2 H2 h2 => ⟨fun n e => (by cases e), ?_⟩) (fun nv H2 h2 => ⟨fun n e => (by cases e), ?_⟩)
  · exact T8 ⟨v1, v2⟩ (y_sq e h2 rfl rfl)
  · exact T8n nv (y_sq e h2 rfl rfl)
theorem f_chance_tail {h : aH} {nd node : Int32} {sa : List Int32} {wl : List Int64} (hr : w_hr z_D h) (g1 : w_f h 19591 = some (.int nd)) (g2 : w_a h 160 = some (0, .inl sa)) (hw : y_wl h wl) (hk : ∀ (r : Int32) (H : aH), y_fr h H [19585, 19587, 19588] [154] → r = (if y_nw sa nd wl (Int32.ofInt (-1)) true (Int32.ofInt (-1)) = 0 then n_m2 else Int32.ofInt 0) → K0 (some (.int r)) H C S) : aOK s_P X (d + 4) a_m187 19 [some (.ref 155), some (.int node)] [] h C S K0 := by
  obtain ⟨b1, b2⟩ := y_ndb hr g1
  have T55 : ∀ {G : aH}, y_fr h G [19585, 19587, 19588] [154] → y_nw sa nd wl (Int32.ofInt (-1)) true (Int32.ofInt (-1)) ≠ 0 → aOK s_P X (d + 4) a_m187 55 [some (.ref 155), some (.int node)] [] G C S K0 := by
    intro G e hne
    refine w_go z_hl [] [] 30 e.1 ?_
    intro H hH
    exact hk _ H (y_st e hH (by repeat (first | exact w_nil | refine w_cons (Or.inl (y_m rfl)) ?_ | refine w_cons (Or.inr (by assumption)) ?_)) (by repeat (first | exact w_nil | refine w_cons (Or.inl (y_m rfl)) ?_ | refine w_cons (Or.inr (by assumption)) ?_))) (if_neg hne).symm
  have T46 : ∀ {G : aH}, y_fr h G [19585, 19587, 19588] [154] → y_nw sa nd wl (Int32.ofInt (-1)) true (Int32.ofInt (-1)) ≠ 0 → aOK s_P X (d + 4) a_m187 46 [some (.ref 155), some (.int node)] [] G C S K0 := by
    intro G e hne
    refine w_go z_hl [] [196] 30 e.1 ?_
    refine ⟨rfl, y_zini (by decide) (by decide), fun H hH => ?_⟩
    have e2 := y_st e hH (by repeat (first | exact w_nil | refine w_cons (Or.inl (y_m rfl)) ?_ | refine w_cons (Or.inr (by assumption)) ?_)) (by repeat (first | exact w_nil | refine w_cons (Or.inl (y_m rfl)) ?_ | refine w_cons (Or.inr (by assumption)) ?_))
    refine y_tells e2.1 (hH.2.1 19585 _ rfl) (by decide) (by decide) (fun H2 r2 e3 _ _ => ⟨fun n e => (by cases e), ?_⟩)
    exact T55 (y_sq e2 e3 rfl rfl) hne
  have T43 : ∀ {G : aH} {a b : Int64}, y_fr h G [] [] → 0 ≤ a.toInt → 1 ≤ b.toInt → y_nw sa nd wl (Int32.ofInt (-1)) true (Int32.ofInt (-1)) ≠ 0 → aOK s_P X (d + 4) a_m187 43 [some (.ref 155), some (.int node)] [.long b, .long a, .ref 155] G C S K0 := by
    intro G a b e ha hb hne
    refine w_go z_hl [] [194] 30 e.1 ?_
    intro H hH
    have e2 := y_st e hH (by repeat (first | exact w_nil | refine w_cons (Or.inl (y_m rfl)) ?_ | refine w_cons (Or.inr (by assumption)) ?_)) (by repeat (first | exact w_nil | refine w_cons (Or.inl (y_m rfl)) ?_ | refine w_cons (Or.inr (by assumption)) ?_))
    refine q_lowest e2.1 (by omega) hb (fun u l H2 e3 _ _ _ _ _ _ _ => ⟨fun n e => (by cases e), ?_⟩)
    exact T46 (y_sq (y_mo e2 rfl rfl) e3 rfl rfl) hne
  have T39 : ∀ {G : aH} {a : Int64}, y_fr h G [] [] → 0 ≤ a.toInt → y_nw sa nd wl (Int32.ofInt (-1)) true (Int32.ofInt (-1)) ≠ 0 → aOK s_P X (d + 4) a_m187 39 [some (.ref 155), some (.int node)] [.long a, .ref 155] G C S K0 := by
    intro G a e ha hne
    refine w_go z_hl [] [189] 30 e.1 ?_
    intro H hH
    have e2 := y_st e hH (by repeat (first | exact w_nil | refine w_cons (Or.inl (y_m rfl)) ?_ | refine w_cons (Or.inr (by assumption)) ?_)) (by repeat (first | exact w_nil | refine w_cons (Or.inl (y_m rfl)) ?_ | refine w_cons (Or.inr (by assumption)) ?_))
    refine y_now e2.1 ((y_fe e2 rfl).trans g1) ((y_ae e2 rfl).trans g2) (y_wl_fr e2 (fun q => by cases q) hw) (fun r H2 e3 hr3 => ⟨fun n e => (by cases e), ?_⟩)
    have := y_nw_b (sa := sa) (node := Int32.ofInt (-1)) (so := true) (but := Int32.ofInt (-1)) hw b1 b2
    exact T43 (y_sq e2 e3 rfl rfl) ha (by omega) hne
  have T31 : ∀ {G : aH}, y_fr h G [] [] → y_nw sa nd wl (Int32.ofInt (-1)) true (Int32.ofInt (-1)) ≠ 0 → aOK s_P X (d + 4) a_m187 31 [some (.ref 155), some (.int node)] [] G C S K0 := by
    intro G e hne
    refine w_go z_hl [] [190] 30 e.1 ?_
    intro H hH
    have e2 := y_st e hH (by repeat (first | exact w_nil | refine w_cons (Or.inl (y_m rfl)) ?_ | refine w_cons (Or.inr (by assumption)) ?_)) (by repeat (first | exact w_nil | refine w_cons (Or.inl (y_m rfl)) ?_ | refine w_cons (Or.inr (by assumption)) ?_))
    refine y_nowWith (b := true) e2.1 ((y_fe e2 rfl).trans g1) ((y_ae e2 rfl).trans g2) (y_wl_fr e2 (fun q => by cases q) hw) (fun r H2 e3 hr3 => ⟨fun n e => (by cases e), ?_⟩)
    have := y_nw_b (sa := sa) (node := node) (so := true) (but := Int32.ofInt (-1)) hw b1 b2
    exact T39 (y_sq e2 e3 rfl rfl) (by omega) hne
  have T23 : ∀ {G : aH} {r : Int64}, y_fr h G [] [] → r.toInt = y_nw sa nd wl (Int32.ofInt (-1)) true (Int32.ofInt (-1)) → aOK s_P X (d + 4) a_m187 23 [some (.ref 155), some (.int node)] [.long r] G C S K0 := by
    intro G r e hr3
    refine w_go z_hl [31] [] 30 e.1 ?_
    refine ⟨fun q => ?_, fun q => ?_⟩
    · have q2 : r.toInt ≠ (Int64.ofNat 0).toInt := (y_cl .ne _ _).mp q
      intro H hH
      exact T31 (y_st e hH (by repeat (first | exact w_nil | refine w_cons (Or.inl (y_m rfl)) ?_ | refine w_cons (Or.inr (by assumption)) ?_)) (by repeat (first | exact w_nil | refine w_cons (Or.inl (y_m rfl)) ?_ | refine w_cons (Or.inr (by assumption)) ?_))) (fun e0 => q2 (by rw [hr3, e0]; decide))
    · have q2 : ¬ (r.toInt ≠ (Int64.ofNat 0).toInt) := y_clf q
      have q3 : r.toInt = 0 := Decidable.not_not.mp q2
      intro H hH
      exact hk _ H (y_st (y_mo e rfl rfl) hH (by repeat (first | exact w_nil | refine w_cons (Or.inl (y_m rfl)) ?_ | refine w_cons (Or.inr (by assumption)) ?_)) (by repeat (first | exact w_nil | refine w_cons (Or.inl (y_m rfl)) ?_ | refine w_cons (Or.inr (by assumption)) ?_))) (if_pos (by omega)).symm
  refine w_go z_hl [] [189] 30 hr ?_
  intro H hH
  have e2 : y_fr h H [] [] := y_st (y_rf hr) hH (by repeat (first | exact w_nil | refine w_cons (Or.inl (y_m rfl)) ?_ | refine w_cons (Or.inr (by assumption)) ?_)) (by repeat (first | exact w_nil | refine w_cons (Or.inl (y_m rfl)) ?_ | refine w_cons (Or.inr (by assumption)) ?_))
  refine y_now e2.1 ((y_fe e2 rfl).trans g1) ((y_ae e2 rfl).trans g2) (y_wl_fr e2 (fun q => by cases q) hw) (fun r H2 e3 hr3 => ⟨fun n e => (by cases e), ?_⟩)
  exact T23 (y_sq e2 e3 rfl rfl) hr3
theorem f_chance (hr : w_hr z_D h) (hJ : y_J h) (hm : n_mV h v) {node : Int32} (yes : n_hasV node (v 128) → ∀ (H : aH), y_fr h H [19584, 19585, 19587, 19588] [154, 163] → y_J H → K0 (some (.int (if n_now v = 0 then n_m2 else Int32.ofInt 0))) H C S) (no : ¬ n_hasV node (v 128) → ∀ (H : aH), y_fr h H [19584] [] → K0 (some (.int (Int32.ofInt (-1)))) H C S) : aOK s_P X (d + 4) a_m187 0 [some (.ref 155), some (.int node)] [] h C S K0 := by
  have g0 : w_f h 19591 = some (.int (v 128)) := hm.1 (128, 19591) (by decide)
  obtain ⟨sa, s4, s5, s6, n1, n10⟩ := f_sn hr hJ hm
  have T10 : ∀ {G : aH}, n_hasV node (v 128) → y_fr h G [19584] [] → aOK s_P X (d + 4) a_m187 10 [some (.ref 155), some (.int node)] [.int (y_01 true)] G C S K0 := by
    intro G hv e
    refine w_go z_hl [] [188] 30 e.1 ?_
    refine ⟨fun _ => ?_, fun z => absurd z (by decide)⟩
    intro H hH
    have e2 := y_st e hH (by repeat (first | exact w_nil | refine w_cons (Or.inl (y_m rfl)) ?_ | refine w_cons (Or.inr (by assumption)) ?_)) (by repeat (first | exact w_nil | refine w_cons (Or.inl (y_m rfl)) ?_ | refine w_cons (Or.inr (by assumption)) ?_))
    have J2 := y_J_fr e2 rfl rfl hJ
    refine f_up e2.1 J2 (n_mS_V (n_fk_m e2 rfl) hm) (fun wl H2 e3 J3 hw hf => ⟨fun n e => (by cases e), ?_⟩)
    have e4 : y_fr h H2 [19584] [163] := y_sq (y_mo e2 rfl rfl) e3 rfl rfl
    refine f_chance_tail e4.1 ((y_fe e4 rfl).trans g0) ((y_ae e4 rfl).trans s4) hw (fun r H5 e5 er => ?_)
    have en : y_nw sa (v 128) wl (Int32.ofInt (-1)) true (Int32.ofInt (-1)) = n_now v := by
      rw [y_nw_T n1 n10 s5 hf]
      exact c_T_c (fun _ _ => rfl) (fun j _ => n_bu_n)
    rw [er, en]
    exact yes hv H5 (y_sq (y_mo e4 rfl rfl) e5 rfl rfl) (y_J_fr e5 rfl rfl J3)
  have T10n : ∀ {G : aH}, ¬ n_hasV node (v 128) → y_fr h G [19584] [] → aOK s_P X (d + 4) a_m187 10 [some (.ref 155), some (.int node)] [.int (y_01 false)] G C S K0 := by
    intro G hv e
    refine w_go z_hl [] [188] 30 e.1 ?_
    exact ⟨fun z => absurd z (by decide), fun _ => fun H hH => no hv H (y_st e hH (by repeat (first | exact w_nil | refine w_cons (Or.inl (y_m rfl)) ?_ | refine w_cons (Or.inr (by assumption)) ?_)) (by repeat (first | exact w_nil | refine w_cons (Or.inl (y_m rfl)) ?_ | refine w_cons (Or.inr (by assumption)) ?_)))⟩
  refine w_go z_hl [] [178] 30 hr ?_
  refine ⟨rfl, y_zini (by decide) (by decide), fun H1 h1 => ?_⟩
  have e1 : y_fr h H1 [19584] [] := y_st (y_mo (y_rf hr) rfl rfl) h1 (by repeat (first | exact w_nil | refine w_cons (Or.inl (y_m rfl)) ?_ | refine w_cons (Or.inr (by assumption)) ?_)) (by repeat (first | exact w_nil | refine w_cons (Or.inl (y_m rfl)) ?_ | refine w_cons (Or.inr (by assumption)) ?_))
  refine q_isNode2 (v := node) e1.1 ((y_fe e1 rfl).trans g0) (fun H2 vv h2 hv hv2 hvc => ⟨fun n e => (by cases e), ?_⟩) (fun H2 h2 nn => ⟨fun n e => (by cases e), ?_⟩)
  · exact T10 ⟨by omega, by omega⟩ (y_sq e1 h2 rfl rfl)
  · exact T10n nn (y_sq e1 h2 rfl rfl)
end NCH
theorem n_c33 {X : aX} : n_pc X a_m33 1 false n_s33 := by
  intro us h v C S K0 hl _ hI hc hm hk
  match us, hl with
  | [a], _ =>
    refine c_chance (d := 195) hI.1 hI.2.1 hc (n_toW hI.1 hI.2.1.1 hc hm) (fun q H e => ?_) (fun q H e => ?_)
    · rw [show n_s33 [a] v = (n_up v 143 (Int32.ofInt 1), if n_now v = 0 then n_m2 else Int32.ofInt 0) from if_pos q] at hk
      dsimp only at hk
      obtain ⟨r1, r2, r3⟩ := n_Qs_pc hI hc hm e
      exact hk H r1 r2 r3
    · rw [show n_s33 [a] v = (v, Int32.ofInt (-1)) from if_neg q] at hk
      dsimp only at hk
      exact hk H ⟨e.1, y_jfr y_JA_x e rfl rfl hI.2.1, t_day_frc e rfl hI.2.2⟩ (n_cS_V (n_fk_c (ex := []) e rfl) hc) (n_mS_V (n_fm_ok e rfl) hm)
theorem n_r187 {X : aX} : n_pr X a_m187 1 false n_s33 := by
  intro us h w v C S K0 hl _ hI hc hm hk
  match us, hl with
  | [a], _ =>
    refine f_chance (d := 196) hI.1 hI.2.1.1 hm (fun q H e qJ => ?_) (fun q H e => ?_)
    · rw [show n_s33 [a] v = (n_up v 143 (Int32.ofInt 1), if n_now v = 0 then n_m2 else Int32.ofInt 0) from if_pos q] at hk
      dsimp only at hk
      exact hk H ⟨e.1, ⟨qJ, j_say_e e rfl rfl hI.2.1.2.1, j_cost_e e rfl rfl hI.2.1.2.2⟩, t_day_fr e rfl hI.2.2⟩ (n_cS_V (n_fk_c (ex := []) e rfl) hc) (n_mV_3 (n_mS_V (n_fk_m e rfl) hm))
    · rw [show n_s33 [a] v = (v, Int32.ofInt (-1)) from if_neg q] at hk
      dsimp only at hk
      exact hk H ⟨e.1, ⟨y_J_fr e rfl rfl hI.2.1.1, j_say_e e rfl rfl hI.2.1.2.1, j_cost_e e rfl rfl hI.2.1.2.2⟩, t_day_fr e rfl hI.2.2⟩ (n_cS_V (n_fk_c (ex := []) e rfl) hc) (n_mS_V (n_fk_m e rfl) hm)
end PT33hg
section PT33hh
/-! ===== v11: what calls ask of both (laid by wip/tools/mk11d.py) ===== -/
section NAS
variable {X : aX} {C S d : Nat} {K0 : Option Value → aH → Nat → Nat → Prop} {h G : aH} {v : Nat → Int32}
abbrev n_isV (v : Nat → Int32) (a : Int32) : Prop := n_hasV a (v 128) ∧ 0 ≤ n_sg v a.toInt.toNat
theorem c_isSn (hr : w_hr z_D h) (hc : n_cV h v) (e : y_fr h G [] []) {a : Int32} (yes : n_isV v a → ∀ H, y_fr h H [] [] → K0 (some (.int (y_01 true))) H C S) (no : ¬ n_isV v a → ∀ H, y_fr h H [] [] → K0 (some (.int (y_01 false))) H C S) : aOK s_P X (d + 1) a_m50 0 [some (.ref 3), some (.int a)] [] G C S K0 := by
  have g0 := hc.1 128 (by decide)
  have b0 := n_bd (lo := 0) (hi := 10) hr g0 rfl
  have g1 := hc.1 138 (by decide)
  obtain ⟨⟨p1, p2⟩, -, p3⟩ := id hc.2.2.2.2.2.2.2.2.2.2.2.2.1
  have pw : 2 ^ (v 128).toInt.toNat ≤ 2 ^ 10 := n_p2 (by omega)
  have T5 : ∀ {G : aH}, n_hasV a (v 128) → y_fr h G [] [] → aOK s_P X (d + 1) a_m50 5 [some (.ref 3), some (.int a)] [.int (y_01 true)] G C S K0 := by
    intro G hv e
    obtain ⟨v1, v2⟩ := id hv
    have m1 := c_b01 (bits := v 138) (k := a) (b := (v 138).toInt.toNat) (o := a.toInt.toNat) (by omega) (by omega) (by omega) (by omega)
    rw [(p3 a.toInt.toNat (by omega)).1] at m1
    refine w_go z_hl [] [] 40 e.1 ?_
    refine ⟨fun z => absurd z (by decide), fun _ => ?_⟩
    intro x hx _ _
    obtain rfl := y_fi ((y_fe e rfl).trans g1) hx
    refine ⟨fun z => ⟨by decide, fun H hH => ?_⟩, fun z => ⟨by decide, fun H hH => ?_⟩⟩
    · have z1 : ((v 138 >>> (a &&& 31)) &&& Int32.ofInt 1).toInt = (0 : Int32).toInt := (y_ci .eq _ _).mp z
      have z2 : ((v 138 >>> (a &&& 31)) &&& Int32.ofInt 1).toInt = 0 := z1
      refine no (fun w => ?_) H (y_st e hH (by repeat (first | exact w_nil | refine w_cons (Or.inl (y_m rfl)) ?_ | refine w_cons (Or.inr (by assumption)) ?_)) (by repeat (first | exact w_nil | refine w_cons (Or.inl (y_m rfl)) ?_ | refine w_cons (Or.inr (by assumption)) ?_)))
      rw [decide_eq_true (show 0 ≤ (v (705000 + a.toInt.toNat)).toInt from w.2), if_pos rfl] at m1
      omega
    · have z1 : ¬ (((v 138 >>> (a &&& 31)) &&& Int32.ofInt 1).toInt = (0 : Int32).toInt) := y_cif z
      refine yes ⟨hv, ?_⟩ H (y_st e hH (by repeat (first | exact w_nil | refine w_cons (Or.inl (y_m rfl)) ?_ | refine w_cons (Or.inr (by assumption)) ?_)) (by repeat (first | exact w_nil | refine w_cons (Or.inl (y_m rfl)) ?_ | refine w_cons (Or.inr (by assumption)) ?_)))
      by_cases w : 0 ≤ (v (705000 + a.toInt.toNat)).toInt
      · exact w
      · rw [decide_eq_false w, if_neg (by decide)] at m1
        exact absurd (show _ = (0 : Int32).toInt from m1) z1
  have T5n : ∀ {G : aH}, ¬ n_hasV a (v 128) → y_fr h G [] [] → aOK s_P X (d + 1) a_m50 5 [some (.ref 3), some (.int a)] [.int (y_01 false)] G C S K0 := by
    intro G hv e
    refine w_go z_hl [] [] 40 e.1 ?_
    exact ⟨fun _ => ⟨by decide, fun H hH => no (fun w => hv w.1) H (y_st e hH (by repeat (first | exact w_nil | refine w_cons (Or.inl (y_m rfl)) ?_ | refine w_cons (Or.inr (by assumption)) ?_)) (by repeat (first | exact w_nil | refine w_cons (Or.inl (y_m rfl)) ?_ | refine w_cons (Or.inr (by assumption)) ?_)))⟩, fun z => absurd z (by decide)⟩
  refine w_go z_hl [] [19] 30 e.1 ?_
  intro H hH
  have e1 : y_fr h H [] [] := y_st e hH (by repeat (first | exact w_nil | refine w_cons (Or.inl (y_m rfl)) ?_ | refine w_cons (Or.inr (by assumption)) ?_)) (by repeat (first | exact w_nil | refine w_cons (Or.inl (y_m rfl)) ?_ | refine w_cons (Or.inr (by assumption)) ?_))
  refine c_hasN (v := a) e1.1 ((y_fe e1 rfl).trans g0) (fun v1 v2 H2 h2 => ⟨fun n e => (by cases e), ?_⟩) (fun nv H2 h2 => ⟨fun n e => (by cases e), ?_⟩)
  · exact T5 ⟨v1, v2⟩ (y_sq e1 h2 rfl rfl)
  · exact T5n nv (y_sq e1 h2 rfl rfl)
/-- the second fraction -/
theorem c_put2 (q : n_Qs v h G) {a b : Int64} (hK : ∀ H, n_Qs v h H → K0 none H C S) : aOK s_P X (d + 1) a_m39 0 [some (.ref 154), some (.long a), none, some (.long b), none, none, none] [] G C S K0 := by
  have b1 := a.toInt_lt
  have b2 := a.le_toInt
  have b3 := b.toInt_lt
  have b4 := b.le_toInt
  exact n_boxv [.long a, .long b] (z_x24_s (y_jx_l y_JA_x)) rfl rfl rfl q.1 q.2.1 (n_Bl (by omega) (by omega) (n_Bl (by omega) (by omega) n_B0)) (fun q hq => by cases hq) (by decide) rfl (by decide +kernel) (fun H' r1 r2 r3 => hK H' (n_Qs_z q r1 r2 r3 (by decide) (by decide)))
theorem c_tellToo2 (q : n_Qs v h G) (hK : ∀ H, n_Qs v h H → K0 none H C S) : aOK s_P X (d + 1) a_m44 0 [some (.ref 12), some (.ref 154)] [] G C S K0 := n_boxv [] (z_x25_s (y_jx_l y_JA_x)) rfl rfl rfl q.1 q.2.1 n_B0 (fun q hq => by cases hq) (by decide) rfl (by decide +kernel) (fun H' r1 r2 r3 => hK H' (n_Qs_z q r1 r2 r3 (by decide) (by decide)))
/-- what the reference weighs by -/
def f_wc (h : aH) (v : Nat → Int32) (sa : List Int32) (wl : List Int64) : Prop := y_wc h (v 128) sa wl ∧ (∀ j, j < (v 128).toInt.toNat → y_N sa j = n_sg v j) ∧ (∀ j, j < (v 128).toInt.toNat → -1 ≤ n_sg v j ∧ n_sg v j ≤ 1) ∧ (∀ i, i < 2 ^ (v 128).toInt.toNat → (wl.getD i 0).toInt = n_W v i) ∧ (v 128).toInt = (v 128).toInt.toNat ∧ (v 128).toInt.toNat ≤ 10
theorem f_wc_fr {H : aH} {sa : List Int32} {wl : List Int64} {fs as : List Nat} (s : f_wc h v sa wl) (e : y_fr h H fs as) (h1 : fs.elem 19591 = false) (h2 : as.elem 160 = false) (h3 : as.elem 163 = false) : f_wc H v sa wl := ⟨y_wc_fr s.1 e h1 h2 h3, s.2⟩
variable {sa : List Int32} {wl : List Int64}
theorem f_wc_0 (s : f_wc h v sa wl) : ∀ i, i < 2 ^ (v 128).toInt.toNat → 0 ≤ n_W v i := fun i hi => by
  rw [← s.2.2.2.1 i hi]
  exact y_getD s.1.2.2.2.2.1 i
theorem r_now (s : f_wc h v sa wl) (hK : ∀ (r : Int64) (H : aH), y_fr h H [] [] → 0 ≤ r.toInt → r.toInt ≤ 100000000 → r.toInt = n_now v → K0 (some (.long r)) H C S) : aOK s_P X (d + 3) a_m189 0 [some (.ref 155)] [] h C S K0 := by
  obtain ⟨s1, s2, s3, s4, s5, s6⟩ := s
  refine y_now s1.1 s1.2.1 s1.2.2.1 s1.2.2.2 (fun r H e hr => ?_)
  have b := y_nw_b (sa := sa) (node := Int32.ofInt (-1)) (so := true) (but := Int32.ofInt (-1)) s1.2.2.2 (by omega) (by omega : (v 128).toInt ≤ 10)
  refine hK r H e (by omega) (by omega) ?_
  rw [hr, y_nw_T s5 s6 s2 s4]
  exact c_T_c (fun _ _ => rfl) (fun j _ => n_bu_n)
theorem c_TW_c {f g g' : Nat → Int} {n k : Nat} {x : Int} (kn : k < n) (hg : ∀ j, j < n → g j = g' j) : c_TW f n g k x = c_TW f n g' k x := by
  unfold c_TW
  rw [hg k kn]
  by_cases z : 0 ≤ g' k ∧ g' k ≠ x
  · rw [if_pos z, if_pos z]
  · rw [if_neg z, if_neg z]
    refine c_T_c (fun _ _ => rfl) (fun j hj => ?_)
    by_cases e : j = k
    · rw [e, c_upk, c_upk]
    · rw [c_upo e, c_upo e, hg j hj]
theorem r_nowWith (s : f_wc h v sa wl) {node : Int32} {k : Nat} {b : Bool} (hk : node.toInt = k) (kn : k < (v 128).toInt.toNat) (hK : ∀ (r : Int64) (H : aH), y_fr h H [] [] → 0 ≤ r.toInt → r.toInt ≤ 100000000 → r.toInt = n_nwW v k b → K0 (some (.long r)) H C S) : aOK s_P X (d + 2) a_m190 0 [some (.ref 155), some (.int node), some (.int (y_01 b)), some (.int (Int32.ofInt (-1))), none] [] h C S K0 := by
  obtain ⟨s1, s2, s3, s4, s5, s6⟩ := s
  refine y_nowWith s1.1 s1.2.1 s1.2.2.1 s1.2.2.2 (fun r H e hr => ?_)
  have bb := y_nw_b (sa := sa) (node := node) (so := b) (but := Int32.ofInt (-1)) s1.2.2.2 (by omega) (by omega : (v 128).toInt ≤ 10)
  refine hK r H e (by omega) (by omega) ?_
  rw [hr, y_nw_W s5 s6 hk kn s2 (s3 k kn).2 s4]
  exact c_TW_c kn (fun j _ => n_bu_n)
/-- the weights are worked: all that the reference weighs by -/
theorem r_up (hr : w_hr z_D h) (hJ : y_J h) (hm : n_mV h v) (hK : ∀ (sa : List Int32) (wl : List Int64) (H : aH), y_fr h H [] [163] → y_J H → f_wc H v sa wl → K0 none H C S) : aOK s_P X (d + 2) a_m188 0 [some (.ref 155), none] [] h C S K0 := by
  have g0 : w_f h 19591 = some (.int (v 128)) := hm.1 (128, 19591) (by decide)
  obtain ⟨sa, s4, s5, s6, n1, n10⟩ := f_sn hr hJ hm
  exact f_up hr hJ hm (fun wl H e J hw hf => hK sa wl H e J ⟨⟨e.1, (y_fe e rfl).trans g0, (y_ae e rfl).trans s4, hw⟩, s5, s6, hf, n1, n10⟩)
/-- now is one way and the other -/
theorem n_now_sp {k : Nat} (f0 : ∀ i, i < 2 ^ (v 128).toInt.toNat → 0 ≤ n_W v i) (kn : k < (v 128).toInt.toNat) (h0 : -1 ≤ n_sg v k) (h1 : n_sg v k ≤ 1) : n_now v = n_nwW v k true + n_nwW v k false ∧ 0 ≤ n_nwW v k true ∧ 0 ≤ n_nwW v k false := ⟨c_T_sp kn h0 h1, (c_TW_b f0).1, (c_TW_b f0).1⟩
end NAS
end PT33hh
section PT33hi
/-! ===== v11: neither seen nor forced (laid by wip/tools/mk11k.py) ===== -/
abbrev n_fre (v : Nat → Int32) (k : Nat) : Prop := n_sg v k < 0 ∧ (v (704000 + k)).toInt < 0
section NLO
variable {X : aX} {C S d : Nat} {K0 : Option Value → aH → Nat → Nat → Prop} {h G : aH} {v : Nat → Int32}
/-- neither seen nor forced: the class -/
theorem c_lookG (hr : w_hr z_D h) (hc : n_cV h v) (hrG : w_hr z_D G) (k0 : w_f G 128 = some (.int (v 128))) (k1 : w_f G 138 = some (.int (v 138))) (k2 : w_f G 136 = some (.int (v 136))) {a : Int32} (yes : n_hasV a (v 128) ∧ n_fre v a.toInt.toNat → ∀ H, y_fr G H [] [] → K0 (some (.int (y_01 true))) H C S) (no : ¬ (n_hasV a (v 128) ∧ n_fre v a.toInt.toNat) → ∀ H, y_fr G H [] [] → K0 (some (.int (y_01 false))) H C S) : aOK s_P X (d + 1) a_m60 0 [some (.ref 3), some (.int a)] [] G C S K0 := by
  have b0 := n_bd (lo := 0) (hi := 10) hr (hc.1 128 (by decide)) rfl
  obtain ⟨⟨p1, p2⟩, -, p3⟩ := id hc.2.2.2.2.2.2.2.2.2.2.2.2.1
  obtain ⟨⟨⟨r1, r2⟩, -, r3⟩, -⟩ := id hc.2.2.2.2.2.2.2.2.2.1
  have pw : 2 ^ (v 128).toInt.toNat ≤ 2 ^ 10 := n_p2 (by omega)
  have T5 : ∀ {J : aH}, n_hasV a (v 128) → y_fr G J [] [] → aOK s_P X (d + 1) a_m60 5 [some (.ref 3), some (.int a)] [.int (y_01 true)] J C S K0 := by
    intro J hv e
    obtain ⟨v1, v2⟩ := id hv
    obtain ⟨o1, o2⟩ := c_orN (x := v 138) (y := v 136) (n := (v 138).toInt.toNat) (m := (v 136).toInt.toNat) (by omega) (by omega) (by omega) (by omega)
    have m1 := c_b01 (bits := v 138 ||| v 136) (k := a) (o := a.toInt.toNat) o1 o2 (by omega) (by omega)
    rw [Nat.testBit_or, (p3 a.toInt.toNat (by omega)).1, (r3 a.toInt.toNat (by omega)).1] at m1
    refine w_go z_hl [] [] 40 e.1 ?_
    refine ⟨fun z => absurd z (by decide), fun _ => ?_⟩
    intro x hx _ _
    obtain rfl := y_fi ((y_fe e rfl).trans k1) hx
    intro y hy _ _
    obtain rfl := y_fi ((y_fe e rfl).trans k2) hy
    refine ⟨fun z => ⟨by decide, fun H hH => ?_⟩, fun z => ⟨by decide, fun H hH => ?_⟩⟩
    · have z1 : (((v 138 ||| v 136) >>> (a &&& 31)) &&& Int32.ofInt 1).toInt ≠ (0 : Int32).toInt := (y_ci .ne _ _).mp z
      refine no (fun w => z1 ?_) H (y_st e hH (by repeat (first | exact w_nil | refine w_cons (Or.inl (y_m rfl)) ?_ | refine w_cons (Or.inr (by assumption)) ?_)) (by repeat (first | exact w_nil | refine w_cons (Or.inl (y_m rfl)) ?_ | refine w_cons (Or.inr (by assumption)) ?_)))
      rw [decide_eq_false (show ¬ 0 ≤ (v (705000 + a.toInt.toNat)).toInt from Int.not_le.mpr w.2.1), decide_eq_false (show ¬ 0 ≤ (v (704000 + a.toInt.toNat)).toInt from Int.not_le.mpr w.2.2), if_neg (by decide)] at m1
      exact m1
    · have z1 : ¬ ((((v 138 ||| v 136) >>> (a &&& 31)) &&& Int32.ofInt 1).toInt ≠ (0 : Int32).toInt) := y_cif z
      have z2 : (((v 138 ||| v 136) >>> (a &&& 31)) &&& Int32.ofInt 1).toInt = 0 := Decidable.not_not.mp z1
      refine yes ⟨hv, ?_⟩ H (y_st e hH (by repeat (first | exact w_nil | refine w_cons (Or.inl (y_m rfl)) ?_ | refine w_cons (Or.inr (by assumption)) ?_)) (by repeat (first | exact w_nil | refine w_cons (Or.inl (y_m rfl)) ?_ | refine w_cons (Or.inr (by assumption)) ?_)))
      by_cases w : 0 ≤ (v (705000 + a.toInt.toNat)).toInt
      · rw [decide_eq_true w, Bool.true_or, if_pos rfl] at m1
        omega
      · by_cases w2 : 0 ≤ (v (704000 + a.toInt.toNat)).toInt
        · rw [decide_eq_true w2, Bool.or_true, if_pos rfl] at m1
          omega
        · exact ⟨Int.not_le.mp w, Int.not_le.mp w2⟩
  have T5n : ∀ {J : aH}, ¬ n_hasV a (v 128) → y_fr G J [] [] → aOK s_P X (d + 1) a_m60 5 [some (.ref 3), some (.int a)] [.int (y_01 false)] J C S K0 := by
    intro J hv e
    refine w_go z_hl [] [] 40 e.1 ?_
    exact ⟨fun _ => ⟨by decide, fun H hH => no (fun w => hv w.1) H (y_st e hH (by repeat (first | exact w_nil | refine w_cons (Or.inl (y_m rfl)) ?_ | refine w_cons (Or.inr (by assumption)) ?_)) (by repeat (first | exact w_nil | refine w_cons (Or.inl (y_m rfl)) ?_ | refine w_cons (Or.inr (by assumption)) ?_)))⟩, fun z => absurd z (by decide)⟩
  refine w_go z_hl [] [19] 30 hrG ?_
  intro H hH
  have e1 : y_fr G H [] [] := y_st (y_rf hrG) hH (by repeat (first | exact w_nil | refine w_cons (Or.inl (y_m rfl)) ?_ | refine w_cons (Or.inr (by assumption)) ?_)) (by repeat (first | exact w_nil | refine w_cons (Or.inl (y_m rfl)) ?_ | refine w_cons (Or.inr (by assumption)) ?_))
  refine c_hasN (v := a) e1.1 ((y_fe e1 rfl).trans k0) (fun v1 v2 H2 h2 => ⟨fun n e => (by cases e), ?_⟩) (fun nv H2 h2 => ⟨fun n e => (by cases e), ?_⟩)
  · exact T5 ⟨v1, v2⟩ (y_sq e1 h2 rfl rfl)
  · exact T5n nv (y_sq e1 h2 rfl rfl)
theorem c_look (hr : w_hr z_D h) (hc : n_cV h v) (e : y_fr h G [] []) {a : Int32} (yes : n_hasV a (v 128) ∧ n_fre v a.toInt.toNat → ∀ H, y_fr h H [] [] → K0 (some (.int (y_01 true))) H C S) (no : ¬ (n_hasV a (v 128) ∧ n_fre v a.toInt.toNat) → ∀ H, y_fr h H [] [] → K0 (some (.int (y_01 false))) H C S) : aOK s_P X (d + 1) a_m60 0 [some (.ref 3), some (.int a)] [] G C S K0 :=
  c_lookG hr hc e.1 ((y_fe e rfl).trans (hc.1 128 (by decide))) ((y_fe e rfl).trans (hc.1 138 (by decide))) ((y_fe e rfl).trans (hc.1 136 (by decide))) (fun w H f => yes w H (y_sq e f rfl rfl)) (fun w H f => no w H (y_sq e f rfl rfl))
end NLO
end PT33hi
section PT33hj
/-! ===== v11: the class's fractions, exactly (laid by wip/tools/mk11e.py) ===== -/
theorem c_half {L r : Nat} (h0 : 0 < r) (hr : r < L) : 2 * (L % r) < L := by
  have h1 : L % r < r := Nat.mod_lt _ h0
  have h2 : L % r + r ≤ L := by
    have h3 := Nat.div_add_mod L r
    have h4 : 1 ≤ L / r := Nat.div_pos (Nat.le_of_lt hr) h0
    have h5 : r * 1 ≤ r * (L / r) := Nat.mul_le_mul_left r h4
    omega
  omega
section NFR
variable {X : aX} {C S d : Nat} {K0 : Option Value → aH → Nat → Nat → Prop}
theorem c_200 : ((Int16.ofInt 200).toInt32).toInt = 200 := by decide
theorem c_cd_exit {h : aH} (hr : w_hr z_D h) {a b G0 L0 : Int64} {iI : Int32} {o9 : Option Value} {i : Nat} (hi : iI.toInt = i) (i2 : i < 200) (hL : L0.toInt = 0) (hK : ∀ (H : aH), y_fr h H [] [] → K0 (some (.long G0)) H C S) : aOK s_P X d a_m41 9 [some (.long a), none, some (.long b), none, some (.long G0), none, some (.long L0), none, some (.int iI), o9, none] [] h C S K0 := by
  refine w_go z_hl [9] [] 40 hr ?_
  refine ⟨fun q => ?_, fun _ => ⟨fun _ => fun H hH => hK H (y_st (y_rf hr) hH (by repeat (first | exact w_nil | refine w_cons (Or.inl (y_m rfl)) ?_ | refine w_cons (Or.inr (by assumption)) ?_)) (by repeat (first | exact w_nil | refine w_cons (Or.inl (y_m rfl)) ?_ | refine w_cons (Or.inr (by assumption)) ?_))), fun q => ?_⟩⟩
  · have : ((Int16.ofInt 200).toInt32).toInt ≤ iI.toInt := (y_ci .ge _ _).mp q
    rw [c_200] at this
    omega
  · have z : ¬ (L0.toInt = (Int64.ofNat 0).toInt) := y_clf q
    exact absurd (show L0.toInt = (Int64.ofNat 0).toInt from hL) z
theorem c_cd_step {h : aH} (hr : w_hr z_D h) {a b G0 L0 : Int64} {iI : Int32} {o9 : Option Value} {i : Nat} (hi : iI.toInt = i) (i2 : i < 200) (hG : 0 ≤ G0.toInt) (hL : 1 ≤ L0.toInt) (nx : ∀ (H : aH) (R : Int64) (kI : Int32) (o9 : Option Value), y_fr h H [] [] → R.toInt = ((G0.toInt.toNat % L0.toInt.toNat : Nat) : Int) → kI.toInt = ((i + 1 : Nat) : Int) → aOK s_P X d a_m41 9 [some (.long a), none, some (.long b), none, some (.long L0), none, some (.long R), none, some (.int kI), o9, none] [] H C S K0) : aOK s_P X d a_m41 9 [some (.long a), none, some (.long b), none, some (.long G0), none, some (.long L0), none, some (.int iI), o9, none] [] h C S K0 := by
  have ink : (iI + Int32.ofInt 1).toInt = ((i + 1 : Nat) : Int) := by rw [y_inc (by omega), hi]; rfl
  have l0 : L0 ≠ 0 := fun e => by
    rw [e] at hL
    exact absurd hL (by decide)
  have er : (G0 - G0 / L0 * L0).toInt = ((G0.toInt.toNat % L0.toInt.toNat : Nat) : Int) := by
    rw [s_i64rem, Int.tmod_eq_emod_of_nonneg hG, ← Int.toNat_emod hG (by omega)]
    have := Int.emod_nonneg G0.toInt (show L0.toInt ≠ 0 by omega)
    omega
  refine w_go z_hl [9] [] 60 hr ?_
  refine ⟨fun q => ?_, fun _ => ⟨fun q => ?_, fun q => ⟨l0, fun H hH => nx H _ _ _ (y_st (y_rf hr) hH (by repeat (first | exact w_nil | refine w_cons (Or.inl (y_m rfl)) ?_ | refine w_cons (Or.inr (by assumption)) ?_)) (by repeat (first | exact w_nil | refine w_cons (Or.inl (y_m rfl)) ?_ | refine w_cons (Or.inr (by assumption)) ?_))) er ink⟩⟩⟩
  · have : ((Int16.ofInt 200).toInt32).toInt ≤ iI.toInt := (y_ci .ge _ _).mp q
    rw [c_200] at this
    omega
  · have z : L0.toInt = (Int64.ofNat 0).toInt := (y_cl .eq _ _).mp q
    have z2 : L0.toInt = 0 := z
    omega
theorem c_cd_loop {a b : Int64} : ∀ (k : Nat) (h : aH) (G0 L0 : Int64) (iI : Int32) (o9 : Option Value) (i : Nat), w_hr z_D h → 0 ≤ G0.toInt → 0 ≤ L0.toInt → L0.toInt < ((2 ^ k : Nat) : Int) → iI.toInt = i → i + 2 * k + 1 ≤ 200 → (∀ (H : aH) (g : Int64), y_fr h H [] [] → g.toInt = ((Nat.gcd G0.toInt.toNat L0.toInt.toNat : Nat) : Int) → K0 (some (.long g)) H C S) → aOK s_P X d a_m41 9 [some (.long a), none, some (.long b), none, some (.long G0), none, some (.long L0), none, some (.int iI), o9, none] [] h C S K0 := by
  have stop : ∀ (h : aH) (G0 L0 : Int64) (iI : Int32) (o9 : Option Value) (i : Nat), w_hr z_D h → 0 ≤ G0.toInt → L0.toInt = 0 → iI.toInt = i → i < 200 → (∀ (H : aH) (g : Int64), y_fr h H [] [] → g.toInt = ((Nat.gcd G0.toInt.toNat L0.toInt.toNat : Nat) : Int) → K0 (some (.long g)) H C S) → aOK s_P X d a_m41 9 [some (.long a), none, some (.long b), none, some (.long G0), none, some (.long L0), none, some (.int iI), o9, none] [] h C S K0 := by
    intro h G0 L0 iI o9 i hr hG hL hi i2 hK
    refine c_cd_exit hr hi i2 hL (fun H e => hK H G0 e ?_)
    rw [hL, Int.toNat_zero, Nat.gcd_zero_right]
    omega
  intro k
  induction k with
  | zero =>
    intro h G0 L0 iI o9 i hr hG hL hk hi ib hK
    have hk1 : L0.toInt < 1 := hk
    exact stop h G0 L0 iI o9 i hr hG (by omega) hi (by omega) hK
  | succ k ih =>
    intro h G0 L0 iI o9 i hr hG hL hk hi ib hK
    by_cases z : L0.toInt = 0
    · exact stop h G0 L0 iI o9 i hr hG z hi (by omega) hK
    · refine c_cd_step hr hi (by omega) hG (by omega) (fun H R kI o9 e hR hkI => ?_)
      have g1 : Nat.gcd G0.toInt.toNat L0.toInt.toNat = Nat.gcd L0.toInt.toNat R.toInt.toNat := by
        rw [show R.toInt.toNat = G0.toInt.toNat % L0.toInt.toNat by omega, Nat.gcd_comm, Nat.gcd_rec, Nat.gcd_comm]
      have rl : G0.toInt.toNat % L0.toInt.toNat < L0.toInt.toNat := Nat.mod_lt _ (by omega)
      by_cases z1 : R.toInt = 0
      · refine stop H L0 R kI o9 (i + 1) e.1 (by omega) z1 hkI (by omega) (fun H' g f hg => hK H' g (y_sq e f rfl rfl) (by rw [hg, g1]))
      · refine c_cd_step e.1 hkI (by omega) hL (by omega) (fun H2 R2 k2 o9 e2 hR2 hk2 => ?_)
        have g2 : Nat.gcd L0.toInt.toNat R.toInt.toNat = Nat.gcd R.toInt.toNat R2.toInt.toNat := by
          rw [show R2.toInt.toNat = L0.toInt.toNat % R.toInt.toNat by omega, Nat.gcd_comm, Nat.gcd_rec, Nat.gcd_comm]
        have hf := c_half (L := L0.toInt.toNat) (r := R.toInt.toNat) (by omega) (by omega)
        have pw : 2 ^ (k + 1) = 2 * 2 ^ k := by rw [Nat.pow_succ]; omega
        exact ih H2 R R2 k2 o9 (i + 1 + 1) e2.1 (by omega) (by omega) (by omega) hk2 (by omega) (fun H' g f hg => hK H' g (y_sq (y_sq e e2 rfl rfl) f rfl rfl) (by rw [hg, g1, g2]))
theorem c_cd {h : aH} (hr : w_hr z_D h) {a b : Int64} (ha : 0 ≤ a.toInt) (hb : 0 ≤ b.toInt) (hK : ∀ (H : aH) (g : Int64), y_fr h H [] [] → g.toInt = ((Nat.gcd a.toInt.toNat b.toInt.toNat : Nat) : Int) → K0 (some (.long g)) H C S) : aOK s_P X d a_m41 0 [some (.long a), none, some (.long b), none, none, none, none, none, none, none, none] [] h C S K0 := by
  have b2 := b.toInt_lt
  refine w_go z_hl [9] [] 40 hr ?_
  intro H hH
  have e : y_fr h H [] [] := y_st (y_rf hr) hH (by repeat (first | exact w_nil | refine w_cons (Or.inl (y_m rfl)) ?_ | refine w_cons (Or.inr (by assumption)) ?_)) (by repeat (first | exact w_nil | refine w_cons (Or.inl (y_m rfl)) ?_ | refine w_cons (Or.inr (by assumption)) ?_))
  exact c_cd_loop 63 H a b _ _ 0 e.1 ha hb (by show b.toInt < 9223372036854775808; omega) (by decide) (by decide) (fun H' g f hg => hK H' g (y_sq e f rfl rfl) hg)
theorem c_put153 {h : aH} (hr : w_hr z_D h) {n m : Int64} (hn : -9223372036854775808 < n.toInt) (hm : 1 ≤ m.toInt) (hK : ∀ (g : Nat) (u l : Int64) (H : aH), g = Nat.gcd n.toInt.natAbs m.toInt.natAbs → 1 ≤ g → u.toInt = n.toInt.tdiv g → l.toInt = m.toInt / g → 1 ≤ l.toInt → y_fr h H [19328, 19329] [] → w_f H 19328 = some (.long u) → w_f H 19329 = some (.long l) → K0 none H C S) : aOK s_P X (d + 1) a_m39 0 [some (.ref 153), some (.long n), none, some (.long m), none, none, none] [] h C S K0 := by
  have m2 := m.toInt_lt
  have n2 := n.toInt_lt
  have T8 : ∀ {G : aH} {g : Int64}, y_fr h G [] [] → g.toInt = ((Nat.gcd n.toInt.natAbs m.toInt.natAbs : Nat) : Int) → aOK s_P X (d + 1) a_m39 8 [some (.ref 153), some (.long n), none, some (.long m), none, none, none] [.long g] G C S K0 := by
    intro G g e hg
    have hgp : 1 ≤ Nat.gcd n.toInt.natAbs m.toInt.natAbs := Nat.gcd_pos_of_pos_right _ (by omega)
    have hgd : Nat.gcd n.toInt.natAbs m.toInt.natAbs ≤ m.toInt.natAbs := Nat.gcd_le_right _ (by omega)
    have hg1 : 1 ≤ g.toInt := by omega
    have hg0 : g ≠ 0 := fun e => by
      rw [e] at hg1
      exact absurd hg1 (by decide)
    have hu : (n / g).toInt = n.toInt.tdiv g.toInt := y_div hn hg1
    have hl : (m / g).toInt = m.toInt / g.toInt := by
      rw [y_div (by omega) hg1, Int.tdiv_eq_ediv_of_nonneg (by omega)]
    have hl1 : 1 ≤ m.toInt / g.toInt := Int.le_ediv_of_mul_le (by omega) (by omega)
    have le1 : ∀ {q : a_cnd .le (lg_cmp g (Int64.ofNat 1)) 0 = true}, g.toInt = 1 := fun {q} => by
      have z : g.toInt ≤ (Int64.ofNat 1).toInt := (y_cl .le _ _).mp q
      have z2 : g.toInt ≤ 1 := z
      omega
    have gt1 : ∀ {q : a_cnd .le (lg_cmp g (Int64.ofNat 1)) 0 = false}, g.toInt ≠ 1 := fun {q} => by
      have z : ¬ (g.toInt ≤ (Int64.ofNat 1).toInt) := y_clf q
      have z2 : ¬ (g.toInt ≤ 1) := z
      omega
    refine w_go z_hl [] [] 80 e.1 ?_
    refine ⟨fun q => ⟨rfl, y_zin (y_l64 _).1 (y_l64 _).2, ⟨fun q2 => ⟨rfl, y_zin (y_l64 _).1 (y_l64 _).2, fun H hH => ?_⟩, fun q2 => absurd (le1 (q := q)) (gt1 (q := q2))⟩⟩, fun q => ⟨hg0, rfl, y_zin (y_l64 _).1 (y_l64 _).2, ⟨fun q2 => absurd (le1 (q := q2)) (gt1 (q := q)), fun q2 => ⟨hg0, rfl, y_zin (y_l64 _).1 (y_l64 _).2, fun H hH => ?_⟩⟩⟩⟩
    · have e1 := le1 (q := q)
      refine hK _ n m H rfl hgp ?_ ?_ hm (y_st (y_mo e rfl rfl) hH (by repeat (first | exact w_nil | refine w_cons (Or.inl (y_m rfl)) ?_ | refine w_cons (Or.inr (by assumption)) ?_)) (by repeat (first | exact w_nil | refine w_cons (Or.inl (y_m rfl)) ?_ | refine w_cons (Or.inr (by assumption)) ?_))) (hH.2.1 19328 _ rfl) (hH.2.1 19329 _ rfl)
      · rw [← hg, e1, Int.tdiv_one]
      · rw [← hg, e1, Int.ediv_one]
    · refine hK _ _ _ H rfl hgp ?_ ?_ ?_ (y_st (y_mo e rfl rfl) hH (by repeat (first | exact w_nil | refine w_cons (Or.inl (y_m rfl)) ?_ | refine w_cons (Or.inr (by assumption)) ?_)) (by repeat (first | exact w_nil | refine w_cons (Or.inl (y_m rfl)) ?_ | refine w_cons (Or.inr (by assumption)) ?_))) (hH.2.1 19328 _ rfl) (hH.2.1 19329 _ rfl)
      · rw [hu, hg]
      · rw [hl, hg]
      · rw [hl]
        exact hl1
  refine w_go z_hl [] [41] 40 hr ?_
  refine ⟨fun q => fun H hH => ?_, fun q => fun H hH => ?_⟩
  · have n0 := y_ge q
    have e : y_fr h H [] [] := y_st (y_rf hr) hH (by repeat (first | exact w_nil | refine w_cons (Or.inl (y_m rfl)) ?_ | refine w_cons (Or.inr (by assumption)) ?_)) (by repeat (first | exact w_nil | refine w_cons (Or.inl (y_m rfl)) ?_ | refine w_cons (Or.inr (by assumption)) ?_))
    refine c_cd e.1 n0 (by omega) (fun H2 g e2 hg => ⟨fun n e => (by cases e), ?_⟩)
    exact T8 (y_sq e e2 rfl rfl) (by rw [hg, show n.toInt.toNat = n.toInt.natAbs by omega, show m.toInt.toNat = m.toInt.natAbs by omega])
  · have n0 := y_lt q
    have en := y_neg hn
    have e : y_fr h H [] [] := y_st (y_rf hr) hH (by repeat (first | exact w_nil | refine w_cons (Or.inl (y_m rfl)) ?_ | refine w_cons (Or.inr (by assumption)) ?_)) (by repeat (first | exact w_nil | refine w_cons (Or.inl (y_m rfl)) ?_ | refine w_cons (Or.inr (by assumption)) ?_))
    refine c_cd (a := -n) e.1 (by omega) (by omega) (fun H2 g e2 hg => ⟨fun n e => (by cases e), ?_⟩)
    exact T8 (y_sq e e2 rfl rfl) (by rw [hg, en, show (-n.toInt).toNat = n.toInt.natAbs by omega, show m.toInt.toNat = m.toInt.natAbs by omega])
theorem c_put154 {h : aH} (hr : w_hr z_D h) {n m : Int64} (hn : -9223372036854775808 < n.toInt) (hm : 1 ≤ m.toInt) (hK : ∀ (g : Nat) (u l : Int64) (H : aH), g = Nat.gcd n.toInt.natAbs m.toInt.natAbs → 1 ≤ g → u.toInt = n.toInt.tdiv g → l.toInt = m.toInt / g → 1 ≤ l.toInt → y_fr h H [19456, 19457] [] → w_f H 19456 = some (.long u) → w_f H 19457 = some (.long l) → K0 none H C S) : aOK s_P X (d + 1) a_m39 0 [some (.ref 154), some (.long n), none, some (.long m), none, none, none] [] h C S K0 := by
  have m2 := m.toInt_lt
  have n2 := n.toInt_lt
  have T8 : ∀ {G : aH} {g : Int64}, y_fr h G [] [] → g.toInt = ((Nat.gcd n.toInt.natAbs m.toInt.natAbs : Nat) : Int) → aOK s_P X (d + 1) a_m39 8 [some (.ref 154), some (.long n), none, some (.long m), none, none, none] [.long g] G C S K0 := by
    intro G g e hg
    have hgp : 1 ≤ Nat.gcd n.toInt.natAbs m.toInt.natAbs := Nat.gcd_pos_of_pos_right _ (by omega)
    have hgd : Nat.gcd n.toInt.natAbs m.toInt.natAbs ≤ m.toInt.natAbs := Nat.gcd_le_right _ (by omega)
    have hg1 : 1 ≤ g.toInt := by omega
    have hg0 : g ≠ 0 := fun e => by
      rw [e] at hg1
      exact absurd hg1 (by decide)
    have hu : (n / g).toInt = n.toInt.tdiv g.toInt := y_div hn hg1
    have hl : (m / g).toInt = m.toInt / g.toInt := by
      rw [y_div (by omega) hg1, Int.tdiv_eq_ediv_of_nonneg (by omega)]
    have hl1 : 1 ≤ m.toInt / g.toInt := Int.le_ediv_of_mul_le (by omega) (by omega)
    have le1 : ∀ {q : a_cnd .le (lg_cmp g (Int64.ofNat 1)) 0 = true}, g.toInt = 1 := fun {q} => by
      have z : g.toInt ≤ (Int64.ofNat 1).toInt := (y_cl .le _ _).mp q
      have z2 : g.toInt ≤ 1 := z
      omega
    have gt1 : ∀ {q : a_cnd .le (lg_cmp g (Int64.ofNat 1)) 0 = false}, g.toInt ≠ 1 := fun {q} => by
      have z : ¬ (g.toInt ≤ (Int64.ofNat 1).toInt) := y_clf q
      have z2 : ¬ (g.toInt ≤ 1) := z
      omega
    refine w_go z_hl [] [] 80 e.1 ?_
    refine ⟨fun q => ⟨rfl, y_zin (y_l64 _).1 (y_l64 _).2, ⟨fun q2 => ⟨rfl, y_zin (y_l64 _).1 (y_l64 _).2, fun H hH => ?_⟩, fun q2 => absurd (le1 (q := q)) (gt1 (q := q2))⟩⟩, fun q => ⟨hg0, rfl, y_zin (y_l64 _).1 (y_l64 _).2, ⟨fun q2 => absurd (le1 (q := q2)) (gt1 (q := q)), fun q2 => ⟨hg0, rfl, y_zin (y_l64 _).1 (y_l64 _).2, fun H hH => ?_⟩⟩⟩⟩
    · have e1 := le1 (q := q)
      refine hK _ n m H rfl hgp ?_ ?_ hm (y_st (y_mo e rfl rfl) hH (by repeat (first | exact w_nil | refine w_cons (Or.inl (y_m rfl)) ?_ | refine w_cons (Or.inr (by assumption)) ?_)) (by repeat (first | exact w_nil | refine w_cons (Or.inl (y_m rfl)) ?_ | refine w_cons (Or.inr (by assumption)) ?_))) (hH.2.1 19456 _ rfl) (hH.2.1 19457 _ rfl)
      · rw [← hg, e1, Int.tdiv_one]
      · rw [← hg, e1, Int.ediv_one]
    · refine hK _ _ _ H rfl hgp ?_ ?_ ?_ (y_st (y_mo e rfl rfl) hH (by repeat (first | exact w_nil | refine w_cons (Or.inl (y_m rfl)) ?_ | refine w_cons (Or.inr (by assumption)) ?_)) (by repeat (first | exact w_nil | refine w_cons (Or.inl (y_m rfl)) ?_ | refine w_cons (Or.inr (by assumption)) ?_))) (hH.2.1 19456 _ rfl) (hH.2.1 19457 _ rfl)
      · rw [hu, hg]
      · rw [hl, hg]
      · rw [hl]
        exact hl1
  refine w_go z_hl [] [41] 40 hr ?_
  refine ⟨fun q => fun H hH => ?_, fun q => fun H hH => ?_⟩
  · have n0 := y_ge q
    have e : y_fr h H [] [] := y_st (y_rf hr) hH (by repeat (first | exact w_nil | refine w_cons (Or.inl (y_m rfl)) ?_ | refine w_cons (Or.inr (by assumption)) ?_)) (by repeat (first | exact w_nil | refine w_cons (Or.inl (y_m rfl)) ?_ | refine w_cons (Or.inr (by assumption)) ?_))
    refine c_cd e.1 n0 (by omega) (fun H2 g e2 hg => ⟨fun n e => (by cases e), ?_⟩)
    exact T8 (y_sq e e2 rfl rfl) (by rw [hg, show n.toInt.toNat = n.toInt.natAbs by omega, show m.toInt.toNat = m.toInt.natAbs by omega])
  · have n0 := y_lt q
    have en := y_neg hn
    have e : y_fr h H [] [] := y_st (y_rf hr) hH (by repeat (first | exact w_nil | refine w_cons (Or.inl (y_m rfl)) ?_ | refine w_cons (Or.inr (by assumption)) ?_)) (by repeat (first | exact w_nil | refine w_cons (Or.inl (y_m rfl)) ?_ | refine w_cons (Or.inr (by assumption)) ?_))
    refine c_cd (a := -n) e.1 (by omega) (by omega) (fun H2 g e2 hg => ⟨fun n e => (by cases e), ?_⟩)
    exact T8 (y_sq e e2 rfl rfl) (by rw [hg, en, show (-n.toInt).toNat = n.toInt.natAbs by omega, show m.toInt.toNat = m.toInt.natAbs by omega])
end NFR
/-- a fraction's upper number has the sign that was told -/
theorem c_sgn {n u : Int} {g m : Nat} (hg : g = Nat.gcd n.natAbs m) (g1 : 1 ≤ g) (hu : u = n.tdiv g) : (0 < u ↔ 0 < n) ∧ (u < 0 ↔ n < 0) := by
  have dv : (g : Int) ∣ n := Int.ofNat_dvd_left.mpr (by rw [hg]; exact Nat.gcd_dvd_left _ _)
  have e : u * g = n := by
    rw [hu]
    exact Int.tdiv_mul_cancel dv
  constructor
  · constructor
    · intro h
      rw [← e]
      exact Int.mul_pos h (by omega)
    · intro h
      by_cases z : 0 < u
      · exact z
      · have : u * g ≤ 0 := Int.mul_nonpos_of_nonpos_of_nonneg (by omega) (by omega)
        omega
  · constructor
    · intro h
      have : u * g < 0 := Int.mul_neg_of_neg_of_pos h (by omega)
      omega
    · intro h
      by_cases z : u < 0
      · exact z
      · have : 0 ≤ u * g := Int.mul_nonneg (by omega) (by omega)
        omega
section NQF
variable {h G H : aH} {v : Nat → Int32}
theorem n_Qs_w {fs as : List Nat} (q : n_Qs v h G) (e : y_fr G H fs as) (h1 : fs.all (fun x => z_qm.elem x) = true) (h2 : as.all (fun x => z_qm.elem (x * 128)) = true) (h3 : fs.all (fun x => !z_jc.elem x) = true) (h4 : as.all (fun x => !z_jc.elem (x * 128)) = true) (h5 : z_pF.all (fun k => !fs.elem k) = true) (h6 : z_pA.all (fun o => !as.elem o) = true) : n_Qs v h H := by
  have A : ∀ k ∈ z_pF, w_f H k = w_f G k := fun k hk => e.2.1 k (n_nel (by
    have := List.all_eq_true.mp h5 k hk
    rw [Bool.not_eq_true'] at this
    exact this))
  have B : ∀ o ∈ z_pA, w_a H o = w_a G o := fun o ho => e.2.2 o (n_nel (by
    have := List.all_eq_true.mp h6 o ho
    rw [Bool.not_eq_true'] at this
    exact this))
  exact ⟨e.1, y_jfr y_JA_x e h3 h4 q.2.1, z_frm_tr q.2.2.1 (y_frm q.1 e h1 h2), n_Wv_p G H A B q.2.2.2.1, (A 143 (by decide)).trans q.2.2.2.2⟩
end NQF
end PT33hj
section PT33hk
/-! ===== v11: the class's compare, exactly (laid by wip/tools/mk11h.py) ===== -/
def c_sg (x : Int) : Int := if 0 < x then 1 else if x < 0 then -1 else 0
theorem c_sg_p {x : Int} (h : 0 < x) : c_sg x = 1 := if_pos h
theorem c_sg_m {x : Int} (h : x < 0) : c_sg x = -1 := by
  unfold c_sg
  rw [if_neg (by omega), if_pos h]
theorem c_sg_0 : c_sg 0 = 0 := rfl
theorem c_sg_n {x : Int} : c_sg (-x) = -c_sg x := by
  by_cases h : 0 < x
  · rw [c_sg_p h, c_sg_m (by omega)]
  · by_cases h2 : x < 0
    · rw [c_sg_m h2, c_sg_p (by omega)]
      rfl
    · rw [show x = 0 by omega]
      rfl
theorem c_fl {a b c e : Int} (hb : 0 < b) (he : 0 < e) (h : c / e < a / b) : c * b < a * e := by
  have h1 : c < e * (c / e + 1) := by
    have h3 := Int.emod_lt_of_pos c he
    have h4 := Int.mul_ediv_add_emod c e
    rw [Int.mul_add, Int.mul_one]
    omega
  have h2 : b * (a / b) ≤ a := by
    have h3 := Int.emod_nonneg a (show b ≠ 0 by omega)
    have h4 := Int.mul_ediv_add_emod a b
    omega
  calc c * b < e * (c / e + 1) * b := Int.mul_lt_mul_of_pos_right h1 hb
    _ ≤ e * (a / b) * b := Int.mul_le_mul_of_nonneg_right (Int.mul_le_mul_of_nonneg_left (by omega) (by omega)) (by omega)
    _ = e * (b * (a / b)) := by rw [Int.mul_assoc, Int.mul_comm (a / b) b]
    _ ≤ e * a := Int.mul_le_mul_of_nonneg_left h2 (by omega)
    _ = a * e := Int.mul_comm e a
theorem c_fe {a b c e : Int} (h : a / b = c / e) : a * e - c * b = a % b * e - c % e * b := by
  have h1 := Int.mul_ediv_add_emod a b
  have h2 := Int.mul_ediv_add_emod c e
  have e1 : a * e = b * (a / b) * e + a % b * e := by rw [← Int.add_mul, h1]
  have e2 : c * b = e * (c / e) * b + c % e * b := by rw [← Int.add_mul, h2]
  have e3 : b * (a / b) * e = e * (c / e) * b := by
    rw [h, Int.mul_comm b, Int.mul_assoc, Int.mul_comm e (c / e), Int.mul_assoc, Int.mul_comm b e]
  omega
section NCP
variable {X : aX} {C S d : Nat} {K0 : Option Value → aH → Nat → Nat → Prop} {r1 r2 : Nat}
theorem c_dv {a b : Int64} (ha : 0 ≤ a.toInt) (hb : 1 ≤ b.toInt) : (a / b).toInt = a.toInt / b.toInt := by
  rw [y_div (by omega) hb, Int.tdiv_eq_ediv_of_nonneg ha]
theorem c_rm {a b : Int64} (ha : 0 ≤ a.toInt) : (a - a / b * b).toInt = a.toInt % b.toInt := by
  rw [s_i64rem, Int.tmod_eq_emod_of_nonneg ha]
theorem c_cmp_step {h : aH} (hr : w_hr z_D h) {a b c e : Int64} {tI iI : Int32} {o12 o14 : Option Value} {i : Nat} (ha : 0 ≤ a.toInt) (hb : 1 ≤ b.toInt) (hc : 0 ≤ c.toInt) (he : 1 ≤ e.toInt) (ht : tI.toInt = 1 ∨ tI.toInt = -1) (hi : iI.toInt = i) (i2 : i < 200) (fin : ∀ (H : aH) (r : Int32), y_fr h H [] [] → r.toInt = tI.toInt * c_sg (a.toInt * e.toInt - c.toInt * b.toInt) → K0 (some (.int r)) H C S) (nx : ∀ (H : aH) (x y : Int64) (tJ kI : Int32) (o12 o14 : Option Value), y_fr h H [] [] → x.toInt = a.toInt % b.toInt → y.toInt = c.toInt % e.toInt → 1 ≤ x.toInt → 1 ≤ y.toInt → a.toInt / b.toInt = c.toInt / e.toInt → tJ.toInt = -tI.toInt → kI.toInt = ((i + 1 : Nat) : Int) → aOK s_P X d a_m53 29 [some (.ref r1), some (.ref r2), some (.long b), none, some (.long x), none, some (.long e), none, some (.long y), none, some (.int tJ), some (.int kI), o12, none, o14, none] [] H C S K0) : aOK s_P X d a_m53 29 [some (.ref r1), some (.ref r2), some (.long a), none, some (.long b), none, some (.long c), none, some (.long e), none, some (.int tI), some (.int iI), o12, none, o14, none] [] h C S K0 := by
  have ink : (iI + Int32.ofInt 1).toInt = ((i + 1 : Nat) : Int) := by rw [y_inc (by omega), hi]; rfl
  have ng : (-tI).toInt = -tI.toInt := by
    rw [Int32.toInt_neg]
    exact Int.bmod_eq_of_le (by omega) (by omega)
  have b0 : b ≠ 0 := fun q => by rw [q] at hb; exact absurd hb (by decide)
  have e0 : e ≠ 0 := fun q => by rw [q] at he; exact absurd he (by decide)
  have z0 : (Int64.ofNat 0).toInt = 0 := by decide
  have d1 := c_dv ha hb
  have d2 := c_dv hc he
  have m1 := c_rm (b := b) ha
  have m2 := c_rm (b := e) hc
  have p1 := Int.emod_nonneg a.toInt (show b.toInt ≠ 0 by omega)
  have p2 := Int.emod_nonneg c.toInt (show e.toInt ≠ 0 by omega)
  have T113 : ∀ {G : aH} {x y : Int64}, y_fr h G [] [] → x.toInt = a.toInt % b.toInt → y.toInt = c.toInt % e.toInt → a.toInt / b.toInt = c.toInt / e.toInt → (x.toInt = 0 ∨ y.toInt = 0) → aOK s_P X d a_m53 113 [some (.ref r1), some (.ref r2), some (.long a), none, some (.long b), none, some (.long c), none, some (.long e), none, some (.int tI), some (.int iI), some (.long x), none, some (.long y), none] [] G C S K0 := by
    intro G x y f hx hy eq zz
    have fe := c_fe eq
    rw [← hx, ← hy] at fe
    refine w_go z_hl [] [] 40 f.1 ?_
    refine ⟨fun q => ⟨fun q2 => fun H hH => ?_, fun q2 => fun H hH => ?_⟩, fun q => fun H hH => ?_⟩
    · have y1 : x.toInt ≠ y.toInt := (y_cl .ne _ _).mp q
      have y2 : y.toInt ≠ (Int64.ofNat 0).toInt := (y_cl .ne _ _).mp q2
      rw [z0] at y2
      have x0 : x.toInt = 0 := zz.resolve_right y2
      refine fin H _ (y_st f hH (by repeat (first | exact w_nil | refine w_cons (Or.inl (y_m rfl)) ?_ | refine w_cons (Or.inr (by assumption)) ?_)) (by repeat (first | exact w_nil | refine w_cons (Or.inl (y_m rfl)) ?_ | refine w_cons (Or.inr (by assumption)) ?_))) ?_
      have pp : 0 < y.toInt * b.toInt := Int.mul_pos (by omega) (by omega)
      rw [x0, Int.zero_mul] at fe
      rw [ng, c_sg_m (by omega)]
      omega
    · have y1 : x.toInt ≠ y.toInt := (y_cl .ne _ _).mp q
      have y2 : ¬ (y.toInt ≠ (Int64.ofNat 0).toInt) := y_clf q2
      rw [z0] at y2
      have y3 : y.toInt = 0 := Decidable.not_not.mp y2
      refine fin H _ (y_st f hH (by repeat (first | exact w_nil | refine w_cons (Or.inl (y_m rfl)) ?_ | refine w_cons (Or.inr (by assumption)) ?_)) (by repeat (first | exact w_nil | refine w_cons (Or.inl (y_m rfl)) ?_ | refine w_cons (Or.inr (by assumption)) ?_))) ?_
      have pp : 0 < x.toInt * e.toInt := Int.mul_pos (by omega) (by omega)
      rw [y3, Int.zero_mul] at fe
      rw [c_sg_p (by omega)]
      omega
    · have y1 : ¬ (x.toInt ≠ y.toInt) := y_clf q
      have y2 : x.toInt = y.toInt := Decidable.not_not.mp y1
      have x0 : x.toInt = 0 := by omega
      have y0 : y.toInt = 0 := by omega
      refine fin H _ (y_st f hH (by repeat (first | exact w_nil | refine w_cons (Or.inl (y_m rfl)) ?_ | refine w_cons (Or.inr (by assumption)) ?_)) (by repeat (first | exact w_nil | refine w_cons (Or.inl (y_m rfl)) ?_ | refine w_cons (Or.inr (by assumption)) ?_))) ?_
      rw [x0, y0, Int.zero_mul, Int.zero_mul] at fe
      rw [fe, show c_sg (0 - 0) = 0 from rfl, Int.mul_zero]
      decide
  have T141 : ∀ {G : aH} {x y : Int64}, y_fr h G [] [] → x.toInt = a.toInt % b.toInt → y.toInt = c.toInt % e.toInt → a.toInt / b.toInt = c.toInt / e.toInt → x.toInt ≠ 0 → y.toInt ≠ 0 → aOK s_P X d a_m53 141 [some (.ref r1), some (.ref r2), some (.long a), none, some (.long b), none, some (.long c), none, some (.long e), none, some (.int tI), some (.int iI), some (.long x), none, some (.long y), none] [] G C S K0 := by
    intro G x y f hx hy eq x0 y0
    refine w_go z_hl [29] [] 40 f.1 ?_
    intro H hH
    exact nx H x y _ _ _ _ (y_st f hH (by repeat (first | exact w_nil | refine w_cons (Or.inl (y_m rfl)) ?_ | refine w_cons (Or.inr (by assumption)) ?_)) (by repeat (first | exact w_nil | refine w_cons (Or.inl (y_m rfl)) ?_ | refine w_cons (Or.inr (by assumption)) ?_))) hx hy (by omega) (by omega) eq ng ink
  refine w_go z_hl [29, 113, 141] [] 120 hr ?_
  refine ⟨fun q => ?_, fun _ => ⟨fun q => ?_, fun _ => ⟨fun q => ?_, fun _ => ⟨b0, e0, ⟨fun q => ?_, fun q => ?_⟩⟩⟩⟩⟩
  · have z : ((Int16.ofInt 200).toInt32).toInt ≤ iI.toInt := (y_ci .ge _ _).mp q
    rw [c_200] at z
    omega
  · have z : b.toInt ≤ (Int64.ofNat 0).toInt := (y_cl .le _ _).mp q
    rw [z0] at z
    omega
  · have z : e.toInt ≤ (Int64.ofNat 0).toInt := (y_cl .le _ _).mp q
    rw [z0] at z
    omega
  · have z : (a / b).toInt = (c / e).toInt := (y_cl .eq _ _).mp q
    rw [d1, d2] at z
    refine ⟨b0, e0, ⟨fun q2 => fun H hH => ?_, fun q2 => ⟨fun q3 => fun H hH => ?_, fun q3 => fun H hH => ?_⟩⟩⟩
    · have y1 : (a - a / b * b).toInt = (Int64.ofNat 0).toInt := (y_cl .eq _ _).mp q2
      exact T113 (y_st (y_rf hr) hH (by repeat (first | exact w_nil | refine w_cons (Or.inl (y_m rfl)) ?_ | refine w_cons (Or.inr (by assumption)) ?_)) (by repeat (first | exact w_nil | refine w_cons (Or.inl (y_m rfl)) ?_ | refine w_cons (Or.inr (by assumption)) ?_))) m1 m2 z (Or.inl y1)
    · have y1 : ¬ ((a - a / b * b).toInt = (Int64.ofNat 0).toInt) := y_clf q2
      have y2 : (c - c / e * e).toInt ≠ (Int64.ofNat 0).toInt := (y_cl .ne _ _).mp q3
      exact T141 (y_st (y_rf hr) hH (by repeat (first | exact w_nil | refine w_cons (Or.inl (y_m rfl)) ?_ | refine w_cons (Or.inr (by assumption)) ?_)) (by repeat (first | exact w_nil | refine w_cons (Or.inl (y_m rfl)) ?_ | refine w_cons (Or.inr (by assumption)) ?_))) m1 m2 z y1 y2
    · have y2 : ¬ ((c - c / e * e).toInt ≠ (Int64.ofNat 0).toInt) := y_clf q3
      exact T113 (y_st (y_rf hr) hH (by repeat (first | exact w_nil | refine w_cons (Or.inl (y_m rfl)) ?_ | refine w_cons (Or.inr (by assumption)) ?_)) (by repeat (first | exact w_nil | refine w_cons (Or.inl (y_m rfl)) ?_ | refine w_cons (Or.inr (by assumption)) ?_))) m1 m2 z (Or.inr (Decidable.not_not.mp y2))
  · have z : ¬ ((a / b).toInt = (c / e).toInt) := y_clf q
    rw [d1, d2] at z
    refine ⟨b0, e0, ⟨fun q2 => fun H hH => ?_, fun q2 => fun H hH => ?_⟩⟩
    · have y1 : (a / b).toInt ≤ (c / e).toInt := (y_cl .le _ _).mp q2
      rw [d1, d2] at y1
      have fl := c_fl (a := c.toInt) (b := e.toInt) (c := a.toInt) (e := b.toInt) (by omega) (by omega) (by omega)
      refine fin H _ (y_st (y_rf hr) hH (by repeat (first | exact w_nil | refine w_cons (Or.inl (y_m rfl)) ?_ | refine w_cons (Or.inr (by assumption)) ?_)) (by repeat (first | exact w_nil | refine w_cons (Or.inl (y_m rfl)) ?_ | refine w_cons (Or.inr (by assumption)) ?_))) ?_
      rw [ng, c_sg_m (by omega)]
      omega
    · have y1 : ¬ ((a / b).toInt ≤ (c / e).toInt) := y_clf q2
      rw [d1, d2] at y1
      have fl := c_fl (a := a.toInt) (b := b.toInt) (c := c.toInt) (e := e.toInt) (by omega) (by omega) (by omega)
      refine fin H _ (y_st (y_rf hr) hH (by repeat (first | exact w_nil | refine w_cons (Or.inl (y_m rfl)) ?_ | refine w_cons (Or.inr (by assumption)) ?_)) (by repeat (first | exact w_nil | refine w_cons (Or.inl (y_m rfl)) ?_ | refine w_cons (Or.inr (by assumption)) ?_))) ?_
      rw [c_sg_p (by omega)]
      omega
theorem c_sg_t {a b c e : Int} {u w : Int} (hw : w = -u) (h : a / b = c / e) : w * c_sg (b * (c % e) - e * (a % b)) = u * c_sg (a * e - c * b) := by
  have f := c_fe h
  rw [f, show b * (c % e) - e * (a % b) = -(a % b * e - c % e * b) by rw [Int.mul_comm b, Int.mul_comm e]; omega, c_sg_n, hw, Int.neg_mul_neg]
theorem c_cmp_loop : ∀ (k : Nat) (h : aH) (a b c e : Int64) (tI iI : Int32) (o12 o14 : Option Value) (i : Nat), w_hr z_D h → 0 ≤ a.toInt → 1 ≤ b.toInt → 0 ≤ c.toInt → 1 ≤ e.toInt → b.toInt < ((2 ^ k : Nat) : Int) → (tI.toInt = 1 ∨ tI.toInt = -1) → iI.toInt = i → i + 2 * k + 1 ≤ 200 → (∀ (H : aH) (r : Int32), y_fr h H [] [] → r.toInt = tI.toInt * c_sg (a.toInt * e.toInt - c.toInt * b.toInt) → K0 (some (.int r)) H C S) → aOK s_P X d a_m53 29 [some (.ref r1), some (.ref r2), some (.long a), none, some (.long b), none, some (.long c), none, some (.long e), none, some (.int tI), some (.int iI), o12, none, o14, none] [] h C S K0 := by
  intro k
  induction k with
  | zero =>
    intro h a b c e tI iI o12 o14 i hr ha hb hc he hk
    have hk1 : b.toInt < 1 := hk
    omega
  | succ k ih =>
    intro h a b c e tI iI o12 o14 i hr ha hb hc he hk ht hi ib hK
    have pw : 2 ^ (k + 1) = 2 * 2 ^ k := by rw [Nat.pow_succ]; omega
    refine c_cmp_step hr ha hb hc he ht hi (by omega) hK (fun H x y tJ kI o12 o14 f hx hy x1 y1 eq hJ hk1 => ?_)
    have lt1 := Int.emod_lt_of_pos a.toInt (show 0 < b.toInt by omega)
    refine c_cmp_step f.1 (by omega) x1 (by omega) y1 (by omega) hk1 (by omega) (fun H2 r f2 hr2 => hK H2 r (y_sq f f2 rfl rfl) ?_) (fun H2 x2 y2 tJ2 kI2 o12 o14 f2 hx2 hy2 x12 y12 eq2 hJ2 hk2 => ?_)
    · rw [hr2, hx, hy]
      exact c_sg_t hJ eq
    · have hf := c_half (L := b.toInt.toNat) (r := x.toInt.toNat) (by omega) (by omega)
      have em : (b.toInt.toNat % x.toInt.toNat : Nat) = (b.toInt % x.toInt).toNat := (Int.toNat_emod (by omega) (by omega)).symm
      have en := Int.emod_nonneg b.toInt (show x.toInt ≠ 0 by omega)
      refine ih H2 x x2 y y2 tJ2 kI2 o12 o14 (i + 1 + 1) f2.1 (by omega) x12 (by omega) y12 (by omega) (by omega) hk2 (by omega) (fun H3 r f3 hr3 => hK H3 r (y_sq (y_sq f f2 rfl rfl) f3 rfl rfl) ?_)
      rw [hr3, hx2, hy2, c_sg_t hJ2 eq2, hx, hy]
      exact c_sg_t hJ eq
theorem c_cmp12 {h : aH} (hr : w_hr z_D h) {a b c e : Int64} (ga : w_f h 19328 = some (.long a)) (gb : w_f h 19329 = some (.long b)) (gc : w_f h 19456 = some (.long c)) (ge : w_f h 19457 = some (.long e)) (ha : 0 ≤ a.toInt) (hb : 1 ≤ b.toInt) (hc : 0 ≤ c.toInt) (he : 1 ≤ e.toInt) (hK : ∀ (H : aH) (r : Int32), y_fr h H [] [] → r.toInt = c_sg (a.toInt * e.toInt - c.toInt * b.toInt) → K0 (some (.int r)) H C S) : aOK s_P X d a_m53 0 [some (.ref 153), some (.ref 154), none, none, none, none, none, none, none, none, none, none, none, none, none, none] [] h C S K0 := by
  have b2 := b.toInt_lt
  refine w_go z_hl [29] [] 60 hr ?_
  intro x hx _ _
  obtain rfl := y_fl ga hx
  intro x hx _ _
  obtain rfl := y_fl gb hx
  intro x hx _ _
  obtain rfl := y_fl gc hx
  intro x hx _ _
  obtain rfl := y_fl ge hx
  intro H hH
  have f : y_fr h H [] [] := y_st (y_rf hr) hH (by repeat (first | exact w_nil | refine w_cons (Or.inl (y_m rfl)) ?_ | refine w_cons (Or.inr (by assumption)) ?_)) (by repeat (first | exact w_nil | refine w_cons (Or.inl (y_m rfl)) ?_ | refine w_cons (Or.inr (by assumption)) ?_))
  refine c_cmp_loop 63 H a b c e _ _ _ _ 0 f.1 ha hb hc he (by show b.toInt < 9223372036854775808; omega) (Or.inl (by decide)) (by decide) (by decide) (fun H2 r f2 hr2 => hK H2 r (y_sq f f2 rfl rfl) ?_)
  rw [hr2, show (Int32.ofInt 1).toInt = 1 by decide, Int.one_mul]
end NCP
end PT33hk
section PT33hl
/-! ===== v11: products of fractions, exactly (laid by wip/tools/mk11i.py) ===== -/
abbrev c_tg (a b : Nat) : Prop := 0 < b ∧ 1000000000000000000 / b < a
def c_tmv (u l p q : Nat) : Option (Nat × Nat) := if c_tg (u / Nat.gcd u q) (p / Nat.gcd p l) ∨ c_tg (l / Nat.gcd p l) (q / Nat.gcd u q) then none else some (u / Nat.gcd u q * (p / Nat.gcd p l), l / Nat.gcd p l * (q / Nat.gcd u q))
theorem c_tg_n {a b : Nat} (h : ¬ c_tg a b) : a * b ≤ 1000000000000000000 := by
  by_cases z : 0 < b
  · have : a ≤ 1000000000000000000 / b := by
      by_cases y : 1000000000000000000 / b < a
      · exact absurd ⟨z, y⟩ h
      · omega
    exact (Nat.le_div_iff_mul_le z).mp this
  · rw [show b = 0 by omega, Nat.mul_zero]
    decide
theorem c_tmv_s {u l p q x y : Nat} (h : c_tmv u l p q = some (x, y)) : x = u / Nat.gcd u q * (p / Nat.gcd p l) ∧ y = l / Nat.gcd p l * (q / Nat.gcd u q) ∧ x ≤ 1000000000000000000 ∧ y ≤ 1000000000000000000 ∧ ¬ c_tg (u / Nat.gcd u q) (p / Nat.gcd p l) ∧ ¬ c_tg (l / Nat.gcd p l) (q / Nat.gcd u q) := by
  unfold c_tmv at h
  by_cases z : c_tg (u / Nat.gcd u q) (p / Nat.gcd p l) ∨ c_tg (l / Nat.gcd p l) (q / Nat.gcd u q)
  · rw [if_pos z] at h
    cases h
  · rw [if_neg z] at h
    injection h with h
    injection h with h1 h2
    have z1 : ¬ c_tg (u / Nat.gcd u q) (p / Nat.gcd p l) := fun w => z (Or.inl w)
    have z2 : ¬ c_tg (l / Nat.gcd p l) (q / Nat.gcd u q) := fun w => z (Or.inr w)
    exact ⟨h1.symm, h2.symm, by rw [← h1]; exact c_tg_n z1, by rw [← h2]; exact c_tg_n z2, z1, z2⟩
theorem c_tmv_n {u l p q : Nat} (h : c_tmv u l p q = none) : c_tg (u / Nat.gcd u q) (p / Nat.gcd p l) ∨ c_tg (l / Nat.gcd p l) (q / Nat.gcd u q) := by
  unfold c_tmv at h
  by_cases z : c_tg (u / Nat.gcd u q) (p / Nat.gcd p l) ∨ c_tg (l / Nat.gcd p l) (q / Nat.gcd u q)
  · exact z
  · rw [if_neg z] at h
    cases h
theorem c_tmv_c {u l p q x y : Nat} (hl : 1 ≤ l) (hq : 1 ≤ q) (h1 : Nat.Coprime u l) (h2 : Nat.Coprime p q) (h : c_tmv u l p q = some (x, y)) : Nat.Coprime x y := by
  obtain ⟨ex, ey, -⟩ := c_tmv_s h
  have gq : 0 < Nat.gcd u q := Nat.gcd_pos_of_pos_right _ (by omega)
  have gl : 0 < Nat.gcd p l := Nat.gcd_pos_of_pos_right _ (by omega)
  have c1 : Nat.Coprime (u / Nat.gcd u q) (q / Nat.gcd u q) := Nat.coprime_div_gcd_div_gcd gq
  have c2 : Nat.Coprime (p / Nat.gcd p l) (l / Nat.gcd p l) := Nat.coprime_div_gcd_div_gcd gl
  have c3 : Nat.Coprime (u / Nat.gcd u q) (l / Nat.gcd p l) := (h1.coprime_div_left (Nat.gcd_dvd_left _ _)).coprime_div_right (Nat.gcd_dvd_right _ _)
  have c4 : Nat.Coprime (p / Nat.gcd p l) (q / Nat.gcd u q) := (h2.coprime_div_left (Nat.gcd_dvd_left _ _)).coprime_div_right (Nat.gcd_dvd_right _ _)
  rw [ex, ey]
  exact Nat.Coprime.mul_left (Nat.Coprime.mul_right c3 c1) (Nat.Coprime.mul_right c2 c4)
theorem c_tmv_1 {u l p q x y : Nat} (hl : 1 ≤ l) (hq : 1 ≤ q) (h : c_tmv u l p q = some (x, y)) : 1 ≤ y := by
  obtain ⟨-, ey, -⟩ := c_tmv_s h
  have d1 : 0 < l / Nat.gcd p l := Nat.div_pos (Nat.gcd_le_right _ (by omega)) (Nat.gcd_pos_of_pos_right _ (by omega))
  have d2 : 0 < q / Nat.gcd u q := Nat.div_pos (Nat.gcd_le_right _ (by omega)) (Nat.gcd_pos_of_pos_right _ (by omega))
  rw [ey]
  exact Nat.mul_pos d1 d2
theorem c_lowc {n m : Nat} (hm : 1 ≤ m) : Nat.Coprime (n / Nat.gcd n m) (m / Nat.gcd n m) := Nat.coprime_div_gcd_div_gcd (Nat.gcd_pos_of_pos_right _ (by omega))
section NTM
variable {X : aX} {C S d : Nat} {K0 : Option Value → aH → Nat → Nat → Prop}
theorem c_dvN {a b : Int64} {A B : Nat} (ha : a.toInt = A) (hb : b.toInt = B) (b1 : 1 ≤ B) : (a / b).toInt = ((A / B : Nat) : Int) := by
  rw [c_dv (by omega) (by omega), ha, hb]
  rfl
theorem c_18 : (Int64.ofInt 1000000000000000000).toInt = ((1000000000000000000 : Nat) : Int) := y_i64 (by decide) (by decide)
theorem c_tooG {h : aH} (hr : w_hr z_D h) {a b : Int64} {A B : Nat} (ha : a.toInt = A) (hb : b.toInt = B) (yes : c_tg A B → ∀ H, y_fr h H [] [] → K0 (some (.int (Int32.ofInt 1))) H C S) (no : ¬ c_tg A B → ∀ H, y_fr h H [] [] → K0 (some (.int (Int32.ofInt 0))) H C S) : aOK s_P X d a_m70 0 [some (.long a), none, some (.long b), none] [] h C S K0 := by
  have z0 : (Int64.ofNat 0).toInt = 0 := by decide
  refine w_go z_hl [] [] 40 hr ?_
  refine ⟨fun q => ⟨by decide, fun H hH => ?_⟩, fun q => ?_⟩
  · have z : b.toInt ≤ (Int64.ofNat 0).toInt := (y_cl .le _ _).mp q
    rw [z0] at z
    exact no (fun w => by have := w.1; omega) H (y_st (y_rf hr) hH (by repeat (first | exact w_nil | refine w_cons (Or.inl (y_m rfl)) ?_ | refine w_cons (Or.inr (by assumption)) ?_)) (by repeat (first | exact w_nil | refine w_cons (Or.inl (y_m rfl)) ?_ | refine w_cons (Or.inr (by assumption)) ?_)))
  · have z : ¬ (b.toInt ≤ (Int64.ofNat 0).toInt) := y_clf q
    rw [z0] at z
    have b0 : b ≠ 0 := fun e => z (by rw [e]; decide)
    have dv := c_dvN c_18 hb (by omega)
    refine ⟨b0, fun q2 => ⟨by decide, fun H hH => ?_⟩, fun q2 => ⟨by decide, fun H hH => ?_⟩⟩
    · have y : a.toInt ≤ (Int64.ofInt 1000000000000000000 / b).toInt := (y_cl .le _ _).mp q2
      rw [dv] at y
      exact no (fun w => by have := w.2; omega) H (y_st (y_rf hr) hH (by repeat (first | exact w_nil | refine w_cons (Or.inl (y_m rfl)) ?_ | refine w_cons (Or.inr (by assumption)) ?_)) (by repeat (first | exact w_nil | refine w_cons (Or.inl (y_m rfl)) ?_ | refine w_cons (Or.inr (by assumption)) ?_)))
    · have y : ¬ (a.toInt ≤ (Int64.ofInt 1000000000000000000 / b).toInt) := y_clf q2
      rw [dv] at y
      exact yes ⟨by omega, by omega⟩ H (y_st (y_rf hr) hH (by repeat (first | exact w_nil | refine w_cons (Or.inl (y_m rfl)) ?_ | refine w_cons (Or.inr (by assumption)) ?_)) (by repeat (first | exact w_nil | refine w_cons (Or.inl (y_m rfl)) ?_ | refine w_cons (Or.inr (by assumption)) ?_)))
theorem f_passes {h : aH} (hr : w_hr z_D h) {a b : Int64} {A B : Nat} (ha : a.toInt = A) (hb : b.toInt = B) (yes : c_tg A B → ∀ H, y_fr h H [] [] → K0 (some (.int (Int32.ofInt 1))) H C S) (no : ¬ c_tg A B → ∀ H, y_fr h H [] [] → K0 (some (.int (Int32.ofInt 0))) H C S) : aOK s_P X d a_m216 0 [some (.long a), none, some (.long b), none] [] h C S K0 := by
  have z0 : (Int64.ofNat 0).toInt = 0 := by decide
  refine w_go z_hl [] [] 40 hr ?_
  refine ⟨fun q => ⟨by decide, fun H hH => ?_⟩, fun q => ?_⟩
  · have z : b.toInt = (Int64.ofNat 0).toInt := (y_cl .eq _ _).mp q
    rw [z0] at z
    exact no (fun w => by have := w.1; omega) H (y_st (y_rf hr) hH (by repeat (first | exact w_nil | refine w_cons (Or.inl (y_m rfl)) ?_ | refine w_cons (Or.inr (by assumption)) ?_)) (by repeat (first | exact w_nil | refine w_cons (Or.inl (y_m rfl)) ?_ | refine w_cons (Or.inr (by assumption)) ?_)))
  · have z : ¬ (b.toInt = (Int64.ofNat 0).toInt) := y_clf q
    rw [z0] at z
    have b0 : b ≠ 0 := fun e => z (by rw [e]; decide)
    have dv := c_dvN c_18 hb (by omega)
    refine ⟨b0, fun q2 => ⟨by decide, fun H hH => ?_⟩, fun q2 => ⟨by decide, fun H hH => ?_⟩⟩
    · have y : a.toInt ≤ (Int64.ofInt 1000000000000000000 / b).toInt := (y_cl .le _ _).mp q2
      rw [dv] at y
      exact no (fun w => by have := w.2; omega) H (y_st (y_rf hr) hH (by repeat (first | exact w_nil | refine w_cons (Or.inl (y_m rfl)) ?_ | refine w_cons (Or.inr (by assumption)) ?_)) (by repeat (first | exact w_nil | refine w_cons (Or.inl (y_m rfl)) ?_ | refine w_cons (Or.inr (by assumption)) ?_)))
    · have y : ¬ (a.toInt ≤ (Int64.ofInt 1000000000000000000 / b).toInt) := y_clf q2
      rw [dv] at y
      exact yes ⟨by omega, by omega⟩ H (y_st (y_rf hr) hH (by repeat (first | exact w_nil | refine w_cons (Or.inl (y_m rfl)) ?_ | refine w_cons (Or.inr (by assumption)) ?_)) (by repeat (first | exact w_nil | refine w_cons (Or.inl (y_m rfl)) ?_ | refine w_cons (Or.inr (by assumption)) ?_)))
theorem c_times153 {h : aH} (hr : w_hr z_D h) {uI lI pI qI : Int64} {u l p q : Nat} (gu : w_f h 19328 = some (.long uI)) (gl : w_f h 19329 = some (.long lI)) (hu : uI.toInt = u) (hl : lI.toInt = l) (hp : pI.toInt = p) (hq : qI.toInt = q) (l1 : 1 ≤ l) (q1 : 1 ≤ q) (yes : ∀ (x y : Nat) (H : aH) (uJ lJ : Int64), c_tmv u l p q = some (x, y) → y_fr h H [19328, 19329] [] → w_f H 19328 = some (.long uJ) → uJ.toInt = x → w_f H 19329 = some (.long lJ) → lJ.toInt = y → K0 (some (.int (Int32.ofInt 1))) H C S) (no : c_tmv u l p q = none → ∀ H, y_fr h H [] [] → K0 (some (.int (Int32.ofInt 0))) H C S) : aOK s_P X (d + 1) a_m69 0 [some (.ref 153), some (.long pI), none, some (.long qI), none, none, none, none, none] [] h C S K0 := by
  have gq : 1 ≤ Nat.gcd u q := Nat.gcd_pos_of_pos_right _ (by omega)
  have gp : 1 ≤ Nat.gcd p l := Nat.gcd_pos_of_pos_right _ (by omega)
  have T72 : ∀ {G : aH} {c e : Int64}, y_fr h G [] [] → c.toInt = (Nat.gcd u q : Nat) → e.toInt = (Nat.gcd p l : Nat) → ¬ c_tg (u / Nat.gcd u q) (p / Nat.gcd p l) → ¬ c_tg (l / Nat.gcd p l) (q / Nat.gcd u q) → aOK s_P X (d + 1) a_m69 72 [some (.ref 153), some (.long pI), none, some (.long qI), none, some (.long c), none, some (.long e), none] [] G C S K0 := by
    intro G c e f hc he z1 z2
    have c0 : c ≠ 0 := fun k => by rw [k] at hc; have : (0 : Int64).toInt = 0 := rfl; omega
    have e0 : e ≠ 0 := fun k => by rw [k] at he; have : (0 : Int64).toInt = 0 := rfl; omega
    have n1 := c_tg_n z1
    have n2 := c_tg_n z2
    have d1 := c_dvN hu hc gq
    have d2 := c_dvN hp he gp
    have d3 := c_dvN hl he gp
    have d4 := c_dvN hq hc gq
    have m1 : (uI / c * (pI / e)).toInt = ((u / Nat.gcd u q * (p / Nat.gcd p l) : Nat) : Int) := by
      have : (uI / c).toInt * (pI / e).toInt = ((u / Nat.gcd u q * (p / Nat.gcd p l) : Nat) : Int) := by rw [d1, d2, Int.natCast_mul]
      rw [y_mul (by omega) (by omega), this]
    have m2 : (lI / e * (qI / c)).toInt = ((l / Nat.gcd p l * (q / Nat.gcd u q) : Nat) : Int) := by
      have : (lI / e).toInt * (qI / c).toInt = ((l / Nat.gcd p l * (q / Nat.gcd u q) : Nat) : Int) := by rw [d3, d4, Int.natCast_mul]
      rw [y_mul (by omega) (by omega), this]
    refine w_go z_hl [] [] 60 f.1 ?_
    intro x hx _ _
    obtain rfl := y_fl ((y_fe f rfl).trans gu) hx
    refine ⟨c0, e0, rfl, y_zin (y_l64 _).1 (y_l64 _).2, ?_⟩
    intro y hy _ _
    obtain rfl := y_fl ((y_fe f rfl).trans gl) hy
    refine ⟨e0, c0, rfl, y_zin (y_l64 _).1 (y_l64 _).2, ⟨by decide, fun H hH => ?_⟩⟩
    refine yes _ _ H _ _ ?_ (y_st (y_mo f rfl rfl) hH (by repeat (first | exact w_nil | refine w_cons (Or.inl (y_m rfl)) ?_ | refine w_cons (Or.inr (by assumption)) ?_)) (by repeat (first | exact w_nil | refine w_cons (Or.inl (y_m rfl)) ?_ | refine w_cons (Or.inr (by assumption)) ?_))) (hH.2.1 19328 _ rfl) m1 (hH.2.1 19329 _ rfl) m2
    unfold c_tmv
    rw [if_neg (fun w => w.elim z1 z2)]
  have out : ∀ {G : aH}, y_fr h G [] [] → (c_tg (u / Nat.gcd u q) (p / Nat.gcd p l) ∨ c_tg (l / Nat.gcd p l) (q / Nat.gcd u q)) → K0 (some (.int (Int32.ofInt 0))) G C S := fun f z => no (by unfold c_tmv; rw [if_pos z]) _ f
  have T67 : ∀ {G : aH} {c e : Int64}, y_fr h G [] [] → c.toInt = (Nat.gcd u q : Nat) → e.toInt = (Nat.gcd p l : Nat) → ¬ c_tg (u / Nat.gcd u q) (p / Nat.gcd p l) → ¬ c_tg (l / Nat.gcd p l) (q / Nat.gcd u q) → aOK s_P X (d + 1) a_m69 67 [some (.ref 153), some (.long pI), none, some (.long qI), none, some (.long c), none, some (.long e), none] [.int (Int32.ofInt 0)] G C S K0 := by
    intro G c e f hc he z1 z2
    refine w_go z_hl [72] [] 20 f.1 ?_
    exact ⟨fun _ => fun H hH => T72 (y_st f hH (by repeat (first | exact w_nil | refine w_cons (Or.inl (y_m rfl)) ?_ | refine w_cons (Or.inr (by assumption)) ?_)) (by repeat (first | exact w_nil | refine w_cons (Or.inl (y_m rfl)) ?_ | refine w_cons (Or.inr (by assumption)) ?_))) hc he z1 z2, fun k => absurd k (by decide)⟩
  have T67n : ∀ {G : aH} {c e : Int64}, y_fr h G [] [] → c_tg (l / Nat.gcd p l) (q / Nat.gcd u q) → aOK s_P X (d + 1) a_m69 67 [some (.ref 153), some (.long pI), none, some (.long qI), none, some (.long c), none, some (.long e), none] [.int (Int32.ofInt 1)] G C S K0 := by
    intro G c e f z2
    refine w_go z_hl [72] [] 20 f.1 ?_
    exact ⟨fun k => absurd k (by decide), fun _ => ⟨by decide, fun H hH => out (y_st f hH (by repeat (first | exact w_nil | refine w_cons (Or.inl (y_m rfl)) ?_ | refine w_cons (Or.inr (by assumption)) ?_)) (by repeat (first | exact w_nil | refine w_cons (Or.inl (y_m rfl)) ?_ | refine w_cons (Or.inr (by assumption)) ?_))) (Or.inr z2)⟩⟩
  have T50 : ∀ {G : aH} {c e : Int64}, y_fr h G [] [] → c.toInt = (Nat.gcd u q : Nat) → e.toInt = (Nat.gcd p l : Nat) → ¬ c_tg (u / Nat.gcd u q) (p / Nat.gcd p l) → aOK s_P X (d + 1) a_m69 50 [some (.ref 153), some (.long pI), none, some (.long qI), none, some (.long c), none, some (.long e), none] [.int (Int32.ofInt 0)] G C S K0 := by
    intro G c e f hc he z1
    have c0 : c ≠ 0 := fun k => by rw [k] at hc; have : (0 : Int64).toInt = 0 := rfl; omega
    have e0 : e ≠ 0 := fun k => by rw [k] at he; have : (0 : Int64).toInt = 0 := rfl; omega
    refine w_go z_hl [] [70] 40 f.1 ?_
    refine ⟨fun k => absurd k (by decide), fun _ => ?_⟩
    intro y hy _ _
    obtain rfl := y_fl ((y_fe f rfl).trans gl) hy
    refine ⟨e0, c0, fun H hH => ?_⟩
    have f2 : y_fr h H [] [] := y_st f hH (by repeat (first | exact w_nil | refine w_cons (Or.inl (y_m rfl)) ?_ | refine w_cons (Or.inr (by assumption)) ?_)) (by repeat (first | exact w_nil | refine w_cons (Or.inl (y_m rfl)) ?_ | refine w_cons (Or.inr (by assumption)) ?_))
    refine c_tooG f2.1 (c_dvN hl he gp) (c_dvN hq hc gq) (fun z2 H3 f3 => ⟨fun n e => (by cases e), ?_⟩) (fun z2 H3 f3 => ⟨fun n e => (by cases e), ?_⟩)
    · exact T67n (y_sq f2 f3 rfl rfl) z2
    · exact T67 (y_sq f2 f3 rfl rfl) hc he z1 z2
  have T50n : ∀ {G : aH} {c e : Int64}, y_fr h G [] [] → c_tg (u / Nat.gcd u q) (p / Nat.gcd p l) → aOK s_P X (d + 1) a_m69 50 [some (.ref 153), some (.long pI), none, some (.long qI), none, some (.long c), none, some (.long e), none] [.int (Int32.ofInt 1)] G C S K0 := by
    intro G c e f z1
    refine w_go z_hl [] [70] 40 f.1 ?_
    exact ⟨fun _ => ⟨by decide, fun H hH => out (y_st f hH (by repeat (first | exact w_nil | refine w_cons (Or.inl (y_m rfl)) ?_ | refine w_cons (Or.inr (by assumption)) ?_)) (by repeat (first | exact w_nil | refine w_cons (Or.inl (y_m rfl)) ?_ | refine w_cons (Or.inr (by assumption)) ?_))) (Or.inl z1)⟩, fun k => absurd k (by decide)⟩
  have T18 : ∀ {G : aH} {c e : Int64}, y_fr h G [] [] → c.toInt = (Nat.gcd u q : Nat) → e.toInt = (Nat.gcd p l : Nat) → aOK s_P X (d + 1) a_m69 18 [some (.ref 153), some (.long pI), none, some (.long qI), none, some (.long c), none, none, none] [.long e] G C S K0 := by
    intro G c e f hc he
    have c0 : c ≠ 0 := fun k => by rw [k] at hc; have : (0 : Int64).toInt = 0 := rfl; omega
    have e0 : e ≠ 0 := fun k => by rw [k] at he; have : (0 : Int64).toInt = 0 := rfl; omega
    have z1 : (Int64.ofNat 1).toInt = 1 := by decide
    refine w_go z_hl [] [70] 60 f.1 ?_
    refine ⟨fun k => ?_, fun _ => ⟨fun _ => ?_, fun k => ?_⟩⟩
    · have y : c.toInt < (Int64.ofNat 1).toInt := (y_cl .lt _ _).mp k
      omega
    · intro x hx _ _
      obtain rfl := y_fl ((y_fe f rfl).trans gu) hx
      refine ⟨c0, e0, fun H hH => ?_⟩
      have f2 : y_fr h H [] [] := y_st f hH (by repeat (first | exact w_nil | refine w_cons (Or.inl (y_m rfl)) ?_ | refine w_cons (Or.inr (by assumption)) ?_)) (by repeat (first | exact w_nil | refine w_cons (Or.inl (y_m rfl)) ?_ | refine w_cons (Or.inr (by assumption)) ?_))
      refine c_tooG f2.1 (c_dvN hu hc gq) (c_dvN hp he gp) (fun z2 H3 f3 => ⟨fun n e => (by cases e), ?_⟩) (fun z2 H3 f3 => ⟨fun n e => (by cases e), ?_⟩)
      · exact T50n (y_sq f2 f3 rfl rfl) z2
      · exact T50 (y_sq f2 f3 rfl rfl) hc he z2
    · have y : ¬ ((Int64.ofNat 1).toInt ≤ e.toInt) := y_clf k
      omega
  have T8 : ∀ {G : aH} {c : Int64}, y_fr h G [] [] → c.toInt = (Nat.gcd u q : Nat) → aOK s_P X (d + 1) a_m69 8 [some (.ref 153), some (.long pI), none, some (.long qI), none, none, none, none, none] [.long c] G C S K0 := by
    intro G c f hc
    refine w_go z_hl [] [41] 40 f.1 ?_
    intro y hy _ _
    obtain rfl := y_fl ((y_fe f rfl).trans gl) hy
    intro H hH
    have f2 : y_fr h H [] [] := y_st f hH (by repeat (first | exact w_nil | refine w_cons (Or.inl (y_m rfl)) ?_ | refine w_cons (Or.inr (by assumption)) ?_)) (by repeat (first | exact w_nil | refine w_cons (Or.inl (y_m rfl)) ?_ | refine w_cons (Or.inr (by assumption)) ?_))
    refine c_cd f2.1 (by omega) (by omega) (fun H3 g f3 hg => ⟨fun n e => (by cases e), ?_⟩)
    exact T18 (y_sq f2 f3 rfl rfl) hc (by rw [hg, hp, hl]; rfl)
  refine w_go z_hl [] [41] 40 hr ?_
  intro x hx _ _
  obtain rfl := y_fl gu hx
  intro H hH
  have f2 : y_fr h H [] [] := y_st (y_rf hr) hH (by repeat (first | exact w_nil | refine w_cons (Or.inl (y_m rfl)) ?_ | refine w_cons (Or.inr (by assumption)) ?_)) (by repeat (first | exact w_nil | refine w_cons (Or.inl (y_m rfl)) ?_ | refine w_cons (Or.inr (by assumption)) ?_))
  refine c_cd f2.1 (by omega) (by omega) (fun H3 g f3 hg => ⟨fun n e => (by cases e), ?_⟩)
  exact T8 (y_sq f2 f3 rfl rfl) (by rw [hg, hu, hq]; rfl)
/-- the reference's product -/
theorem f_times {h : aH} (hr : w_hr z_D h) {n m uI lI : Int64} {u l p q : Nat} (gu : w_f h 19587 = some (.long uI)) (gl : w_f h 19588 = some (.long lI)) (hu : uI.toInt = u) (hl : lI.toInt = l) (hp : n.toInt = p) (hq : m.toInt = q) (l1 : 1 ≤ l) (q1 : 1 ≤ q) (yes : ∀ (x y : Nat) (H : aH) (uJ lJ : Int64), c_tmv u l p q = some (x, y) → y_fr h H [19587, 19588] [] → w_f H 19587 = some (.long uJ) → uJ.toInt = ((x / Nat.gcd x y : Nat) : Int) → w_f H 19588 = some (.long lJ) → lJ.toInt = ((y / Nat.gcd x y : Nat) : Int) → K0 none H C S) (no : c_tmv u l p q = none → ∀ H, y_fr h H [19587, 19588, 19589] [] → w_f H 19587 = some (.long (Int64.ofNat 0)) → w_f H 19588 = some (.long (Int64.ofNat 1)) → w_f H 19589 = some (.int (Int32.ofInt 1)) → K0 none H C S) : aOK s_P X (d + 2) a_m215 0 [some (.ref 155), some (.long n), none, some (.long m), none, none, none, none, none, none, none, none, none, none, none, none, none] [] h C S K0 := by
  have gq : 1 ≤ Nat.gcd u q := Nat.gcd_pos_of_pos_right _ (by omega)
  have gp : 1 ≤ Nat.gcd p l := Nat.gcd_pos_of_pos_right _ (by omega)
  have great : ∀ {G H : aH}, y_fr h G [] [] → (c_tg (u / Nat.gcd u q) (p / Nat.gcd p l) ∨ c_tg (l / Nat.gcd p l) (q / Nat.gcd u q)) → w_rel z_D G [(19588, .long (Int64.ofNat 1)), (19587, .long (Int64.ofNat 0)), (19589, .int (Int32.ofInt 1))] [] H → K0 none H C S := fun f z hH => no (by unfold c_tmv; rw [if_pos z]) _ (y_st (y_mo f rfl rfl) hH (by repeat (first | exact w_nil | refine w_cons (Or.inl (y_m rfl)) ?_ | refine w_cons (Or.inr (by assumption)) ?_)) (by repeat (first | exact w_nil | refine w_cons (Or.inl (y_m rfl)) ?_ | refine w_cons (Or.inr (by assumption)) ?_))) (hH.2.1 19587 _ rfl) (hH.2.1 19588 _ rfl) (hH.2.1 19589 _ rfl)
  have T100 : ∀ {G : aH} {uJ lJ : Int64} {x y : Nat} {o5 o7 o9 o11 o13 o15 : Option Value}, c_tmv u l p q = some (x, y) → y_fr h G [19587, 19588] [] → w_f G 19587 = some (.long uJ) → uJ.toInt = ((x / Nat.gcd x y : Nat) : Int) → w_f G 19588 = some (.long lJ) → lJ.toInt = ((y / Nat.gcd x y : Nat) : Int) → aOK s_P X (d + 2) a_m215 100 [some (.ref 155), some (.long n), none, some (.long m), none, o5, none, o7, none, o9, none, o11, none, o13, none, o15, none] [] G C S K0 := by
    intro G uJ lJ x y o5 o7 o9 o11 o13 o15 hxy f x1 x2 x3 x4
    refine w_go z_hl [] [] 10 f.1 ?_
    intro H hH
    have f1 : y_fr G H [] [] := y_st (y_rf f.1) hH (by repeat (first | exact w_nil | refine w_cons (Or.inl (y_m rfl)) ?_ | refine w_cons (Or.inr (by assumption)) ?_)) (by repeat (first | exact w_nil | refine w_cons (Or.inl (y_m rfl)) ?_ | refine w_cons (Or.inr (by assumption)) ?_))
    exact yes x y H uJ lJ hxy (y_sq f f1 rfl rfl) ((y_fe f1 rfl).trans x1) x2 ((y_fe f1 rfl).trans x3) x4
  have T86 : ∀ {G : aH} {c e : Int64}, y_fr h G [] [] → c.toInt = (Nat.gcd u q : Nat) → e.toInt = (Nat.gcd p l : Nat) → ¬ c_tg (u / Nat.gcd u q) (p / Nat.gcd p l) → ¬ c_tg (l / Nat.gcd p l) (q / Nat.gcd u q) → aOK s_P X (d + 2) a_m215 86 [some (.ref 155), some (.long n), none, some (.long m), none, some (.long c), none, some (.long e), none, some (.long (uI / c)), none, some (.long (n / e)), none, some (.long (lI / e)), none, some (.long (m / c)), none] [] G C S K0 := by
    intro G c e f hc he z1 z2
    have n1 := c_tg_n z1
    have n2 := c_tg_n z2
    have d1 := c_dvN hu hc gq
    have d2 := c_dvN hp he gp
    have d3 := c_dvN hl he gp
    have d4 := c_dvN hq hc gq
    have m1 : (uI / c * (n / e)).toInt = ((u / Nat.gcd u q * (p / Nat.gcd p l) : Nat) : Int) := by
      have : (uI / c).toInt * (n / e).toInt = ((u / Nat.gcd u q * (p / Nat.gcd p l) : Nat) : Int) := by rw [d1, d2, Int.natCast_mul]
      rw [y_mul (by omega) (by omega), this]
    have m2 : (lI / e * (m / c)).toInt = ((l / Nat.gcd p l * (q / Nat.gcd u q) : Nat) : Int) := by
      have : (lI / e).toInt * (m / c).toInt = ((l / Nat.gcd p l * (q / Nat.gcd u q) : Nat) : Int) := by rw [d3, d4, Int.natCast_mul]
      rw [y_mul (by omega) (by omega), this]
    have p1 : 0 < l / Nat.gcd p l := Nat.div_pos (Nat.gcd_le_right _ (by omega)) (by omega)
    have p2 : 0 < q / Nat.gcd u q := Nat.div_pos (Nat.gcd_le_right _ (by omega)) (by omega)
    have p3 : 0 < l / Nat.gcd p l * (q / Nat.gcd u q) := Nat.mul_pos p1 p2
    have hxy : c_tmv u l p q = some (u / Nat.gcd u q * (p / Nat.gcd p l), l / Nat.gcd p l * (q / Nat.gcd u q)) := by
      unfold c_tmv
      rw [if_neg (fun w => w.elim z1 z2)]
    refine w_go z_hl [] [194] 40 f.1 ?_
    intro H hH
    have f2 : y_fr h H [] [] := y_st f hH (by repeat (first | exact w_nil | refine w_cons (Or.inl (y_m rfl)) ?_ | refine w_cons (Or.inr (by assumption)) ?_)) (by repeat (first | exact w_nil | refine w_cons (Or.inl (y_m rfl)) ?_ | refine w_cons (Or.inr (by assumption)) ?_))
    refine y_lowest (n := uI / c * (n / e)) (m := lI / e * (m / c)) f2.1 (by omega) (by omega) (fun k u' l' H9 hk9 hk1 hu9 hl9 hl91 hrel9 => ⟨fun n e => (by cases e), ?_⟩)
    have f9 : y_fr H H9 [19587, 19588] [] := y_st (y_mo (y_rf f2.1) rfl rfl) hrel9 (by repeat (first | exact w_nil | refine w_cons (Or.inl (y_m rfl)) ?_ | refine w_cons (Or.inr (by assumption)) ?_)) (by repeat (first | exact w_nil | refine w_cons (Or.inl (y_m rfl)) ?_ | refine w_cons (Or.inr (by assumption)) ?_))
    have ek : k = Nat.gcd (u / Nat.gcd u q * (p / Nat.gcd p l)) (l / Nat.gcd p l * (q / Nat.gcd u q)) := by
      rw [hk9, m1, m2, Int.natAbs_natCast, Int.natAbs_natCast]
    refine T100 hxy (y_sq (y_mo f2 rfl rfl) f9 rfl rfl) (hrel9.2.1 19587 _ rfl) ?_ (hrel9.2.1 19588 _ rfl) ?_
    · rw [hu9, m1, ← ek]
      exact Int.tdiv_eq_ediv_of_nonneg (by omega)
    · rw [hl9, m2, ← ek]
      rfl
  have T67 : ∀ {G : aH} {c e : Int64}, y_fr h G [] [] → c.toInt = (Nat.gcd u q : Nat) → e.toInt = (Nat.gcd p l : Nat) → ¬ c_tg (u / Nat.gcd u q) (p / Nat.gcd p l) → ¬ c_tg (l / Nat.gcd p l) (q / Nat.gcd u q) → aOK s_P X (d + 2) a_m215 67 [some (.ref 155), some (.long n), none, some (.long m), none, some (.long c), none, some (.long e), none, some (.long (uI / c)), none, some (.long (n / e)), none, some (.long (lI / e)), none, some (.long (m / c)), none] [.int (Int32.ofInt 0)] G C S K0 := by
    intro G c e f hc he z1 z2
    refine w_go z_hl [86] [] 20 f.1 ?_
    exact ⟨fun _ => fun H hH => T86 (y_st f hH (by repeat (first | exact w_nil | refine w_cons (Or.inl (y_m rfl)) ?_ | refine w_cons (Or.inr (by assumption)) ?_)) (by repeat (first | exact w_nil | refine w_cons (Or.inl (y_m rfl)) ?_ | refine w_cons (Or.inr (by assumption)) ?_))) hc he z1 z2, fun k => absurd k (by decide)⟩
  have T67n : ∀ {G : aH} {c e : Int64}, y_fr h G [] [] → c_tg (l / Nat.gcd p l) (q / Nat.gcd u q) → aOK s_P X (d + 2) a_m215 67 [some (.ref 155), some (.long n), none, some (.long m), none, some (.long c), none, some (.long e), none, some (.long (uI / c)), none, some (.long (n / e)), none, some (.long (lI / e)), none, some (.long (m / c)), none] [.int (Int32.ofInt 1)] G C S K0 := by
    intro G c e f z2
    refine w_go z_hl [86] [] 30 f.1 ?_
    exact ⟨fun k => absurd k (by decide), fun _ => ⟨rfl, y_zini (by decide) (by decide), rfl, y_zin (by decide) (by decide), rfl, y_zin (by decide) (by decide), fun H hH => great f (Or.inr z2) hH⟩⟩
  have T57 : ∀ {G : aH} {c e : Int64}, y_fr h G [] [] → c.toInt = (Nat.gcd u q : Nat) → e.toInt = (Nat.gcd p l : Nat) → ¬ c_tg (u / Nat.gcd u q) (p / Nat.gcd p l) → aOK s_P X (d + 2) a_m215 57 [some (.ref 155), some (.long n), none, some (.long m), none, some (.long c), none, some (.long e), none, some (.long (uI / c)), none, some (.long (n / e)), none, some (.long (lI / e)), none, some (.long (m / c)), none] [.int (Int32.ofInt 0)] G C S K0 := by
    intro G c e f hc he z1
    refine w_go z_hl [] [216] 30 f.1 ?_
    refine ⟨fun k => absurd k (by decide), fun _ => fun H hH => ?_⟩
    have f2 : y_fr h H [] [] := y_st f hH (by repeat (first | exact w_nil | refine w_cons (Or.inl (y_m rfl)) ?_ | refine w_cons (Or.inr (by assumption)) ?_)) (by repeat (first | exact w_nil | refine w_cons (Or.inl (y_m rfl)) ?_ | refine w_cons (Or.inr (by assumption)) ?_))
    refine f_passes f2.1 (c_dvN hl he gp) (c_dvN hq hc gq) (fun z2 H3 f3 => ⟨fun n e => (by cases e), ?_⟩) (fun z2 H3 f3 => ⟨fun n e => (by cases e), ?_⟩)
    · exact T67n (y_sq f2 f3 rfl rfl) z2
    · exact T67 (y_sq f2 f3 rfl rfl) hc he z1 z2
  have T57n : ∀ {G : aH} {c e : Int64}, y_fr h G [] [] → c_tg (u / Nat.gcd u q) (p / Nat.gcd p l) → aOK s_P X (d + 2) a_m215 57 [some (.ref 155), some (.long n), none, some (.long m), none, some (.long c), none, some (.long e), none, some (.long (uI / c)), none, some (.long (n / e)), none, some (.long (lI / e)), none, some (.long (m / c)), none] [.int (Int32.ofInt 1)] G C S K0 := by
    intro G c e f z1
    refine w_go z_hl [] [216] 30 f.1 ?_
    exact ⟨fun _ => ⟨rfl, y_zini (by decide) (by decide), rfl, y_zin (by decide) (by decide), rfl, y_zin (by decide) (by decide), fun H hH => great f (Or.inl z1) hH⟩, fun k => absurd k (by decide)⟩
  have T18 : ∀ {G : aH} {c e : Int64}, y_fr h G [] [] → c.toInt = (Nat.gcd u q : Nat) → e.toInt = (Nat.gcd p l : Nat) → aOK s_P X (d + 2) a_m215 18 [some (.ref 155), some (.long n), none, some (.long m), none, some (.long c), none, none, none, none, none, none, none, none, none, none, none] [.long e] G C S K0 := by
    intro G c e f hc he
    have c0 : c ≠ 0 := fun k => by rw [k] at hc; have : (0 : Int64).toInt = 0 := rfl; omega
    have e0 : e ≠ 0 := fun k => by rw [k] at he; have : (0 : Int64).toInt = 0 := rfl; omega
    refine w_go z_hl [] [216] 60 f.1 ?_
    intro x hx _ _
    obtain rfl := y_fl ((y_fe f rfl).trans gu) hx
    refine ⟨c0, e0, ?_⟩
    intro y hy _ _
    obtain rfl := y_fl ((y_fe f rfl).trans gl) hy
    refine ⟨e0, c0, fun H hH => ?_⟩
    have f2 : y_fr h H [] [] := y_st f hH (by repeat (first | exact w_nil | refine w_cons (Or.inl (y_m rfl)) ?_ | refine w_cons (Or.inr (by assumption)) ?_)) (by repeat (first | exact w_nil | refine w_cons (Or.inl (y_m rfl)) ?_ | refine w_cons (Or.inr (by assumption)) ?_))
    refine f_passes f2.1 (c_dvN hu hc gq) (c_dvN hp he gp) (fun z2 H3 f3 => ⟨fun n e => (by cases e), ?_⟩) (fun z2 H3 f3 => ⟨fun n e => (by cases e), ?_⟩)
    · exact T57n (y_sq f2 f3 rfl rfl) z2
    · exact T57 (y_sq f2 f3 rfl rfl) hc he z2
  have T8 : ∀ {G : aH} {c : Int64}, y_fr h G [] [] → c.toInt = (Nat.gcd u q : Nat) → aOK s_P X (d + 2) a_m215 8 [some (.ref 155), some (.long n), none, some (.long m), none, none, none, none, none, none, none, none, none, none, none, none, none] [.long c] G C S K0 := by
    intro G c f hc
    refine w_go z_hl [] [195] 40 f.1 ?_
    intro y hy _ _
    obtain rfl := y_fl ((y_fe f rfl).trans gl) hy
    intro H hH
    have f2 : y_fr h H [] [] := y_st f hH (by repeat (first | exact w_nil | refine w_cons (Or.inl (y_m rfl)) ?_ | refine w_cons (Or.inr (by assumption)) ?_)) (by repeat (first | exact w_nil | refine w_cons (Or.inl (y_m rfl)) ?_ | refine w_cons (Or.inr (by assumption)) ?_))
    refine y_common (a := n) (b := lI) f2.1 (by omega) (by omega) (fun g H3 h3 hg => ⟨fun n e => (by cases e), ?_⟩)
    exact T18 (y_st f2 h3 (by repeat (first | exact w_nil | refine w_cons (Or.inl (y_m rfl)) ?_ | refine w_cons (Or.inr (by assumption)) ?_)) (by repeat (first | exact w_nil | refine w_cons (Or.inl (y_m rfl)) ?_ | refine w_cons (Or.inr (by assumption)) ?_))) hc (by rw [hg, hp, hl, Int.natAbs_natCast, Int.natAbs_natCast])
  refine w_go z_hl [] [195] 40 hr ?_
  intro x hx _ _
  obtain rfl := y_fl gu hx
  intro H hH
  have f2 : y_fr h H [] [] := y_st (y_rf hr) hH (by repeat (first | exact w_nil | refine w_cons (Or.inl (y_m rfl)) ?_ | refine w_cons (Or.inr (by assumption)) ?_)) (by repeat (first | exact w_nil | refine w_cons (Or.inl (y_m rfl)) ?_ | refine w_cons (Or.inr (by assumption)) ?_))
  refine y_common (a := uI) (b := m) f2.1 (by omega) (by omega) (fun g H3 h3 hg => ⟨fun n e => (by cases e), ?_⟩)
  exact T8 (y_st f2 h3 (by repeat (first | exact w_nil | refine w_cons (Or.inl (y_m rfl)) ?_ | refine w_cons (Or.inr (by assumption)) ?_)) (by repeat (first | exact w_nil | refine w_cons (Or.inl (y_m rfl)) ?_ | refine w_cons (Or.inr (by assumption)) ?_))) (by rw [hg, hu, hq, Int.natAbs_natCast, Int.natAbs_natCast])
end NTM
end PT33hl
section PT33hm
/-! ===== v11: test (laid by wip/tools/mk11k.py) ===== -/
abbrev n_k9 : Int32 := (Int8.ofInt (-9)).toInt32
def c_lg (b : Nat) : Nat := if b ≤ 1 then 0 else if b ≤ 2 then 1 else if b ≤ 4 then 2 else if b ≤ 8 then 3 else if b ≤ 16 then 4 else if b ≤ 32 then 5 else if b ≤ 64 then 6 else if b ≤ 128 then 7 else if b ≤ 256 then 8 else 9
theorem c_lg_f {b k : Nat} (hb : b < 1024) (h1 : y_pl b 10 = 1) (hk : b < 2 ^ k) : c_lg b < k ∧ b.testBit (c_lg b) = true ∧ y_pl b (c_lg b) = 0 ∧ c_lg b ≤ 9 := by
  rcases y_one hb h1 with rfl | rfl | rfl | rfl | rfl | rfl | rfl | rfl | rfl | rfl <;>
  exact ⟨Nat.lt_of_not_le (fun q => absurd (Nat.lt_of_lt_of_le hk (Nat.pow_le_pow_right (by decide) q)) (by decide +kernel)), by decide +kernel, by decide +kernel, by decide +kernel⟩
def n_lb (v : Nat → Int32) (k : Nat) : Nat := (v (701000 + k)).toInt.toNat
def n_tc (v : Nat → Int32) (k : Nat) : Nat := c_lg (n_lb v k)
def n_tn (v : Nat → Int32) (k j : Nat) : Nat := (v (700000 + (8 * k + j))).toInt.toNat
abbrev n_tsV (v : Nat → Int32) (a n mq : Int32) : Prop := n_hasV a (v 128) ∧ (1 ≤ n.toInt ∧ n.toInt ≤ 6) ∧ (0 ≤ mq.toInt ∧ mq.toInt ≤ 1) ∧ y_pl (n_lb v a.toInt.toNat) 10 = 1 ∧ n_fre v a.toInt.toNat ∧ n_fre v (n_tc v a.toInt.toNat)
def n_tS (v : Nat → Int32) (k : Nat) : Nat := (n_nwW v (n_tc v k) true).toNat
def n_tN (v : Nat → Int32) (k : Nat) : Nat := (n_nwW v (n_tc v k) false).toNat
def n_tp (v : Nat → Int32) (k : Nat) : Nat := n_tn v k 1 / Nat.gcd (n_tn v k 1) (n_tn v k 0)
def n_tq (v : Nat → Int32) (k : Nat) : Nat := n_tn v k 0 / Nat.gcd (n_tn v k 1) (n_tn v k 0)
def n_it (v : Nat → Int32) (k : Nat) : Nat → Option (Nat × Nat)
  | 0 => some (n_tS v k / Nat.gcd (n_tS v k) (n_tN v k), n_tN v k / Nat.gcd (n_tS v k) (n_tN v k))
  | i + 1 => match n_it v k i with
    | none => none
    | some (x, y) => c_tmv x y (n_tp v k) (n_tq v k)
theorem n_it_n {v : Nat → Int32} {k i : Nat} (h : n_it v k i = none) : n_it v k (i + 1) = none := by
  show (match n_it v k i with
    | none => none
    | some (x, y) => c_tmv x y (n_tp v k) (n_tq v k)) = none
  rw [h]
theorem n_it_s {v : Nat → Int32} {k i x y : Nat} (h : n_it v k i = some (x, y)) : n_it v k (i + 1) = c_tmv x y (n_tp v k) (n_tq v k) := by
  show (match n_it v k i with
    | none => none
    | some (x, y) => c_tmv x y (n_tp v k) (n_tq v k)) = _
  rw [h]
theorem n_it_m {v : Nat → Int32} {k i : Nat} (h : n_it v k i = none) : ∀ u, n_it v k (i + u) = none := by
  intro u
  induction u with
  | zero => exact h
  | succ u ih => exact n_it_n ih
theorem n_tq_1 {v : Nat → Int32} {k : Nat} (h : 1 ≤ n_tn v k 0) : 1 ≤ n_tq v k := Nat.div_pos (Nat.gcd_le_right _ (by omega)) (Nat.gcd_pos_of_pos_right _ (by omega))
theorem n_it_c {v : Nat → Int32} {k : Nat} (hN : 1 ≤ n_tN v k) (h0 : 1 ≤ n_tn v k 0) (hS : n_tS v k ≤ 1000000000000000000) (hM : n_tN v k ≤ 1000000000000000000) : ∀ {i x y : Nat}, n_it v k i = some (x, y) → Nat.Coprime x y ∧ 1 ≤ y ∧ x ≤ 1000000000000000000 ∧ y ≤ 1000000000000000000 := by
  intro i
  induction i with
  | zero =>
    intro x y h
    have h : some (n_tS v k / Nat.gcd (n_tS v k) (n_tN v k), n_tN v k / Nat.gcd (n_tS v k) (n_tN v k)) = some (x, y) := h
    injection h with h
    injection h with h2 h3
    rw [← h2, ← h3]
    exact ⟨c_lowc hN, Nat.div_pos (Nat.gcd_le_right _ (by omega)) (Nat.gcd_pos_of_pos_right _ (by omega)), Nat.le_trans (Nat.div_le_self _ _) hS, Nat.le_trans (Nat.div_le_self _ _) hM⟩
  | succ i ih =>
    intro x y h
    cases z : n_it v k i with
    | none =>
      rw [n_it_n z] at h
      cases h
    | some p =>
      obtain ⟨x0, y0⟩ := p
      rw [n_it_s z] at h
      obtain ⟨i1, i2, i3, i4⟩ := ih z
      have q1 := n_tq_1 h0
      have cc : Nat.Coprime (n_tp v k) (n_tq v k) := c_lowc h0
      obtain ⟨-, -, s3, s4, -⟩ := c_tmv_s h
      exact ⟨c_tmv_c i2 q1 i1 cc h, c_tmv_1 i2 q1 h, s3, s4⟩
def n_ta (v : Nat → Int32) (k M : Nat) : Int32 := match n_it v k M with
  | none => n_k9
  | some (x, y) => if 1000000000000000000 < x + y then n_k9 else Int32.ofInt 0
theorem n_ta_n {v : Nat → Int32} {k M : Nat} (h : n_it v k M = none) : n_ta v k M = n_k9 := by
  unfold n_ta
  rw [h]
theorem n_ta_s {v : Nat → Int32} {k M x y : Nat} (h : n_it v k M = some (x, y)) : n_ta v k M = if 1000000000000000000 < x + y then n_k9 else Int32.ofInt 0 := by
  unfold n_ta
  rw [h]
abbrev n_oS (v : Nat → Int32) (k : Nat) : Prop := n_tS v k = 0 ∨ n_tn v k 1 = 0
abbrev n_oN (v : Nat → Int32) (k : Nat) : Prop := n_tN v k = 0 ∨ n_tn v k 0 = 0
def n_tr (v : Nat → Int32) (k M : Nat) : Int32 := if n_oS v k ∧ n_oN v k then n_m2 else if n_oS v k ∨ n_oN v k then Int32.ofInt 0 else n_ta v k M
def n_tM (n mq : Int32) : Nat := if mq.toInt = 1 then 1 else n.toInt.toNat
noncomputable def n_s146 (us : List Int32) (v : Nat → Int32) : (Nat → Int32) × Int32 := match us with
  | [a, n, mq] => if n_tsV v a n mq then (n_up v 143 (Int32.ofInt 1), n_tr v a.toInt.toNat (n_tM n mq)) else (v, Int32.ofInt (-1))
  | _ => (v, 0)
theorem c_pq {n m u l : Int} {g N M : Nat} (hn : n = N) (hm : m = M) (hg : g = Nat.gcd n.natAbs m.natAbs) (hu : u = n.tdiv g) (hl : l = m / g) : u = ((N / Nat.gcd N M : Nat) : Int) ∧ l = ((M / Nat.gcd N M : Nat) : Int) := by
  rw [hn, hm, Int.natAbs_natCast, Int.natAbs_natCast] at hg
  rw [hn, hg] at hu
  rw [hm, hg] at hl
  exact ⟨by rw [hu, Int.tdiv_eq_ediv_of_nonneg (by omega), Int.natCast_ediv], by rw [hl, Int.natCast_ediv]⟩
section NTE
variable {X : aX} {C S d : Nat} {K0 : Option Value → aH → Nat → Nat → Prop} {h G : aH} {v : Nat → Int32}
/-- the one on which it leans: the class -/
theorem c_only (hW : n_Wv v h) (e : y_fr h G [] []) {a : Int32} (hv : n_hasV a (v 128)) (yes : y_pl (n_lb v a.toInt.toNat) 10 = 1 → ∀ (H : aH) (r : Int32), y_fr h H [] [] → r.toInt = n_tc v a.toInt.toNat → K0 (some (.int r)) H C S) (no : y_pl (n_lb v a.toInt.toNat) 10 ≠ 1 → ∀ H, y_fr h H [] [] → K0 (some (.int (Int32.ofInt (-1)))) H C S) : aOK s_P X d a_m147 0 [some (.ref 3), some (.int a)] [] G C S K0 := by
  obtain ⟨v1, v2⟩ := id hv
  obtain ⟨lc, lo, wl, fr, ⟨⟨-, -, -⟩, ⟨q4, q5, -, -⟩, ⟨n0, n10⟩, -, -, k1, -⟩, -⟩ := id hW
  obtain ⟨u1, u2, u3, u4⟩ := k1 a.toInt.toNat (by omega)
  rw [n_Nn (by omega)] at u1 u2 u3 u4
  have pw : 2 ^ a.toInt.toNat ≤ 2 ^ 10 := n_p2 (by omega)
  have i3 : (a * Int32.ofInt 3).toInt = ((a.toInt.toNat * 3 : Nat) : Int) := y_mulS _ (show a.toInt = ((a.toInt.toNat : Nat) : Int) by omega) (show (Int32.ofInt 3).toInt = ((3 : Nat) : Int) by decide) rfl (by omega)
  have c3 := y_cl1 i3
  refine w_go z_hl [] [] 40 e.1 ?_
  refine ⟨⟨by omega, by omega⟩, fun l hl len bb => ?_⟩
  obtain rfl := y_ai ((y_ae e rfl).trans q4) hl
  refine ⟨fun z => fun H hH => ?_, fun z => ?_⟩
  · have z1 : (lc.getD a.toNatClampNeg 0).toInt ≠ (Int32.ofInt 1).toInt := (y_ci .ne _ _).mp z
    refine no (fun w => z1 ?_) H (y_st e hH (by repeat (first | exact w_nil | refine w_cons (Or.inl (y_m rfl)) ?_ | refine w_cons (Or.inr (by assumption)) ?_)) (by repeat (first | exact w_nil | refine w_cons (Or.inl (y_m rfl)) ?_ | refine w_cons (Or.inr (by assumption)) ?_)))
    have w' : y_pl (v (701000 + a.toInt.toNat)).toInt.toNat 10 = 1 := w
    rw [w'] at u3
    exact u3
  · have z1 : ¬ ((lc.getD a.toNatClampNeg 0).toInt ≠ (Int32.ofInt 1).toInt) := y_cif z
    have z2 : (lc.getD a.toInt.toNat 0).toInt = 1 := Decidable.not_not.mp z1
    have pl : y_pl (n_lb v a.toInt.toNat) 10 = 1 := by
      show y_pl (v (701000 + a.toInt.toNat)).toInt.toNat 10 = 1
      omega
    obtain ⟨f1, f2, f3, f4⟩ := c_lg_f (b := n_lb v a.toInt.toNat) (Nat.lt_of_lt_of_le u1 pw) pl u1
    refine ⟨⟨by show 0 ≤ (a * Int32.ofInt 3).toInt; omega, by show (a * Int32.ofInt 3).toInt < ((30 : Nat) : Int); omega⟩, fun l hl len bb => fun H hH => ?_⟩
    obtain rfl := y_ai ((y_ae e rfl).trans q5) hl
    refine yes pl H _ (y_st e hH (by repeat (first | exact w_nil | refine w_cons (Or.inl (y_m rfl)) ?_ | refine w_cons (Or.inr (by assumption)) ?_)) (by repeat (first | exact w_nil | refine w_cons (Or.inl (y_m rfl)) ?_ | refine w_cons (Or.inr (by assumption)) ?_))) ?_
    have w := u4 (c_lg (n_lb v a.toInt.toNat)) f1 f2
    have f3' : y_pl (v (701000 + a.toInt.toNat)).toInt.toNat (c_lg (n_lb v a.toInt.toNat)) = 0 := f3
    rw [f3', Nat.add_zero, Nat.mul_comm] at w
    rw [c3]
    exact w
/-- once more, and once more: the class -/
theorem c_tagain_end {m iI : Int32} {x y : Nat} {uI lI : Int64} (q : n_Qs v h G) (gu : w_f G 19328 = some (.long uI)) (hu : uI.toInt = x) (gl : w_f G 19329 = some (.long lI)) (hl : lI.toInt = y) (x18 : x ≤ 1000000000000000000) (y18 : y ≤ 1000000000000000000) (hK : ∀ H, n_Qs v h H → K0 (some (.int (if 1000000000000000000 < x + y then n_k9 else Int32.ofInt 0))) H C S) : aOK s_P X (d + 4) a_m148 40 [some (.ref 2), some (.int m), some (.int iI)] [] G C S K0 := by
  have s1 : (uI + lI).toInt = ((x + y : Nat) : Int) := y_add64 _ hu hl rfl (by omega)
  have T105 : ∀ {G : aH}, ¬ (1000000000000000000 < x + y) → n_Qs v h G → aOK s_P X (d + 4) a_m148 105 [some (.ref 2), some (.int m), some (.int iI)] [] G C S K0 := by
    intro G nz q
    refine w_go z_hl [] [] 20 q.1 ?_
    intro H hH
    have w := hK H (n_Qs_y q (y_st (y_rf q.1) hH (by repeat (first | exact w_nil | refine w_cons (Or.inl (y_m rfl)) ?_ | refine w_cons (Or.inr (by assumption)) ?_)) (by repeat (first | exact w_nil | refine w_cons (Or.inl (y_m rfl)) ?_ | refine w_cons (Or.inr (by assumption)) ?_))))
    rw [if_neg nz] at w
    exact w
  have T94 : ∀ {G : aH}, ¬ (1000000000000000000 < x + y) → n_Qs v h G → aOK s_P X (d + 4) a_m148 94 [some (.ref 2), some (.int m), some (.int iI)] [] G C S K0 := by
    intro G nz q
    refine w_go z_hl [] [42] 30 q.1 ?_
    intro H hH
    refine c_tell1 (d := d + 1) (n_Qs_y q (y_st (y_rf q.1) hH (by repeat (first | exact w_nil | refine w_cons (Or.inl (y_m rfl)) ?_ | refine w_cons (Or.inr (by assumption)) ?_)) (by repeat (first | exact w_nil | refine w_cons (Or.inl (y_m rfl)) ?_ | refine w_cons (Or.inr (by assumption)) ?_)))) (fun H3 q3 => ⟨fun n e => (by cases e), ?_⟩)
    exact T105 nz q3
  refine w_go z_hl [] [39] 60 q.1 ?_
  intro z hz _ _
  obtain rfl := y_fl gu hz
  intro z hz _ _
  obtain rfl := y_fl gl hz
  refine ⟨fun z => fun H hH => ?_, fun z => fun H hH => ?_⟩
  · have z1 : (uI + lI).toInt ≤ (Int64.ofInt 1000000000000000000).toInt := (y_cl .le _ _).mp z
    rw [c_18, s1] at z1
    refine c_put1 (d := d + 2) (n_Qs_y q (y_st (y_rf q.1) hH (by repeat (first | exact w_nil | refine w_cons (Or.inl (y_m rfl)) ?_ | refine w_cons (Or.inr (by assumption)) ?_)) (by repeat (first | exact w_nil | refine w_cons (Or.inl (y_m rfl)) ?_ | refine w_cons (Or.inr (by assumption)) ?_)))) (fun H3 q3 => ⟨fun n e => (by cases e), ?_⟩)
    exact T94 (by omega) q3
  · have z1 : ¬ ((uI + lI).toInt ≤ (Int64.ofInt 1000000000000000000).toInt) := y_clf z
    rw [c_18, s1] at z1
    have w := hK H (n_Qs_y q (y_st (y_rf q.1) hH (by repeat (first | exact w_nil | refine w_cons (Or.inl (y_m rfl)) ?_ | refine w_cons (Or.inr (by assumption)) ?_)) (by repeat (first | exact w_nil | refine w_cons (Or.inl (y_m rfl)) ?_ | refine w_cons (Or.inr (by assumption)) ?_))))
    rw [if_pos (by omega)] at w
    exact w
theorem c_tagain_loop {m : Int32} {k M : Nat} (hm : m.toInt = M) (M6 : M ≤ 6) {pI qI : Int64} (hp : pI.toInt = n_tp v k) (hq : qI.toInt = n_tq v k) (hN : 1 ≤ n_tN v k) (h0 : 1 ≤ n_tn v k 0) (hS : n_tS v k ≤ 1000000000000000000) (hM : n_tN v k ≤ 1000000000000000000) (hK : ∀ H, n_Qs v h H → K0 (some (.int (n_ta v k M))) H C S) : ∀ (t : Nat) (G : aH) (iI : Int32) (i x y : Nat) (uI lI : Int64), n_Qs v h G → iI.toInt = i → i + t = M → n_it v k i = some (x, y) → w_f G 19328 = some (.long uI) → uI.toInt = x → w_f G 19329 = some (.long lI) → lI.toInt = y → w_f G 19456 = some (.long pI) → w_f G 19457 = some (.long qI) → aOK s_P X (d + 4) a_m148 2 [some (.ref 2), some (.int m), some (.int iI)] [] G C S K0 := by
  intro t
  induction t with
  | zero =>
    intro G iI i x y uI lI q hi ht hj gu hu gl hl gp gq
    obtain ⟨j1, j2, j3, j4⟩ := n_it_c hN h0 hS hM hj
    refine w_go z_hl [2, 40] [] 30 q.1 ?_
    refine ⟨fun _ => fun H hH => ?_, fun z => ?_⟩
    · have e : y_fr G H [] [] := y_st (y_rf q.1) hH (by repeat (first | exact w_nil | refine w_cons (Or.inl (y_m rfl)) ?_ | refine w_cons (Or.inr (by assumption)) ?_)) (by repeat (first | exact w_nil | refine w_cons (Or.inl (y_m rfl)) ?_ | refine w_cons (Or.inr (by assumption)) ?_))
      refine c_tagain_end (n_Qs_y q e) ((y_fe e rfl).trans gu) hu ((y_fe e rfl).trans gl) hl j3 j4 (fun H2 q2 => ?_)
      have w := hK H2 q2
      rw [n_ta_s (x := x) (y := y) (by rw [← show i = M by omega]; exact hj)] at w
      exact w
    · have z1 : ¬ (m.toInt ≤ iI.toInt) := y_cif z
      omega
  | succ t ih =>
    intro G iI i x y uI lI q hi ht hj gu hu gl hl gp gq
    obtain ⟨j1, j2, j3, j4⟩ := n_it_c hN h0 hS hM hj
    have js := n_it_s hj
    have ini : (iI + Int32.ofInt 1).toInt = ((i + 1 : Nat) : Int) := by rw [y_inc (by omega), hi]; rfl
    have T28 : ∀ {G : aH} {x' y' : Nat} {uJ lJ : Int64}, n_Qs v h G → n_it v k (i + 1) = some (x', y') → w_f G 19328 = some (.long uJ) → uJ.toInt = x' → w_f G 19329 = some (.long lJ) → lJ.toInt = y' → w_f G 19456 = some (.long pI) → w_f G 19457 = some (.long qI) → aOK s_P X (d + 4) a_m148 28 [some (.ref 2), some (.int m), some (.int iI)] [.int (Int32.ofInt 1)] G C S K0 := by
      intro G x' y' uJ lJ q h0 h1 h2 h3 h4 h5 h6
      refine w_go z_hl [2] [] 20 q.1 ?_
      refine ⟨fun _ => fun H hH => ?_, fun z => absurd z (by decide)⟩
      have e : y_fr G H [] [] := y_st (y_rf q.1) hH (by repeat (first | exact w_nil | refine w_cons (Or.inl (y_m rfl)) ?_ | refine w_cons (Or.inr (by assumption)) ?_)) (by repeat (first | exact w_nil | refine w_cons (Or.inl (y_m rfl)) ?_ | refine w_cons (Or.inr (by assumption)) ?_))
      exact ih H _ (i + 1) x' y' uJ lJ (n_Qs_y q e) ini (by omega) h0 ((y_fe e rfl).trans h1) h2 ((y_fe e rfl).trans h3) h4 ((y_fe e rfl).trans h5) ((y_fe e rfl).trans h6)
    have T28n : ∀ {G : aH}, n_Qs v h G → n_it v k (i + 1) = none → aOK s_P X (d + 4) a_m148 28 [some (.ref 2), some (.int m), some (.int iI)] [.int (Int32.ofInt 0)] G C S K0 := by
      intro G q h0
      refine w_go z_hl [2] [] 20 q.1 ?_
      refine ⟨fun z => absurd z (by decide), fun _ => fun H hH => ?_⟩
      have w := hK H (n_Qs_y q (y_st (y_rf q.1) hH (by repeat (first | exact w_nil | refine w_cons (Or.inl (y_m rfl)) ?_ | refine w_cons (Or.inr (by assumption)) ?_)) (by repeat (first | exact w_nil | refine w_cons (Or.inl (y_m rfl)) ?_ | refine w_cons (Or.inr (by assumption)) ?_))))
      rw [n_ta_n (by rw [show M = i + 1 + t by omega]; exact n_it_m h0 t)] at w
      exact w
    refine w_go z_hl [2, 40] [69] 60 q.1 ?_
    refine ⟨fun z => ?_, fun _ => ?_⟩
    · have z1 : m.toInt ≤ iI.toInt := (y_ci .ge _ _).mp z
      omega
    · intro z hz _ _
      obtain rfl := y_fl gp hz
      intro z hz _ _
      obtain rfl := y_fl gq hz
      intro H hH
      have e : y_fr G H [] [] := y_st (y_rf q.1) hH (by repeat (first | exact w_nil | refine w_cons (Or.inl (y_m rfl)) ?_ | refine w_cons (Or.inr (by assumption)) ?_)) (by repeat (first | exact w_nil | refine w_cons (Or.inl (y_m rfl)) ?_ | refine w_cons (Or.inr (by assumption)) ?_))
      refine c_times153 (d := d + 2) e.1 ((y_fe e rfl).trans gu) ((y_fe e rfl).trans gl) hu hl hp hq j2 (n_tq_1 h0) (fun x' y' H3 uJ lJ cm f3 w1 w2 w3 w4 => ⟨fun n e => (by cases e), ?_⟩) (fun cm H3 f3 => ⟨fun n e => (by cases e), ?_⟩)
      · exact T28 (n_Qs_w (n_Qs_y q e) f3 rfl rfl rfl rfl rfl rfl) (by rw [js]; exact cm) w1 w2 w3 w4 ((y_fe f3 rfl).trans ((y_fe e rfl).trans gp)) ((y_fe f3 rfl).trans ((y_fe e rfl).trans gq))
      · exact T28n (n_Qs_y q (y_sq e f3 rfl rfl)) (by rw [js]; exact cm)
theorem c_test (hr : w_hr z_D h) (hJ : y_JA h) (hc : n_cV h v) (hW : n_Wv v h) {a n mq : Int32} (yes : n_tsV v a n mq → ∀ H, n_Qs v h H → K0 (some (.int (n_tr v a.toInt.toNat (n_tM n mq)))) H C S) (no : ¬ n_tsV v a n mq → ∀ H, y_fr h H [] [] → K0 (some (.int (Int32.ofInt (-1)))) H C S) : aOK s_P X (d + 5) a_m146 0 [some (.ref 2), some (.int a), some (.int n), some (.int mq), none, none, none, none, none, none, none, none, none] [] h C S K0 := by
  have g0 := hc.1 128 (by decide)
  have b0 := n_bd (lo := 0) (hi := 10) hr g0 rfl
  have T259 : ∀ {G : aH} {ls : aL}, n_tsV v a n mq → n_Qs v h G → aOK s_P X (d + 5) a_m146 259 ls [.int (n_tr v a.toInt.toNat (n_tM n mq))] G C S K0 := by
    intro G ls ts q
    refine w_go z_hl [] [] 10 q.1 ?_
    exact fun H hH => yes ts H (n_Qs_y q (y_st (y_rf q.1) hH (by repeat (first | exact w_nil | refine w_cons (Or.inl (y_m rfl)) ?_ | refine w_cons (Or.inr (by assumption)) ?_)) (by repeat (first | exact w_nil | refine w_cons (Or.inl (y_m rfl)) ?_ | refine w_cons (Or.inr (by assumption)) ?_))))
  have T219 : ∀ {G : aH} {ls : aL}, n_tsV v a n mq → ¬ (n_oS v a.toInt.toNat ∧ n_oN v a.toInt.toNat) → (n_oS v a.toInt.toNat ∨ n_oN v a.toInt.toNat) → n_Qs v h G → aOK s_P X (d + 5) a_m146 219 ls [] G C S K0 := by
    intro G ls ts z1 z2 q
    refine w_go z_hl [] [] 10 q.1 ?_
    intro H hH
    have w := yes ts H (n_Qs_y q (y_st (y_rf q.1) hH (by repeat (first | exact w_nil | refine w_cons (Or.inl (y_m rfl)) ?_ | refine w_cons (Or.inr (by assumption)) ?_)) (by repeat (first | exact w_nil | refine w_cons (Or.inl (y_m rfl)) ?_ | refine w_cons (Or.inr (by assumption)) ?_))))
    unfold n_tr at w
    rw [if_neg z1, if_pos z2] at w
    exact w
  have T208 : ∀ {G : aH} {cI s0 s1 x11 x12 : Int32} {w1 w0 : Int64}, n_tsV v a n mq → ¬ (n_oS v a.toInt.toNat ∧ n_oN v a.toInt.toNat) → (n_oS v a.toInt.toNat ∨ n_oN v a.toInt.toNat) → n_Qs v h G → aOK s_P X (d + 5) a_m146 208 [some (.ref 2), some (.int a), some (.int n), some (.int mq), some (.int cI), some (.int s1), some (.int s0), some (.long w1), none, some (.long w0), none, some (.int x11), some (.int x12)] [] G C S K0 := by
    intro G cI s0 s1 x11 x12 w1 w0 ts z1 z2 q
    refine w_go z_hl [] [42] 30 q.1 ?_
    intro H hH
    refine c_tell1 (d := d + 2) (n_Qs_y q (y_st (y_rf q.1) hH (by repeat (first | exact w_nil | refine w_cons (Or.inl (y_m rfl)) ?_ | refine w_cons (Or.inr (by assumption)) ?_)) (by repeat (first | exact w_nil | refine w_cons (Or.inl (y_m rfl)) ?_ | refine w_cons (Or.inr (by assumption)) ?_)))) (fun H3 q3 => ⟨fun n e => (by cases e), ?_⟩)
    exact T219 ts z1 z2 q3
  have T245 : ∀ {G : aH} {cI s0 s1 x11 x12 : Int32} {w1 w0 uI lI pI qI : Int64}, n_tsV v a n mq → ¬ n_oS v a.toInt.toNat → ¬ n_oN v a.toInt.toNat → n_tS v a.toInt.toNat ≤ 1000000000000000000 → n_tN v a.toInt.toNat ≤ 1000000000000000000 → n_Qs v h G → w_f G 19328 = some (.long uI) → uI.toInt = ((n_tS v a.toInt.toNat / Nat.gcd (n_tS v a.toInt.toNat) (n_tN v a.toInt.toNat) : Nat) : Int) → w_f G 19329 = some (.long lI) → lI.toInt = ((n_tN v a.toInt.toNat / Nat.gcd (n_tS v a.toInt.toNat) (n_tN v a.toInt.toNat) : Nat) : Int) → w_f G 19456 = some (.long pI) → pI.toInt = (n_tp v a.toInt.toNat : Nat) → w_f G 19457 = some (.long qI) → qI.toInt = (n_tq v a.toInt.toNat : Nat) → aOK s_P X (d + 5) a_m146 245 [some (.ref 2), some (.int a), some (.int n), some (.int mq), some (.int cI), some (.int s1), some (.int s0), some (.long w1), none, some (.long w0), none, some (.int x11), some (.int x12)] [] G C S K0 := by
    intro G cI s0 s1 x11 x12 w1 w0 uI lI pI qI ts z1 z2 hS hM q gu hu gl hl gp hp gq hq
    have z3 : n_tN v a.toInt.toNat ≠ 0 ∧ n_tn v a.toInt.toNat 0 ≠ 0 := ⟨fun w => z2 (Or.inl w), fun w => z2 (Or.inr w)⟩
    have go : ∀ {H : aH} {m : Int32} {M : Nat} {K : Option Value → aH → Nat → Nat → Prop}, y_fr G H [] [] → m.toInt = M → M ≤ 6 → (∀ H, n_Qs v h H → K (some (.int (n_ta v a.toInt.toNat M))) H C S) → aOK s_P X (d + 4) a_m148 0 [some (.ref 2), some (.int m), none] [] H C S K := by
      intro H m M K e hm M6 hK
      refine w_go z_hl [2] [] 10 e.1 ?_
      intro H2 h2
      have e2 : y_fr H H2 [] [] := y_st (y_rf e.1) h2 (by repeat (first | exact w_nil | refine w_cons (Or.inl (y_m rfl)) ?_ | refine w_cons (Or.inr (by assumption)) ?_)) (by repeat (first | exact w_nil | refine w_cons (Or.inl (y_m rfl)) ?_ | refine w_cons (Or.inr (by assumption)) ?_))
      have f := y_sq e e2 rfl rfl
      exact c_tagain_loop hm M6 hp hq (by omega) (by omega) hS hM hK M H2 _ 0 _ _ uI lI (n_Qs_y q f) (by decide) (by omega) rfl ((y_fe f rfl).trans gu) hu ((y_fe f rfl).trans gl) hl ((y_fe f rfl).trans gp) ((y_fe f rfl).trans gq)
    have fin : ∀ {H : aH} {ls : aL}, n_Qs v h H → aOK s_P X (d + 5) a_m146 259 ls [.int (n_ta v a.toInt.toNat (n_tM n mq))] H C S K0 := by
      intro H ls q
      have w := T259 (ls := ls) ts q
      unfold n_tr at w
      rw [if_neg (fun z => z1 z.1), if_neg (fun z => z.elim z1 z2)] at w
      exact w
    obtain ⟨-, ⟨n1, n6⟩, ⟨m0, m1⟩, -⟩ := id ts
    refine w_go z_hl [] [148] 40 q.1 ?_
    refine ⟨fun z => fun H hH => ?_, fun z => fun H hH => ?_⟩
    · have y1 : mq.toInt ≠ (Int32.ofInt 1).toInt := (y_ci .ne _ _).mp z
      have y2 : mq.toInt ≠ 1 := y1
      have eM : n_tM n mq = n.toInt.toNat := if_neg y2
      refine go (m := n) (M := n_tM n mq) (y_st (y_rf q.1) hH (by repeat (first | exact w_nil | refine w_cons (Or.inl (y_m rfl)) ?_ | refine w_cons (Or.inr (by assumption)) ?_)) (by repeat (first | exact w_nil | refine w_cons (Or.inl (y_m rfl)) ?_ | refine w_cons (Or.inr (by assumption)) ?_))) (by omega) (by omega) (fun H3 q3 => ⟨fun n e => (by cases e), ?_⟩)
      exact fin q3
    · have y1 : ¬ (mq.toInt ≠ (Int32.ofInt 1).toInt) := y_cif z
      have y2 : mq.toInt = 1 := Decidable.not_not.mp y1
      have eM : n_tM n mq = 1 := if_pos y2
      refine go (m := Int32.ofInt 1) (M := n_tM n mq) (y_st (y_rf q.1) hH (by repeat (first | exact w_nil | refine w_cons (Or.inl (y_m rfl)) ?_ | refine w_cons (Or.inr (by assumption)) ?_)) (by repeat (first | exact w_nil | refine w_cons (Or.inl (y_m rfl)) ?_ | refine w_cons (Or.inr (by assumption)) ?_))) (by rw [eM]; decide) (by omega) (fun H3 q3 => ⟨fun n e => (by cases e), ?_⟩)
      exact fin q3
  have T234 : ∀ {G : aH} {cI s0 s1 x11 x12 : Int32} {w1 w0 uI lI : Int64}, n_tsV v a n mq → ¬ n_oS v a.toInt.toNat → ¬ n_oN v a.toInt.toNat → n_tS v a.toInt.toNat ≤ 1000000000000000000 → n_tN v a.toInt.toNat ≤ 1000000000000000000 → w1.toInt = (n_tn v a.toInt.toNat 1 : Nat) → w0.toInt = (n_tn v a.toInt.toNat 0 : Nat) → n_Qs v h G → w_f G 19328 = some (.long uI) → uI.toInt = ((n_tS v a.toInt.toNat / Nat.gcd (n_tS v a.toInt.toNat) (n_tN v a.toInt.toNat) : Nat) : Int) → w_f G 19329 = some (.long lI) → lI.toInt = ((n_tN v a.toInt.toNat / Nat.gcd (n_tS v a.toInt.toNat) (n_tN v a.toInt.toNat) : Nat) : Int) → aOK s_P X (d + 5) a_m146 234 [some (.ref 2), some (.int a), some (.int n), some (.int mq), some (.int cI), some (.int s1), some (.int s0), some (.long w1), none, some (.long w0), none, some (.int x11), some (.int x12)] [] G C S K0 := by
    intro G cI s0 s1 x11 x12 w1 w0 uI lI ts z1 z2 hS hM h1 h0 q gu hu gl hl
    have z3 : n_tN v a.toInt.toNat ≠ 0 ∧ n_tn v a.toInt.toNat 0 ≠ 0 := ⟨fun w => z2 (Or.inl w), fun w => z2 (Or.inr w)⟩
    refine w_go z_hl [] [39] 30 q.1 ?_
    intro H hH
    have e : y_fr G H [] [] := y_st (y_rf q.1) hH (by repeat (first | exact w_nil | refine w_cons (Or.inl (y_m rfl)) ?_ | refine w_cons (Or.inr (by assumption)) ?_)) (by repeat (first | exact w_nil | refine w_cons (Or.inl (y_m rfl)) ?_ | refine w_cons (Or.inr (by assumption)) ?_))
    refine c_put154 (d := d + 3) (n := w1) (m := w0) e.1 (by omega) (by omega) (fun g u l H3 hg g1 hu' hl' l1 f3 k1 k2 => ⟨fun n e => (by cases e), ?_⟩)
    obtain ⟨y1, y2⟩ := c_pq h1 h0 hg hu' hl'
    exact T245 ts z1 z2 hS hM (n_Qs_w (n_Qs_y q e) f3 rfl rfl rfl rfl rfl rfl) ((y_fe f3 rfl).trans ((y_fe e rfl).trans gu)) hu ((y_fe f3 rfl).trans ((y_fe e rfl).trans gl)) hl k1 y1 k2 y2
  have T167 : ∀ {G : aH} {cI s0 s1 x11 x12 : Int32} {w1 w0 : Int64}, n_tsV v a n mq → s1.toInt = (n_tS v a.toInt.toNat : Nat) → s0.toInt = (n_tN v a.toInt.toNat : Nat) → w1.toInt = (n_tn v a.toInt.toNat 1 : Nat) → w0.toInt = (n_tn v a.toInt.toNat 0 : Nat) → (n_oS v a.toInt.toNat ∧ x11 = Int32.ofInt 1 ∨ ¬ n_oS v a.toInt.toNat ∧ x11 = Int32.ofInt 0) → (n_oN v a.toInt.toNat ∧ x12 = Int32.ofInt 1 ∨ ¬ n_oN v a.toInt.toNat ∧ x12 = Int32.ofInt 0) → n_Qs v h G → aOK s_P X (d + 5) a_m146 167 [some (.ref 2), some (.int a), some (.int n), some (.int mq), some (.int cI), some (.int s1), some (.int s0), some (.long w1), none, some (.long w0), none, some (.int x11), some (.int x12)] [] G C S K0 := by
    intro G cI s0 s1 x11 x12 w1 w0 ts h1 h0 k1 k0 c1 c2 q
    rcases c1 with ⟨c1, rfl⟩ | ⟨c1, rfl⟩
    · rcases c2 with ⟨c2, rfl⟩ | ⟨c2, rfl⟩
      · refine w_go z_hl [] [39] 40 q.1 ?_
        refine ⟨fun z => absurd z (by decide), fun _ => ⟨fun z => absurd z (by decide), fun _ => fun H hH => ?_⟩⟩
        have w := yes ts H (n_Qs_y q (y_st (y_rf q.1) hH (by repeat (first | exact w_nil | refine w_cons (Or.inl (y_m rfl)) ?_ | refine w_cons (Or.inr (by assumption)) ?_)) (by repeat (first | exact w_nil | refine w_cons (Or.inl (y_m rfl)) ?_ | refine w_cons (Or.inr (by assumption)) ?_))))
        unfold n_tr at w
        rw [if_pos ⟨c1, c2⟩] at w
        exact w
      · refine w_go z_hl [] [39] 40 q.1 ?_
        refine ⟨fun z => absurd z (by decide), fun _ => ⟨fun _ => ⟨fun _ => ⟨fun z => absurd z (by decide), fun _ => fun H hH => ?_⟩, fun z => absurd z (by decide)⟩, fun z => absurd z (by decide)⟩⟩
        refine c_put1 (d := d + 3) (n_Qs_y q (y_st (y_rf q.1) hH (by repeat (first | exact w_nil | refine w_cons (Or.inl (y_m rfl)) ?_ | refine w_cons (Or.inr (by assumption)) ?_)) (by repeat (first | exact w_nil | refine w_cons (Or.inl (y_m rfl)) ?_ | refine w_cons (Or.inr (by assumption)) ?_)))) (fun H3 q3 => ⟨fun n e => (by cases e), ?_⟩)
        exact T208 ts (fun z => c2 z.2) (Or.inl c1) q3
    · rcases c2 with ⟨c2, rfl⟩ | ⟨c2, rfl⟩
      · refine w_go z_hl [] [39] 40 q.1 ?_
        refine ⟨fun _ => ⟨fun z => absurd z (by decide), fun _ => ⟨fun z => absurd z (by decide), fun _ => ⟨fun _ => fun H hH => ?_, fun z => absurd z (by decide)⟩⟩⟩, fun z => absurd z (by decide)⟩
        refine c_put1 (d := d + 3) (n_Qs_y q (y_st (y_rf q.1) hH (by repeat (first | exact w_nil | refine w_cons (Or.inl (y_m rfl)) ?_ | refine w_cons (Or.inr (by assumption)) ?_)) (by repeat (first | exact w_nil | refine w_cons (Or.inl (y_m rfl)) ?_ | refine w_cons (Or.inr (by assumption)) ?_)))) (fun H3 q3 => ⟨fun n e => (by cases e), ?_⟩)
        exact T208 ts (fun z => c1 z.1) (Or.inr c2) q3
      · refine w_go z_hl [] [39] 40 q.1 ?_
        refine ⟨fun _ => ⟨fun z => absurd z (by decide), fun _ => ⟨fun _ => fun H hH => ?_, fun z => absurd z (by decide)⟩⟩, fun z => absurd z (by decide)⟩
        have e : y_fr G H [] [] := y_st (y_rf q.1) hH (by repeat (first | exact w_nil | refine w_cons (Or.inl (y_m rfl)) ?_ | refine w_cons (Or.inr (by assumption)) ?_)) (by repeat (first | exact w_nil | refine w_cons (Or.inl (y_m rfl)) ?_ | refine w_cons (Or.inr (by assumption)) ?_))
        have z3 : n_tN v a.toInt.toNat ≠ 0 := fun w => c2 (Or.inl w)
        have b1 := s1.toInt_lt
        have b2 := s0.toInt_lt
        refine c_put153 (d := d + 3) (n := s1.toInt64) (m := s0.toInt64) e.1 (by rw [y_i2l]; omega) (by rw [y_i2l]; omega) (fun g u l H3 hg g1 hu' hl' l1 f3 j1 j2 => ⟨fun n e => (by cases e), ?_⟩)
        rw [y_i2l] at hu' hl'
        rw [y_i2l, y_i2l] at hg
        obtain ⟨y1, y2⟩ := c_pq h1 h0 hg hu' hl'
        exact T234 ts c1 c2 (by omega) (by omega) k1 k0 (n_Qs_w (n_Qs_y q e) f3 rfl rfl rfl rfl rfl rfl) j1 y1 j2 y2
  have T148 : ∀ {G : aH} {cI s0 s1 x11 : Int32} {w1 w0 : Int64}, n_tsV v a n mq → s1.toInt = (n_tS v a.toInt.toNat : Nat) → s0.toInt = (n_tN v a.toInt.toNat : Nat) → w1.toInt = (n_tn v a.toInt.toNat 1 : Nat) → w0.toInt = (n_tn v a.toInt.toNat 0 : Nat) → (n_oS v a.toInt.toNat ∧ x11 = Int32.ofInt 1 ∨ ¬ n_oS v a.toInt.toNat ∧ x11 = Int32.ofInt 0) → n_Qs v h G → aOK s_P X (d + 5) a_m146 148 [some (.ref 2), some (.int a), some (.int n), some (.int mq), some (.int cI), some (.int s1), some (.int s0), some (.long w1), none, some (.long w0), none, some (.int x11), none] [] G C S K0 := by
    intro G cI s0 s1 x11 w1 w0 ts h1 h0 k1 k0 c1 q
    refine w_go z_hl [167] [] 40 q.1 ?_
    refine ⟨fun z => fun H hH => ?_, fun z => ⟨fun z2 => fun H hH => ?_, fun z2 => fun H hH => ?_⟩⟩
    · have z1 : s0.toInt = (0 : Int32).toInt := (y_ci .eq _ _).mp z
      have z3 : s0.toInt = 0 := z1
      exact T167 ts h1 h0 k1 k0 c1 (Or.inl ⟨Or.inl (by omega), rfl⟩) (n_Qs_y q (y_st (y_rf q.1) hH (by repeat (first | exact w_nil | refine w_cons (Or.inl (y_m rfl)) ?_ | refine w_cons (Or.inr (by assumption)) ?_)) (by repeat (first | exact w_nil | refine w_cons (Or.inl (y_m rfl)) ?_ | refine w_cons (Or.inr (by assumption)) ?_))))
    · have z1 : ¬ (s0.toInt = (0 : Int32).toInt) := y_cif z
      have z3 : ¬ (s0.toInt = 0) := z1
      have z4 : w0.toInt ≠ (Int64.ofNat 0).toInt := (y_cl .ne _ _).mp z2
      rw [show (Int64.ofNat 0).toInt = 0 by decide] at z4
      exact T167 ts h1 h0 k1 k0 c1 (Or.inr ⟨fun w => by rcases w with w | w <;> omega, rfl⟩) (n_Qs_y q (y_st (y_rf q.1) hH (by repeat (first | exact w_nil | refine w_cons (Or.inl (y_m rfl)) ?_ | refine w_cons (Or.inr (by assumption)) ?_)) (by repeat (first | exact w_nil | refine w_cons (Or.inl (y_m rfl)) ?_ | refine w_cons (Or.inr (by assumption)) ?_))))
    · have z4 : ¬ (w0.toInt ≠ (Int64.ofNat 0).toInt) := y_clf z2
      have z5 : w0.toInt = 0 := Decidable.not_not.mp z4
      exact T167 ts h1 h0 k1 k0 c1 (Or.inl ⟨Or.inr (by omega), rfl⟩) (n_Qs_y q (y_st (y_rf q.1) hH (by repeat (first | exact w_nil | refine w_cons (Or.inl (y_m rfl)) ?_ | refine w_cons (Or.inr (by assumption)) ?_)) (by repeat (first | exact w_nil | refine w_cons (Or.inl (y_m rfl)) ?_ | refine w_cons (Or.inr (by assumption)) ?_))))
  have T126 : ∀ {G : aH} {cI s0 s1 r : Int32} {w1 : Int64}, n_tsV v a n mq → s1.toInt = (n_tS v a.toInt.toNat : Nat) → s0.toInt = (n_tN v a.toInt.toNat : Nat) → w1.toInt = (n_tn v a.toInt.toNat 1 : Nat) → r.toInt = (n_tn v a.toInt.toNat 0 : Nat) → n_Qs v h G → aOK s_P X (d + 5) a_m146 126 [some (.ref 2), some (.int a), some (.int n), some (.int mq), some (.int cI), some (.int s1), some (.int s0), some (.long w1), none, none, none, none, none] [.int r] G C S K0 := by
    intro G cI s0 s1 r w1 ts h1 h0 k1 k0 q
    have k0' : r.toInt64.toInt = (n_tn v a.toInt.toNat 0 : Nat) := by rw [y_i2l]; exact k0
    refine w_go z_hl [148] [] 40 q.1 ?_
    refine ⟨fun z => fun H hH => ?_, fun z => ⟨fun z2 => fun H hH => ?_, fun z2 => fun H hH => ?_⟩⟩
    · have z1 : s1.toInt = (0 : Int32).toInt := (y_ci .eq _ _).mp z
      have z3 : s1.toInt = 0 := z1
      exact T148 ts h1 h0 k1 k0' (Or.inl ⟨Or.inl (by omega), rfl⟩) (n_Qs_y q (y_st (y_rf q.1) hH (by repeat (first | exact w_nil | refine w_cons (Or.inl (y_m rfl)) ?_ | refine w_cons (Or.inr (by assumption)) ?_)) (by repeat (first | exact w_nil | refine w_cons (Or.inl (y_m rfl)) ?_ | refine w_cons (Or.inr (by assumption)) ?_))))
    · have z1 : ¬ (s1.toInt = (0 : Int32).toInt) := y_cif z
      have z3 : ¬ (s1.toInt = 0) := z1
      have z4 : w1.toInt ≠ (Int64.ofNat 0).toInt := (y_cl .ne _ _).mp z2
      rw [show (Int64.ofNat 0).toInt = 0 by decide] at z4
      exact T148 ts h1 h0 k1 k0' (Or.inr ⟨fun w => by rcases w with w | w <;> omega, rfl⟩) (n_Qs_y q (y_st (y_rf q.1) hH (by repeat (first | exact w_nil | refine w_cons (Or.inl (y_m rfl)) ?_ | refine w_cons (Or.inr (by assumption)) ?_)) (by repeat (first | exact w_nil | refine w_cons (Or.inl (y_m rfl)) ?_ | refine w_cons (Or.inr (by assumption)) ?_))))
    · have z4 : ¬ (w1.toInt ≠ (Int64.ofNat 0).toInt) := y_clf z2
      have z5 : w1.toInt = 0 := Decidable.not_not.mp z4
      exact T148 ts h1 h0 k1 k0' (Or.inl ⟨Or.inr (by omega), rfl⟩) (n_Qs_y q (y_st (y_rf q.1) hH (by repeat (first | exact w_nil | refine w_cons (Or.inl (y_m rfl)) ?_ | refine w_cons (Or.inr (by assumption)) ?_)) (by repeat (first | exact w_nil | refine w_cons (Or.inl (y_m rfl)) ?_ | refine w_cons (Or.inr (by assumption)) ?_))))
  have tb : ∀ {G : aH}, n_Qs v h G → n_hasV a (v 128) → w_a G 6 = some (0, .inl (n_ls v 700000 80)) ∧ ∀ j, j ≤ 7 → ((n_ls v 700000 80).getD (8 * a.toInt.toNat + j) 0).toInt = (n_tn v a.toInt.toNat j : Nat) := by
    intro G q hv
    obtain ⟨v1, v2⟩ := hv
    obtain ⟨lc, lo, wl, fr, ⟨-, ⟨-, -, -, q7⟩, -, -, -, -, ta, -⟩, -⟩ := q.2.2.2.1
    refine ⟨q7, fun j hj => ?_⟩
    have w := (ta (8 * a.toInt.toNat + j) (by omega)).1
    unfold y_N at w
    rw [n_ls_at (by omega)] at w ⊢
    unfold n_tn
    omega
  have T114 : ∀ {G : aH} {cI s0 s1 r : Int32}, n_tsV v a n mq → s1.toInt = (n_tS v a.toInt.toNat : Nat) → s0.toInt = (n_tN v a.toInt.toNat : Nat) → r.toInt = (n_tn v a.toInt.toNat 1 : Nat) → n_Qs v h G → aOK s_P X (d + 5) a_m146 114 [some (.ref 2), some (.int a), some (.int n), some (.int mq), some (.int cI), some (.int s1), some (.int s0), none, none, none, none, none, none] [.int r] G C S K0 := by
    intro G cI s0 s1 r ts h1 h0 k1 q
    have k1' : r.toInt64.toInt = (n_tn v a.toInt.toNat 1 : Nat) := by rw [y_i2l]; exact k1
    obtain ⟨v1, v2⟩ := id ts.1
    refine w_go z_hl [] [122] 40 q.1 ?_
    intro H hH
    have e : y_fr G H [] [] := y_st (y_rf q.1) hH (by repeat (first | exact w_nil | refine w_cons (Or.inl (y_m rfl)) ?_ | refine w_cons (Or.inr (by assumption)) ?_)) (by repeat (first | exact w_nil | refine w_cons (Or.inl (y_m rfl)) ?_ | refine w_cons (Or.inr (by assumption)) ?_))
    obtain ⟨t1, t2⟩ := tb (n_Qs_y q e) ts.1
    refine c_num (na := a.toInt.toNat) (nb := 0) e.1 (by omega) (by decide) (by omega) (by decide) t1 (fun H3 f3 => ⟨fun n e => (by cases e), ?_⟩)
    exact T126 ts h1 h0 k1' (t2 0 (by decide)) (n_Qs_y (n_Qs_y q e) f3)
  have T103 : ∀ {G : aH} {cI s1 s0 : Int32}, n_tsV v a n mq → s1.toInt = (n_tS v a.toInt.toNat : Nat) → s0.toInt = (n_tN v a.toInt.toNat : Nat) → n_Qs v h G → aOK s_P X (d + 5) a_m146 103 [some (.ref 2), some (.int a), some (.int n), some (.int mq), some (.int cI), some (.int s1), none, none, none, none, none, none, none] [.int s0] G C S K0 := by
    intro G cI s1 s0 ts h1 h0 q
    obtain ⟨v1, v2⟩ := id ts.1
    refine w_go z_hl [] [122] 40 q.1 ?_
    intro H hH
    have e : y_fr G H [] [] := y_st (y_rf q.1) hH (by repeat (first | exact w_nil | refine w_cons (Or.inl (y_m rfl)) ?_ | refine w_cons (Or.inr (by assumption)) ?_)) (by repeat (first | exact w_nil | refine w_cons (Or.inl (y_m rfl)) ?_ | refine w_cons (Or.inr (by assumption)) ?_))
    obtain ⟨t1, t2⟩ := tb (n_Qs_y q e) ts.1
    refine c_num (na := a.toInt.toNat) (nb := 1) e.1 (by omega) (by decide) (by omega) (by decide) t1 (fun H3 f3 => ⟨fun n e => (by cases e), ?_⟩)
    exact T114 ts h1 h0 (t2 1 (by decide)) (n_Qs_y (n_Qs_y q e) f3)
  have nn : ∀ {G : aH} {s : Bool}, n_Qs v h G → 0 ≤ n_nwW v (n_tc v a.toInt.toNat) s := by
    intro G s q
    obtain ⟨-, -, -, -, -, -, -, w0, -⟩ := id (n_Qs_ws q)
    exact (c_TW_b (n := (v 128).toInt.toNat) (g := n_sg v) (k := n_tc v a.toInt.toNat) (x := c_01 s) (fun i _ => w0 i)).1
  have T91 : ∀ {G : aH} {cI s1 : Int32}, n_tsV v a n mq → cI.toInt = (n_tc v a.toInt.toNat : Nat) → n_tc v a.toInt.toNat < (v 128).toInt.toNat → s1.toInt = (n_tS v a.toInt.toNat : Nat) → n_Qs v h G → aOK s_P X (d + 5) a_m146 91 [some (.ref 2), some (.int a), some (.int n), some (.int mq), some (.int cI), none, none, none, none, none, none, none, none] [.int s1] G C S K0 := by
    intro G cI s1 ts hcI cn h1 q
    refine w_go z_hl [] [37] 40 q.1 ?_
    intro H hH
    refine c_weighNowWith (d := d + 1) (s := false) (k := n_tc v a.toInt.toNat) hr hc (n_Qs_y q (y_st (y_rf q.1) hH (by repeat (first | exact w_nil | refine w_cons (Or.inl (y_m rfl)) ?_ | refine w_cons (Or.inr (by assumption)) ?_)) (by repeat (first | exact w_nil | refine w_cons (Or.inl (y_m rfl)) ?_ | refine w_cons (Or.inr (by assumption)) ?_)))) hcI cn (fun H3 r q3 hr3 => ⟨fun n e => (by cases e), ?_⟩)
    exact T103 ts h1 (by have := nn (s := false) q3; unfold n_tN; omega) q3
  have T81 : ∀ {G : aH} {cI : Int32}, n_tsV v a n mq → cI.toInt = (n_tc v a.toInt.toNat : Nat) → n_tc v a.toInt.toNat < (v 128).toInt.toNat → n_Qs v h G → aOK s_P X (d + 5) a_m146 81 [some (.ref 2), some (.int a), some (.int n), some (.int mq), some (.int cI), none, none, none, none, none, none, none, none] [] G C S K0 := by
    intro G cI ts hcI cn q
    refine w_go z_hl [] [37] 40 q.1 ?_
    intro H hH
    refine c_weighNowWith (d := d + 1) (s := true) (k := n_tc v a.toInt.toNat) hr hc (n_Qs_y q (y_st (y_rf q.1) hH (by repeat (first | exact w_nil | refine w_cons (Or.inl (y_m rfl)) ?_ | refine w_cons (Or.inr (by assumption)) ?_)) (by repeat (first | exact w_nil | refine w_cons (Or.inl (y_m rfl)) ?_ | refine w_cons (Or.inr (by assumption)) ?_)))) hcI cn (fun H3 r q3 hr3 => ⟨fun n e => (by cases e), ?_⟩)
    exact T91 ts hcI cn (by have := nn (s := true) q3; unfold n_tS; omega) q3
  have T69 : ∀ {G : aH} {cI : Int32}, n_tsV v a n mq → cI.toInt = (n_tc v a.toInt.toNat : Nat) → n_tc v a.toInt.toNat < (v 128).toInt.toNat → y_fr h G [] [] → aOK s_P X (d + 5) a_m146 69 [some (.ref 2), some (.int a), some (.int n), some (.int mq), some (.int cI), none, none, none, none, none, none, none, none] [.int (y_01 true)] G C S K0 := by
    intro G cI ts hcI cn e
    refine w_go z_hl [] [29] 30 e.1 ?_
    refine ⟨fun _ => fun H hH => ?_, fun z => absurd z (by decide)⟩
    have e2 : y_fr h H [] [] := y_st e hH (by repeat (first | exact w_nil | refine w_cons (Or.inl (y_m rfl)) ?_ | refine w_cons (Or.inr (by assumption)) ?_)) (by repeat (first | exact w_nil | refine w_cons (Or.inl (y_m rfl)) ?_ | refine w_cons (Or.inr (by assumption)) ?_))
    refine c_refreshQ (d := d + 2) (v := v) e2.1 (y_jfr y_JA_x e2 rfl rfl hJ) (n_Wv_p h H (fun k _ => e2.2.1 k List.not_mem_nil) (fun o _ => e2.2.2 o List.not_mem_nil) hW) (fun H3 q3 => ⟨fun n e => (by cases e), ?_⟩)
    exact T81 ts hcI cn (n_Qs_l hr e2 q3)
  have T69n : ∀ {G : aH} {cI : Int32}, ¬ n_tsV v a n mq → y_fr h G [] [] → aOK s_P X (d + 5) a_m146 69 [some (.ref 2), some (.int a), some (.int n), some (.int mq), some (.int cI), none, none, none, none, none, none, none, none] [.int (y_01 false)] G C S K0 := by
    intro G cI ts e
    refine w_go z_hl [] [29] 30 e.1 ?_
    exact ⟨fun z => absurd z (by decide), fun _ => fun H hH => no ts H (y_st e hH (by repeat (first | exact w_nil | refine w_cons (Or.inl (y_m rfl)) ?_ | refine w_cons (Or.inr (by assumption)) ?_)) (by repeat (first | exact w_nil | refine w_cons (Or.inl (y_m rfl)) ?_ | refine w_cons (Or.inr (by assumption)) ?_)))⟩
  have T57 : ∀ {G : aH} {cI : Int32}, n_hasV a (v 128) ∧ n_fre v a.toInt.toNat → (1 ≤ n.toInt ∧ n.toInt ≤ 6) → (0 ≤ mq.toInt ∧ mq.toInt ≤ 1) → y_pl (n_lb v a.toInt.toNat) 10 = 1 → cI.toInt = (n_tc v a.toInt.toNat : Nat) → n_tc v a.toInt.toNat < (v 128).toInt.toNat → y_fr h G [] [] → aOK s_P X (d + 5) a_m146 57 [some (.ref 2), some (.int a), some (.int n), some (.int mq), some (.int cI), none, none, none, none, none, none, none, none] [.int (y_01 true)] G C S K0 := by
    intro G cI hv hn hmk pl hcI cn e
    have ec : cI.toInt.toNat = n_tc v a.toInt.toNat := by omega
    refine w_go z_hl [] [60] 30 e.1 ?_
    refine ⟨fun z => absurd z (by decide), fun _ => fun H hH => ?_⟩
    have e2 : y_fr h H [] [] := y_st e hH (by repeat (first | exact w_nil | refine w_cons (Or.inl (y_m rfl)) ?_ | refine w_cons (Or.inr (by assumption)) ?_)) (by repeat (first | exact w_nil | refine w_cons (Or.inl (y_m rfl)) ?_ | refine w_cons (Or.inr (by assumption)) ?_))
    refine c_look (d := d + 3) (a := cI) hr hc e2 (fun w H3 f3 => ⟨fun n e => (by cases e), ?_⟩) (fun w H3 f3 => ⟨fun n e => (by cases e), ?_⟩)
    · rw [ec] at w
      exact T69 ⟨hv.1, hn, hmk, pl, hv.2, w.2⟩ hcI cn f3
    · rw [ec] at w
      exact T69n (fun ts => w ⟨⟨by omega, by omega⟩, ts.2.2.2.2.2⟩) f3
  have T57n : ∀ {G : aH} {cI : Int32}, ¬ n_tsV v a n mq → y_fr h G [] [] → aOK s_P X (d + 5) a_m146 57 [some (.ref 2), some (.int a), some (.int n), some (.int mq), some (.int cI), none, none, none, none, none, none, none, none] [.int (y_01 false)] G C S K0 := by
    intro G cI ts e
    refine w_go z_hl [] [60] 30 e.1 ?_
    exact ⟨fun _ => fun H hH => no ts H (y_st e hH (by repeat (first | exact w_nil | refine w_cons (Or.inl (y_m rfl)) ?_ | refine w_cons (Or.inr (by assumption)) ?_)) (by repeat (first | exact w_nil | refine w_cons (Or.inl (y_m rfl)) ?_ | refine w_cons (Or.inr (by assumption)) ?_))), fun z => absurd z (by decide)⟩
  have T41 : ∀ {G : aH} {cI : Int32}, n_hasV a (v 128) → (1 ≤ n.toInt ∧ n.toInt ≤ 6) → (0 ≤ mq.toInt ∧ mq.toInt ≤ 1) → y_pl (n_lb v a.toInt.toNat) 10 = 1 → cI.toInt = (n_tc v a.toInt.toNat : Nat) → n_tc v a.toInt.toNat < (v 128).toInt.toNat → y_fr h G [] [] → aOK s_P X (d + 5) a_m146 41 [some (.ref 2), some (.int a), some (.int n), some (.int mq), none, none, none, none, none, none, none, none, none] [.int cI] G C S K0 := by
    intro G cI hv hn hmk pl hcI cn e
    refine w_go z_hl [] [60] 30 e.1 ?_
    refine ⟨fun z => ?_, fun _ => fun H hH => ?_⟩
    · have z1 : cI.toInt = (Int32.ofInt (-1)).toInt := (y_ci .eq _ _).mp z
      have z2 : cI.toInt = -1 := z1
      omega
    · refine c_look (d := d + 3) (a := a) hr hc (y_st e hH (by repeat (first | exact w_nil | refine w_cons (Or.inl (y_m rfl)) ?_ | refine w_cons (Or.inr (by assumption)) ?_)) (by repeat (first | exact w_nil | refine w_cons (Or.inl (y_m rfl)) ?_ | refine w_cons (Or.inr (by assumption)) ?_))) (fun w H3 f3 => ⟨fun n e => (by cases e), ?_⟩) (fun w H3 f3 => ⟨fun n e => (by cases e), ?_⟩)
      · exact T57 w hn hmk pl hcI cn f3
      · exact T57n (fun ts => w ⟨ts.1, ts.2.2.2.2.1⟩) f3
  have T41n : ∀ {G : aH}, ¬ n_tsV v a n mq → y_fr h G [] [] → aOK s_P X (d + 5) a_m146 41 [some (.ref 2), some (.int a), some (.int n), some (.int mq), none, none, none, none, none, none, none, none, none] [.int (Int32.ofInt (-1))] G C S K0 := by
    intro G ts e
    refine w_go z_hl [] [60] 30 e.1 ?_
    exact ⟨fun _ => fun H hH => no ts H (y_st e hH (by repeat (first | exact w_nil | refine w_cons (Or.inl (y_m rfl)) ?_ | refine w_cons (Or.inr (by assumption)) ?_)) (by repeat (first | exact w_nil | refine w_cons (Or.inl (y_m rfl)) ?_ | refine w_cons (Or.inr (by assumption)) ?_))), fun z => absurd z (by decide)⟩
  have T8 : ∀ {G : aH}, n_hasV a (v 128) → y_fr h G [] [] → aOK s_P X (d + 5) a_m146 8 [some (.ref 2), some (.int a), some (.int n), some (.int mq), none, none, none, none, none, none, none, none, none] [.int (y_01 true)] G C S K0 := by
    intro G hv e
    have k1 : (Int32.ofInt 1).toInt = 1 := by decide
    have k6 : (Int8.ofInt 6).toInt32.toInt = 6 := by decide
    have k0 : (0 : Int32).toInt = 0 := by decide
    refine w_go z_hl [] [147] 60 e.1 ?_
    refine ⟨fun z => absurd z (by decide), fun _ => ⟨fun z => fun H hH => ?_, fun z => ⟨fun z2 => fun H hH => ?_, fun z2 => ⟨fun z3 => fun H hH => ?_, fun z3 => ⟨fun z4 => fun H hH => ?_, fun z4 => fun H hH => ?_⟩⟩⟩⟩⟩
    · have y1 : n.toInt < (Int32.ofInt 1).toInt := (y_ci .lt _ _).mp z
      exact no (fun ts => by have := ts.2.1.1; omega) H (y_st e hH (by repeat (first | exact w_nil | refine w_cons (Or.inl (y_m rfl)) ?_ | refine w_cons (Or.inr (by assumption)) ?_)) (by repeat (first | exact w_nil | refine w_cons (Or.inl (y_m rfl)) ?_ | refine w_cons (Or.inr (by assumption)) ?_)))
    · have y1 : (Int8.ofInt 6).toInt32.toInt < n.toInt := (y_ci .gt _ _).mp z2
      exact no (fun ts => by have := ts.2.1.2; omega) H (y_st e hH (by repeat (first | exact w_nil | refine w_cons (Or.inl (y_m rfl)) ?_ | refine w_cons (Or.inr (by assumption)) ?_)) (by repeat (first | exact w_nil | refine w_cons (Or.inl (y_m rfl)) ?_ | refine w_cons (Or.inr (by assumption)) ?_)))
    · have y1 : mq.toInt < (0 : Int32).toInt := (y_ci .lt _ _).mp z3
      exact no (fun ts => by have := ts.2.2.1.1; omega) H (y_st e hH (by repeat (first | exact w_nil | refine w_cons (Or.inl (y_m rfl)) ?_ | refine w_cons (Or.inr (by assumption)) ?_)) (by repeat (first | exact w_nil | refine w_cons (Or.inl (y_m rfl)) ?_ | refine w_cons (Or.inr (by assumption)) ?_)))
    · have y1 : ¬ (n.toInt < (Int32.ofInt 1).toInt) := y_cif z
      have y2 : ¬ ((Int8.ofInt 6).toInt32.toInt < n.toInt) := y_cif z2
      have y3 : ¬ (mq.toInt < (0 : Int32).toInt) := y_cif z3
      have y4 : mq.toInt ≤ (Int32.ofInt 1).toInt := (y_ci .le _ _).mp z4
      have e2 : y_fr h H [] [] := y_st e hH (by repeat (first | exact w_nil | refine w_cons (Or.inl (y_m rfl)) ?_ | refine w_cons (Or.inr (by assumption)) ?_)) (by repeat (first | exact w_nil | refine w_cons (Or.inl (y_m rfl)) ?_ | refine w_cons (Or.inr (by assumption)) ?_))
      refine c_only hW e2 hv (fun pl H3 r f3 hr3 => ⟨fun n e => (by cases e), ?_⟩) (fun pl H3 f3 => ⟨fun n e => (by cases e), ?_⟩)
      · obtain ⟨lc, lo, wl, fr, ⟨-, -, ⟨n0, n10⟩, -, -, ks, -⟩, -⟩ := id hW
        obtain ⟨v1, v2⟩ := id hv
        obtain ⟨u1, -⟩ := ks a.toInt.toNat (by omega)
        rw [n_Nn (by omega)] at u1
        obtain ⟨f1, -⟩ := c_lg_f (b := n_lb v a.toInt.toNat) (Nat.lt_of_lt_of_le u1 (n_p2 (show a.toInt.toNat ≤ 10 by omega))) pl u1
        have f2 : n_tc v a.toInt.toNat < a.toInt.toNat := f1
        exact T41 hv ⟨by omega, by omega⟩ ⟨by omega, by omega⟩ pl hr3 (by omega) f3
      · exact T41n (fun ts => pl ts.2.2.2.1) f3
    · have y4 : ¬ (mq.toInt ≤ (Int32.ofInt 1).toInt) := y_cif z4
      exact no (fun ts => by have := ts.2.2.1.2; omega) H (y_st e hH (by repeat (first | exact w_nil | refine w_cons (Or.inl (y_m rfl)) ?_ | refine w_cons (Or.inr (by assumption)) ?_)) (by repeat (first | exact w_nil | refine w_cons (Or.inl (y_m rfl)) ?_ | refine w_cons (Or.inr (by assumption)) ?_)))
  have T8n : ∀ {G : aH}, ¬ n_hasV a (v 128) → y_fr h G [] [] → aOK s_P X (d + 5) a_m146 8 [some (.ref 2), some (.int a), some (.int n), some (.int mq), none, none, none, none, none, none, none, none, none] [.int (y_01 false)] G C S K0 := by
    intro G hv e
    refine w_go z_hl [] [147] 60 e.1 ?_
    exact ⟨fun _ => fun H hH => no (fun ts => hv ts.1) H (y_st e hH (by repeat (first | exact w_nil | refine w_cons (Or.inl (y_m rfl)) ?_ | refine w_cons (Or.inr (by assumption)) ?_)) (by repeat (first | exact w_nil | refine w_cons (Or.inl (y_m rfl)) ?_ | refine w_cons (Or.inr (by assumption)) ?_))), fun z => absurd z (by decide)⟩
  refine w_go z_hl [] [19] 30 hr ?_
  intro H hH
  have e : y_fr h H [] [] := y_st (y_rf hr) hH (by repeat (first | exact w_nil | refine w_cons (Or.inl (y_m rfl)) ?_ | refine w_cons (Or.inr (by assumption)) ?_)) (by repeat (first | exact w_nil | refine w_cons (Or.inl (y_m rfl)) ?_ | refine w_cons (Or.inr (by assumption)) ?_))
  refine c_hasN (v := a) e.1 ((y_fe e rfl).trans g0) (fun v1 v2 H2 h2 => ⟨fun n e => (by cases e), ?_⟩) (fun nv H2 h2 => ⟨fun n e => (by cases e), ?_⟩)
  · exact T8 ⟨v1, v2⟩ (y_sq e h2 rfl rfl)
  · exact T8n nv (y_sq e h2 rfl rfl)
/-- the reference's fraction in lowest terms -/
theorem f_low {h : aH} (hr : w_hr z_D h) {n m : Int64} {N M : Nat} (hn : n.toInt = N) (hm : m.toInt = M) (m1 : 1 ≤ M) (hk : ∀ (H : aH) (u l : Int64), y_fr h H [19587, 19588] [] → w_f H 19587 = some (.long u) → u.toInt = ((N / Nat.gcd N M : Nat) : Int) → w_f H 19588 = some (.long l) → l.toInt = ((M / Nat.gcd N M : Nat) : Int) → K0 none H C S) : aOK s_P X (d + 1) a_m194 0 [some (.ref 155), some (.long n), none, some (.long m), none, none, none] [] h C S K0 := by
  refine y_lowest (n := n) (m := m) hr (by omega) (by omega) (fun k u' l' H9 hk9 hk1 hu9 hl9 hl91 hrel9 => ?_)
  have f9 : y_fr h H9 [19587, 19588] [] := y_st (y_mo (y_rf hr) rfl rfl) hrel9 (by repeat (first | exact w_nil | refine w_cons (Or.inl (y_m rfl)) ?_ | refine w_cons (Or.inr (by assumption)) ?_)) (by repeat (first | exact w_nil | refine w_cons (Or.inl (y_m rfl)) ?_ | refine w_cons (Or.inr (by assumption)) ?_))
  obtain ⟨y1, y2⟩ := c_pq hn hm hk9 hu9 hl9
  exact hk H9 u' l' f9 (hrel9.2.1 19587 _ rfl) y1 (hrel9.2.1 19588 _ rfl) y2
theorem f_ntz {h : aH} (hr : w_hr z_D h) {x : Int32} {b : Nat} (hx : x.toInt = b) (hb : b < 1024) (h1 : y_pl b 10 = 1) (hK : ∀ (r : Int32) (H : aH), y_fr h H [] [] → r.toInt = c_lg b → K0 (some (.int r)) H C S) : aOK s_P X d a_m269 0 [some (.int x), none] [] h C S K0 := by
  have e := (y_ofNat hx (by omega)).1
  subst e
  rcases y_one hb h1 with rfl | rfl | rfl | rfl | rfl | rfl | rfl | rfl | rfl | rfl <;>
  · refine w_go z_hl [] [] 80 hr ?_
    repeat (first | refine ⟨fun q => absurd q (by decide), fun _ => ?_⟩ | refine ⟨fun _ => ?_, fun q => absurd q (by decide)⟩)
    intro H hH
    exact hK _ H (y_st (y_rf hr) hH (by repeat (first | exact w_nil | refine w_cons (Or.inl (y_m rfl)) ?_ | refine w_cons (Or.inr (by assumption)) ?_)) (by repeat (first | exact w_nil | refine w_cons (Or.inl (y_m rfl)) ?_ | refine w_cons (Or.inr (by assumption)) ?_))) (by decide)
theorem f_test_loop {a n mq cI : Int32} {k : Nat} (n1 : 1 ≤ n.toInt) (n6 : n.toInt ≤ 6) (m0 : 0 ≤ mq.toInt) (m1 : mq.toInt ≤ 1) {wi wo t1 t0 pI qI : Int64} {x13 x14 : Int32} (hp : pI.toInt = (n_tp v k : Nat)) (hq : qI.toInt = (n_tq v k : Nat)) (hN : 1 ≤ n_tN v k) (h0 : 1 ≤ n_tn v k 0) (hS : n_tS v k ≤ 1000000000000000000) (hX : n_tN v k ≤ 1000000000000000000) : ∀ (t : Nat) (h : aH) (uI lI : Int64) (kI g : Int32) (i u l : Nat), w_hr z_D h → w_f h 19587 = some (.long uI) → uI.toInt = u → w_f h 19588 = some (.long lI) → lI.toInt = l → 1 ≤ l → w_f h 19589 = some (.int g) → (n_it v k i = some (u, l) ∧ g = Int32.ofInt 0 ∨ n_it v k i = none ∧ g = Int32.ofInt 1) → kI.toInt = i → i + t = n_tM n mq →
    (∀ (H : aH) (uI lI : Int64) (kI g : Int32) (u l : Nat), y_fr h H [19587, 19588, 19589] [] → w_f H 19587 = some (.long uI) → uI.toInt = u → w_f H 19588 = some (.long lI) → lI.toInt = l → 1 ≤ l → w_f H 19589 = some (.int g) → (n_it v k (n_tM n mq) = some (u, l) ∧ g = Int32.ofInt 0 ∨ n_it v k (n_tM n mq) = none ∧ g = Int32.ofInt 1) → aOK s_P X (d + 3) a_m268 312 [some (.ref 155), some (.int a), some (.int n), some (.int mq), some (.int cI), some (.long wi), none, some (.long wo), none, some (.long t1), none, some (.long t0), none, some (.int x13), some (.int x14), some (.long pI), none, some (.long qI), none, some (.int kI)] [] H C S K0) → aOK s_P X (d + 3) a_m268 283 [some (.ref 155), some (.int a), some (.int n), some (.int mq), some (.int cI), some (.long wi), none, some (.long wo), none, some (.long t1), none, some (.long t0), none, some (.int x13), some (.int x14), some (.long pI), none, some (.long qI), none, some (.int kI)] [] h C S K0 := by
  intro t
  induction t with
  | zero =>
    intro h uI lI kI g i u l hr f1 hu f2 hl l1 f3 inv hk ht hE
    have out : ∀ {H : aH}, y_fr h H [] [] → aOK s_P X (d + 3) a_m268 312 [some (.ref 155), some (.int a), some (.int n), some (.int mq), some (.int cI), some (.long wi), none, some (.long wo), none, some (.long t1), none, some (.long t0), none, some (.int x13), some (.int x14), some (.long pI), none, some (.long qI), none, some (.int kI)] [] H C S K0 := by
      intro H e
      exact hE H uI lI kI g u l (y_mo e rfl rfl) ((y_fe e rfl).trans f1) hu ((y_fe e rfl).trans f2) hl l1 ((y_fe e rfl).trans f3) (by rw [← show i = n_tM n mq by omega]; exact inv)
    refine w_go z_hl [283, 312] [215] 40 hr ?_
    refine ⟨fun _ => fun H hH => out (y_st (y_rf hr) hH (by repeat (first | exact w_nil | refine w_cons (Or.inl (y_m rfl)) ?_ | refine w_cons (Or.inr (by assumption)) ?_)) (by repeat (first | exact w_nil | refine w_cons (Or.inl (y_m rfl)) ?_ | refine w_cons (Or.inr (by assumption)) ?_))), fun q => ⟨fun q2 => ?_, fun q2 => ⟨fun _ => fun H hH => out (y_st (y_rf hr) hH (by repeat (first | exact w_nil | refine w_cons (Or.inl (y_m rfl)) ?_ | refine w_cons (Or.inr (by assumption)) ?_)) (by repeat (first | exact w_nil | refine w_cons (Or.inl (y_m rfl)) ?_ | refine w_cons (Or.inr (by assumption)) ?_))), fun q3 => ?_⟩⟩⟩
    · have z1 : ¬ (n.toInt ≤ kI.toInt) := y_cif q
      have z2 : mq.toInt = (0 : Int32).toInt := (y_ci .eq _ _).mp q2
      have z3 : mq.toInt = 0 := z2
      have eM : n_tM n mq = n.toInt.toNat := if_neg (by omega)
      omega
    · have z2 : ¬ (mq.toInt = (0 : Int32).toInt) := y_cif q2
      have z3 : ¬ (mq.toInt = 0) := z2
      have z4 : ¬ (kI.toInt ≠ (0 : Int32).toInt) := y_cif q3
      have z5 : kI.toInt = 0 := Decidable.not_not.mp z4
      have eM : n_tM n mq = 1 := if_pos (by omega)
      omega
  | succ t ih =>
    intro h uI lI kI g i u l hr f1 hu f2 hl l1 f3 inv hk ht hE
    have ik : (kI + Int32.ofInt 1).toInt = ((i + 1 : Nat) : Int) := by
      have : n_tM n mq ≤ 6 := by
        unfold n_tM
        split <;> omega
      rw [y_inc (by omega), hk]
      rfl
    have T306 : ∀ {G : aH} {uJ lJ : Int64} {u' l' : Nat} {g' : Int32}, y_fr h G [19587, 19588, 19589] [] → w_f G 19587 = some (.long uJ) → uJ.toInt = (u' : Int) → w_f G 19588 = some (.long lJ) → lJ.toInt = (l' : Int) → 1 ≤ l' → w_f G 19589 = some (.int g') → (n_it v k (i + 1) = some (u', l') ∧ g' = Int32.ofInt 0 ∨ n_it v k (i + 1) = none ∧ g' = Int32.ofInt 1) → aOK s_P X (d + 3) a_m268 306 [some (.ref 155), some (.int a), some (.int n), some (.int mq), some (.int cI), some (.long wi), none, some (.long wo), none, some (.long t1), none, some (.long t0), none, some (.int x13), some (.int x14), some (.long pI), none, some (.long qI), none, some (.int kI)] [] G C S K0 := by
      intro G uJ lJ u' l' g' e a1 a2 a3 a4 a5 a6 a7
      refine w_go z_hl [283] [] 40 e.1 ?_
      intro H hH
      have f : y_fr G H [] [] := y_st (y_rf e.1) hH (by repeat (first | exact w_nil | refine w_cons (Or.inl (y_m rfl)) ?_ | refine w_cons (Or.inr (by assumption)) ?_)) (by repeat (first | exact w_nil | refine w_cons (Or.inl (y_m rfl)) ?_ | refine w_cons (Or.inr (by assumption)) ?_))
      have e2 := y_sq e f rfl rfl
      exact ih H uJ lJ _ g' (i + 1) u' l' e2.1 ((y_fe f rfl).trans a1) a2 ((y_fe f rfl).trans a3) a4 a5 ((y_fe f rfl).trans a6) a7 ik (by omega) (fun G' a b c' d' u'' l'' v1 v2 v3 v4 v5 v6 v7 v8 => hE G' a b c' d' u'' l'' (y_sq e2 v1 rfl rfl) v2 v3 v4 v5 v6 v7 v8)
    refine w_go z_hl [283, 312] [215] 40 hr ?_
    refine ⟨fun q => ?_, fun q => ⟨fun q2 => fun H hH => ?_, fun q2 => ⟨fun q3 => ?_, fun q3 => fun H hH => ?_⟩⟩⟩
    · have z1 : n.toInt ≤ kI.toInt := (y_ci .ge _ _).mp q
      have : n_tM n mq ≤ n.toInt.toNat := by
        unfold n_tM
        split <;> omega
      omega
    · have e : y_fr h H [] [] := y_st (y_rf hr) hH (by repeat (first | exact w_nil | refine w_cons (Or.inl (y_m rfl)) ?_ | refine w_cons (Or.inr (by assumption)) ?_)) (by repeat (first | exact w_nil | refine w_cons (Or.inl (y_m rfl)) ?_ | refine w_cons (Or.inr (by assumption)) ?_))
      refine f_times (p := n_tp v k) (q := n_tq v k) e.1 ((y_fe e rfl).trans f1) ((y_fe e rfl).trans f2) hu hl hp hq l1 (n_tq_1 h0) (fun x y H2 uJ lJ cm e2 g1 g2 g3 g4 => ⟨fun n e => (by cases e), ?_⟩) (fun cm H2 e2 g1 g2 g3 => ⟨fun n e => (by cases e), ?_⟩)
      · refine T306 (y_sq (y_mo e rfl rfl) e2 rfl rfl) g1 g2 g3 g4 (Nat.div_pos (Nat.gcd_le_right _ (by have := c_tmv_1 l1 (n_tq_1 h0) cm; omega)) (Nat.gcd_pos_of_pos_right _ (by have := c_tmv_1 l1 (n_tq_1 h0) cm; omega))) ((y_fe e2 rfl).trans ((y_fe e rfl).trans f3)) ?_
        rcases inv with ⟨j, rfl⟩ | ⟨j, rfl⟩
        · have j2 : n_it v k (i + 1) = some (x, y) := by rw [n_it_s j]; exact cm
          obtain ⟨c1, -⟩ := n_it_c hN h0 hS hX j2
          have c2 : Nat.gcd x y = 1 := c1
          refine Or.inl ⟨?_, rfl⟩
          rw [c2, Nat.div_one, Nat.div_one]
          exact j2
        · exact Or.inr ⟨n_it_n j, rfl⟩
      · refine T306 (u' := 0) (l' := 1) (y_sq (y_mo e rfl rfl) e2 rfl rfl) g1 (by decide) g2 (by decide) (by decide) g3 ?_
        rcases inv with ⟨j, rfl⟩ | ⟨j, rfl⟩
        · exact Or.inr ⟨by rw [n_it_s j]; exact cm, rfl⟩
        · exact Or.inr ⟨n_it_n j, rfl⟩
    · have z2 : ¬ (mq.toInt = (0 : Int32).toInt) := y_cif q2
      have z3 : ¬ (mq.toInt = 0) := z2
      have z4 : kI.toInt ≠ (0 : Int32).toInt := (y_ci .ne _ _).mp q3
      have z5 : kI.toInt ≠ 0 := z4
      have eM : n_tM n mq = 1 := if_pos (by omega)
      omega
    · have e : y_fr h H [] [] := y_st (y_rf hr) hH (by repeat (first | exact w_nil | refine w_cons (Or.inl (y_m rfl)) ?_ | refine w_cons (Or.inr (by assumption)) ?_)) (by repeat (first | exact w_nil | refine w_cons (Or.inl (y_m rfl)) ?_ | refine w_cons (Or.inr (by assumption)) ?_))
      refine f_times (p := n_tp v k) (q := n_tq v k) e.1 ((y_fe e rfl).trans f1) ((y_fe e rfl).trans f2) hu hl hp hq l1 (n_tq_1 h0) (fun x y H2 uJ lJ cm e2 g1 g2 g3 g4 => ⟨fun n e => (by cases e), ?_⟩) (fun cm H2 e2 g1 g2 g3 => ⟨fun n e => (by cases e), ?_⟩)
      · refine T306 (y_sq (y_mo e rfl rfl) e2 rfl rfl) g1 g2 g3 g4 (Nat.div_pos (Nat.gcd_le_right _ (by have := c_tmv_1 l1 (n_tq_1 h0) cm; omega)) (Nat.gcd_pos_of_pos_right _ (by have := c_tmv_1 l1 (n_tq_1 h0) cm; omega))) ((y_fe e2 rfl).trans ((y_fe e rfl).trans f3)) ?_
        rcases inv with ⟨j, rfl⟩ | ⟨j, rfl⟩
        · have j2 : n_it v k (i + 1) = some (x, y) := by rw [n_it_s j]; exact cm
          obtain ⟨c1, -⟩ := n_it_c hN h0 hS hX j2
          have c2 : Nat.gcd x y = 1 := c1
          refine Or.inl ⟨?_, rfl⟩
          rw [c2, Nat.div_one, Nat.div_one]
          exact j2
        · exact Or.inr ⟨n_it_n j, rfl⟩
      · refine T306 (u' := 0) (l' := 1) (y_sq (y_mo e rfl rfl) e2 rfl rfl) g1 (by decide) g2 (by decide) (by decide) g3 ?_
        rcases inv with ⟨j, rfl⟩ | ⟨j, rfl⟩
        · exact Or.inr ⟨by rw [n_it_s j]; exact cm, rfl⟩
        · exact Or.inr ⟨n_it_n j, rfl⟩
theorem f_test_tail {h : aH} (hr : w_hr z_D h) {a n mq cI : Int32} {wi wo t1 t0 : Int64} {k : Nat} (n1 : 1 ≤ n.toInt) (n6 : n.toInt ≤ 6) (m0 : 0 ≤ mq.toInt) (m1 : mq.toInt ≤ 1) (h1 : wi.toInt = (n_tS v k : Nat)) (h0 : wo.toInt = (n_tN v k : Nat)) (k1 : t1.toInt = (n_tn v k 1 : Nat)) (k0 : t0.toInt = (n_tn v k 0 : Nat)) (w8 : wi.toInt ≤ 100000000) (o8 : wo.toInt ≤ 100000000) (hk : ∀ (r : Int32) (H : aH), y_fr h H [19585, 19587, 19588, 19589] [154] → r = n_tr v k (n_tM n mq) → K0 (some (.int r)) H C S) : aOK s_P X (d + 3) a_m268 163 [some (.ref 155), some (.int a), some (.int n), some (.int mq), some (.int cI), some (.long wi), none, some (.long wo), none, some (.long t1), none, some (.long t0), none, none, none, none, none, none, none, none] [] h C S K0 := by
  have T364 : ∀ {G : aH} {ls : aL}, n_tr v k (n_tM n mq) = Int32.ofInt 0 → y_fr h G [19585, 19587, 19588, 19589] [154] → aOK s_P X (d + 3) a_m268 364 ls [] G C S K0 := by
    intro G ls hz e
    refine w_go z_hl [] [] 40 e.1 ?_
    intro H hH
    exact hk _ H (y_st e hH (by repeat (first | exact w_nil | refine w_cons (Or.inl (y_m rfl)) ?_ | refine w_cons (Or.inr (by assumption)) ?_)) (by repeat (first | exact w_nil | refine w_cons (Or.inl (y_m rfl)) ?_ | refine w_cons (Or.inr (by assumption)) ?_))) hz.symm
  have T355 : ∀ {G : aH} {o13 o14 o15 o17 o19 : Option Value}, n_tr v k (n_tM n mq) = Int32.ofInt 0 → y_fr h G [19585, 19587, 19588, 19589] [154] → aOK s_P X (d + 3) a_m268 355 [some (.ref 155), some (.int a), some (.int n), some (.int mq), some (.int cI), some (.long wi), none, some (.long wo), none, some (.long t1), none, some (.long t0), none, o13, o14, o15, none, o17, none, o19] [] G C S K0 := by
    intro G o13 o14 o15 o17 o19 hz e
    refine w_go z_hl [] [196] 30 e.1 ?_
    refine ⟨rfl, y_zini (by decide) (by decide), fun H hH => ?_⟩
    have e2 := y_st e hH (by repeat (first | exact w_nil | refine w_cons (Or.inl (y_m rfl)) ?_ | refine w_cons (Or.inr (by assumption)) ?_)) (by repeat (first | exact w_nil | refine w_cons (Or.inl (y_m rfl)) ?_ | refine w_cons (Or.inr (by assumption)) ?_))
    refine y_tells e2.1 (hH.2.1 19585 _ rfl) (by decide) (by decide) (fun H2 r2 e3 _ _ => ⟨fun n e => (by cases e), ?_⟩)
    exact T364 hz (y_sq e2 e3 rfl rfl)
  have T338 : ∀ {G : aH} {u l : Int64} {o13 o14 o15 o17 o19 : Option Value}, n_tr v k (n_tM n mq) = Int32.ofInt 0 → y_fr h G [19585, 19587, 19588, 19589] [154] → w_f G 19587 = some (.long u) → w_f G 19588 = some (.long l) → 0 ≤ u.toInt → u.toInt ≤ 1000000000000000000 → 1 ≤ l.toInt → l.toInt ≤ 1000000000000000000 → aOK s_P X (d + 3) a_m268 338 [some (.ref 155), some (.int a), some (.int n), some (.int mq), some (.int cI), some (.long wi), none, some (.long wo), none, some (.long t1), none, some (.long t0), none, o13, o14, o15, none, o17, none, o19] [] G C S K0 := by
    intro G u l o13 o14 o15 o17 o19 hz e f1 f2 u0 u1 l0 l1
    have s1 : (u + l).toInt = u.toInt + l.toInt := y_add (by omega) (by omega)
    refine w_go z_hl [] [194] 40 e.1 ?_
    intro y hy _ _
    obtain rfl := y_fl f1 hy
    intro z hz' _ _
    obtain rfl := y_fl f2 hz'
    intro H hH
    have e2 := y_st e hH (by repeat (first | exact w_nil | refine w_cons (Or.inl (y_m rfl)) ?_ | refine w_cons (Or.inr (by assumption)) ?_)) (by repeat (first | exact w_nil | refine w_cons (Or.inl (y_m rfl)) ?_ | refine w_cons (Or.inr (by assumption)) ?_))
    refine q_lowest (n := u) (m := u + l) e2.1 (by omega) (by omega) (fun u l H2 e3 _ _ _ _ _ _ _ => ⟨fun n e => (by cases e), ?_⟩)
    exact T355 hz (y_sq e2 e3 rfl rfl)
  have T319 : ∀ {G : aH} {uI lI : Int64} {u l : Nat} {o13 o14 o15 o17 o19 : Option Value}, ¬ n_oS v k → ¬ n_oN v k → n_it v k (n_tM n mq) = some (u, l) → y_fr h G [19585, 19587, 19588, 19589] [154] → w_f G 19587 = some (.long uI) → uI.toInt = u → w_f G 19588 = some (.long lI) → lI.toInt = l → aOK s_P X (d + 3) a_m268 319 [some (.ref 155), some (.int a), some (.int n), some (.int mq), some (.int cI), some (.long wi), none, some (.long wo), none, some (.long t1), none, some (.long t0), none, o13, o14, o15, none, o17, none, o19] [] G C S K0 := by
    intro G uI lI u l o13 o14 o15 o17 o19 z1 z2 hj e f1 hu f2 hl
    have z3 : n_tN v k ≠ 0 ∧ n_tn v k 0 ≠ 0 := ⟨fun w => z2 (Or.inl w), fun w => z2 (Or.inr w)⟩
    obtain ⟨-, c2, c3, c4⟩ := n_it_c (v := v) (k := k) (by omega) (by omega) (by omega) (by omega) hj
    have s1 : (uI + lI).toInt = ((u + l : Nat) : Int) := y_add64 _ hu hl rfl (by omega)
    have tr : n_tr v k (n_tM n mq) = if 1000000000000000000 < u + l then n_k9 else Int32.ofInt 0 := by
      unfold n_tr
      rw [if_neg (fun z => z1 z.1), if_neg (fun z => z.elim z1 z2)]
      exact n_ta_s hj
    refine w_go z_hl [338] [] 40 e.1 ?_
    intro y hy _ _
    obtain rfl := y_fl f1 hy
    intro z hz _ _
    obtain rfl := y_fl f2 hz
    refine ⟨fun q => ?_, fun q => ?_⟩
    · have y1 : (uI + lI).toInt ≤ (Int64.ofInt 1000000000000000000).toInt := (y_cl .le _ _).mp q
      rw [c_18, s1] at y1
      intro H hH
      have f : y_fr G H [] [] := y_st (y_rf e.1) hH (by repeat (first | exact w_nil | refine w_cons (Or.inl (y_m rfl)) ?_ | refine w_cons (Or.inr (by assumption)) ?_)) (by repeat (first | exact w_nil | refine w_cons (Or.inl (y_m rfl)) ?_ | refine w_cons (Or.inr (by assumption)) ?_))
      exact T338 (by rw [tr, if_neg (by omega)]) (y_sq e f rfl rfl) ((y_fe f rfl).trans f1) ((y_fe f rfl).trans f2) (by omega) (by omega) (by omega) (by omega)
    · have y1 : ¬ ((uI + lI).toInt ≤ (Int64.ofInt 1000000000000000000).toInt) := y_clf q
      rw [c_18, s1] at y1
      intro H hH
      exact hk _ H (y_st e hH (by repeat (first | exact w_nil | refine w_cons (Or.inl (y_m rfl)) ?_ | refine w_cons (Or.inr (by assumption)) ?_)) (by repeat (first | exact w_nil | refine w_cons (Or.inl (y_m rfl)) ?_ | refine w_cons (Or.inr (by assumption)) ?_))) (by rw [tr, if_pos (by omega)])
  have T312 : ∀ {G : aH} {uI lI : Int64} {u l : Nat} {g : Int32} {o13 o14 o15 o17 o19 : Option Value}, ¬ n_oS v k → ¬ n_oN v k → y_fr h G [19585, 19587, 19588, 19589] [154] → w_f G 19587 = some (.long uI) → uI.toInt = u → w_f G 19588 = some (.long lI) → lI.toInt = l → w_f G 19589 = some (.int g) → (n_it v k (n_tM n mq) = some (u, l) ∧ g = Int32.ofInt 0 ∨ n_it v k (n_tM n mq) = none ∧ g = Int32.ofInt 1) → aOK s_P X (d + 3) a_m268 312 [some (.ref 155), some (.int a), some (.int n), some (.int mq), some (.int cI), some (.long wi), none, some (.long wo), none, some (.long t1), none, some (.long t0), none, o13, o14, o15, none, o17, none, o19] [] G C S K0 := by
    intro G uI lI u l g o13 o14 o15 o17 o19 z1 z2 e f1 hu f2 hl f3 inv
    rcases inv with ⟨j, rfl⟩ | ⟨j, rfl⟩
    · refine w_go z_hl [319] [] 40 e.1 ?_
      intro x hx _ _
      obtain rfl := y_fi f3 hx
      refine ⟨fun q => absurd q (by decide), fun _ => fun H hH => ?_⟩
      have f : y_fr G H [] [] := y_st (y_rf e.1) hH (by repeat (first | exact w_nil | refine w_cons (Or.inl (y_m rfl)) ?_ | refine w_cons (Or.inr (by assumption)) ?_)) (by repeat (first | exact w_nil | refine w_cons (Or.inl (y_m rfl)) ?_ | refine w_cons (Or.inr (by assumption)) ?_))
      exact T319 z1 z2 j (y_sq e f rfl rfl) ((y_fe f rfl).trans f1) hu ((y_fe f rfl).trans f2) hl
    · refine w_go z_hl [319] [] 40 e.1 ?_
      intro x hx _ _
      obtain rfl := y_fi f3 hx
      refine ⟨fun _ => fun H hH => hk _ H (y_st e hH (by repeat (first | exact w_nil | refine w_cons (Or.inl (y_m rfl)) ?_ | refine w_cons (Or.inr (by assumption)) ?_)) (by repeat (first | exact w_nil | refine w_cons (Or.inl (y_m rfl)) ?_ | refine w_cons (Or.inr (by assumption)) ?_))) ?_, fun q => absurd q (by decide)⟩
      unfold n_tr
      rw [if_neg (fun z => z1 z.1), if_neg (fun z => z.elim z1 z2), n_ta_n j]
  have T280 : ∀ {G : aH} {uI lI pI qI : Int64} {x13 x14 : Int32}, ¬ n_oS v k → ¬ n_oN v k → y_fr h G [19587, 19588, 19589] [] → w_f G 19587 = some (.long uI) → uI.toInt = ((n_tS v k / Nat.gcd (n_tS v k) (n_tN v k) : Nat) : Int) → w_f G 19588 = some (.long lI) → lI.toInt = ((n_tN v k / Nat.gcd (n_tS v k) (n_tN v k) : Nat) : Int) → w_f G 19589 = some (.int (Int32.ofInt 0)) → pI.toInt = (n_tp v k : Nat) → qI.toInt = (n_tq v k : Nat) → aOK s_P X (d + 3) a_m268 280 [some (.ref 155), some (.int a), some (.int n), some (.int mq), some (.int cI), some (.long wi), none, some (.long wo), none, some (.long t1), none, some (.long t0), none, some (.int x13), some (.int x14), some (.long pI), none, some (.long qI), none, none] [] G C S K0 := by
    intro G uI lI pI qI x13 x14 z1 z2 e f1 hu f2 hl f3 hp hq
    have z3 : n_tN v k ≠ 0 ∧ n_tn v k 0 ≠ 0 := ⟨fun w => z2 (Or.inl w), fun w => z2 (Or.inr w)⟩
    refine w_go z_hl [283] [] 40 e.1 ?_
    intro H hH
    have f : y_fr G H [] [] := y_st (y_rf e.1) hH (by repeat (first | exact w_nil | refine w_cons (Or.inl (y_m rfl)) ?_ | refine w_cons (Or.inr (by assumption)) ?_)) (by repeat (first | exact w_nil | refine w_cons (Or.inl (y_m rfl)) ?_ | refine w_cons (Or.inr (by assumption)) ?_))
    have e2 := y_sq e f rfl rfl
    exact f_test_loop (v := v) (k := k) n1 n6 m0 m1 hp hq (by omega) (by omega) (by omega) (by omega) (n_tM n mq) H uI lI _ _ 0 _ _ f.1 ((y_fe f rfl).trans f1) hu ((y_fe f rfl).trans f2) hl (Nat.div_pos (Nat.gcd_le_right _ (by omega)) (Nat.gcd_pos_of_pos_right _ (by omega))) ((y_fe f rfl).trans f3) (Or.inl ⟨rfl, rfl⟩) rfl (by omega) (fun G' a' b' c' g' u' l' v1 v2 v3 v4 v5 v6 v7 v8 => T312 z1 z2 (y_sq (y_mo e2 rfl rfl) v1 rfl rfl) v2 v3 v4 v5 v7 v8)
  have T260 : ∀ {G : aH} {pI qI : Int64} {x13 x14 : Int32}, ¬ n_oS v k → ¬ n_oN v k → y_fr h G [19587, 19588, 19589] [] → w_f G 19587 = some (.long pI) → pI.toInt = (n_tp v k : Nat) → w_f G 19588 = some (.long qI) → qI.toInt = (n_tq v k : Nat) → w_f G 19589 = some (.int (Int32.ofInt 0)) → aOK s_P X (d + 3) a_m268 260 [some (.ref 155), some (.int a), some (.int n), some (.int mq), some (.int cI), some (.long wi), none, some (.long wo), none, some (.long t1), none, some (.long t0), none, some (.int x13), some (.int x14), none, none, none, none, none] [] G C S K0 := by
    intro G pI qI x13 x14 z1 z2 e f1 hp f2 hq f3
    have z3 : n_tN v k ≠ 0 := fun w => z2 (Or.inl w)
    refine w_go z_hl [] [194] 40 e.1 ?_
    intro y hy _ _
    obtain rfl := y_fl f1 hy
    intro z hz _ _
    obtain rfl := y_fl f2 hz
    intro H hH
    have e2 := y_st e hH (by repeat (first | exact w_nil | refine w_cons (Or.inl (y_m rfl)) ?_ | refine w_cons (Or.inr (by assumption)) ?_)) (by repeat (first | exact w_nil | refine w_cons (Or.inl (y_m rfl)) ?_ | refine w_cons (Or.inr (by assumption)) ?_))
    refine f_low (n := wi) (m := wo) e2.1 h1 h0 (by omega) (fun H2 u l e3 g1 g2 g3 g4 => ⟨fun n e => (by cases e), ?_⟩)
    exact T280 z1 z2 (y_sq e2 e3 rfl rfl) g1 g2 g3 g4 ((y_fe e3 rfl).trans ((y_fe (y_st (y_rf e.1) hH (by repeat (first | exact w_nil | refine w_cons (Or.inl (y_m rfl)) ?_ | refine w_cons (Or.inr (by assumption)) ?_)) (by repeat (first | exact w_nil | refine w_cons (Or.inl (y_m rfl)) ?_ | refine w_cons (Or.inr (by assumption)) ?_)) : y_fr G H [] []) rfl).trans f3)) hp hq
  have T242n : ∀ {G : aH} {x14 : Int32}, n_tr v k (n_tM n mq) = Int32.ofInt 0 → y_fr h G [19587, 19588, 19589] [] → aOK s_P X (d + 3) a_m268 242 [some (.ref 155), some (.int a), some (.int n), some (.int mq), some (.int cI), some (.long wi), none, some (.long wo), none, some (.long t1), none, some (.long t0), none, some (.int (Int32.ofInt 0)), some (.int x14), none, none, none, none, none] [] G C S K0 := by
    intro G x14 hz e
    refine w_go z_hl [355] [] 40 e.1 ?_
    exact ⟨fun _ => fun H hH => T355 hz (y_st (y_mo e rfl rfl) hH (by repeat (first | exact w_nil | refine w_cons (Or.inl (y_m rfl)) ?_ | refine w_cons (Or.inr (by assumption)) ?_)) (by repeat (first | exact w_nil | refine w_cons (Or.inl (y_m rfl)) ?_ | refine w_cons (Or.inr (by assumption)) ?_))), fun q => absurd q (by decide)⟩
  have T242 : ∀ {G : aH}, n_tr v k (n_tM n mq) = Int32.ofInt 0 → y_fr h G [19587, 19588, 19589] [] → aOK s_P X (d + 3) a_m268 242 [some (.ref 155), some (.int a), some (.int n), some (.int mq), some (.int cI), some (.long wi), none, some (.long wo), none, some (.long t1), none, some (.long t0), none, some (.int (Int32.ofInt 1)), some (.int (Int32.ofInt 0)), none, none, none, none, none] [] G C S K0 := by
    intro G hz e
    refine w_go z_hl [355] [194] 40 e.1 ?_
    exact ⟨fun q => absurd q (by decide), fun _ => ⟨fun _ => fun H hH => T355 hz (y_st (y_mo e rfl rfl) hH (by repeat (first | exact w_nil | refine w_cons (Or.inl (y_m rfl)) ?_ | refine w_cons (Or.inr (by assumption)) ?_)) (by repeat (first | exact w_nil | refine w_cons (Or.inl (y_m rfl)) ?_ | refine w_cons (Or.inr (by assumption)) ?_))), fun q => absurd q (by decide)⟩⟩
  have T242y : ∀ {G : aH}, ¬ n_oS v k → ¬ n_oN v k → y_fr h G [19587, 19588, 19589] [] → w_f G 19589 = some (.int (Int32.ofInt 0)) → aOK s_P X (d + 3) a_m268 242 [some (.ref 155), some (.int a), some (.int n), some (.int mq), some (.int cI), some (.long wi), none, some (.long wo), none, some (.long t1), none, some (.long t0), none, some (.int (Int32.ofInt 1)), some (.int (Int32.ofInt 1)), none, none, none, none, none] [] G C S K0 := by
    intro G z1 z2 e f3
    have z3 : n_tn v k 0 ≠ 0 := fun w => z2 (Or.inr w)
    refine w_go z_hl [355] [194] 40 e.1 ?_
    refine ⟨fun q => absurd q (by decide), fun _ => ⟨fun q => absurd q (by decide), fun _ => fun H hH => ?_⟩⟩
    have e2 := y_st e hH (by repeat (first | exact w_nil | refine w_cons (Or.inl (y_m rfl)) ?_ | refine w_cons (Or.inr (by assumption)) ?_)) (by repeat (first | exact w_nil | refine w_cons (Or.inl (y_m rfl)) ?_ | refine w_cons (Or.inr (by assumption)) ?_))
    refine f_low (n := t1) (m := t0) e2.1 k1 k0 (by omega) (fun H2 u l e3 g1 g2 g3 g4 => ⟨fun n e => (by cases e), ?_⟩)
    exact T260 z1 z2 (y_sq e2 e3 rfl rfl) g1 g2 g3 g4 ((y_fe e3 rfl).trans ((y_fe (y_st (y_rf e.1) hH (by repeat (first | exact w_nil | refine w_cons (Or.inl (y_m rfl)) ?_ | refine w_cons (Or.inr (by assumption)) ?_)) (by repeat (first | exact w_nil | refine w_cons (Or.inl (y_m rfl)) ?_ | refine w_cons (Or.inr (by assumption)) ?_)) : y_fr G H [] []) rfl).trans f3))
  have tr0 : ¬ (n_oS v k ∧ n_oN v k) → (n_oS v k ∨ n_oN v k) → n_tr v k (n_tM n mq) = Int32.ofInt 0 := by
    intro z1 z2
    unfold n_tr
    rw [if_neg z1, if_pos z2]
  have T218 : ∀ {G : aH} {x13 x14 : Int32}, y_fr h G [] [] → (n_oS v k ∧ x13 = Int32.ofInt 0 ∨ ¬ n_oS v k ∧ x13 = Int32.ofInt 1) → (n_oN v k ∧ x14 = Int32.ofInt 0 ∨ ¬ n_oN v k ∧ x14 = Int32.ofInt 1) → ¬ (n_oS v k ∧ n_oN v k) → aOK s_P X (d + 3) a_m268 218 [some (.ref 155), some (.int a), some (.int n), some (.int mq), some (.int cI), some (.long wi), none, some (.long wo), none, some (.long t1), none, some (.long t0), none, some (.int x13), some (.int x14), none, none, none, none, none] [] G C S K0 := by
    intro G x13 x14 e h13 h14 nb
    rcases h13 with ⟨c1, rfl⟩ | ⟨c1, rfl⟩
    · refine w_go z_hl [242] [] 40 e.1 ?_
      refine ⟨rfl, y_zini (by decide) (by decide), ⟨fun _ => ⟨rfl, y_zin (by decide) (by decide), rfl, y_zin (by decide) (by decide), fun H hH => T242n (tr0 nb (Or.inl c1)) (y_st (y_mo e rfl rfl) hH (by repeat (first | exact w_nil | refine w_cons (Or.inl (y_m rfl)) ?_ | refine w_cons (Or.inr (by assumption)) ?_)) (by repeat (first | exact w_nil | refine w_cons (Or.inl (y_m rfl)) ?_ | refine w_cons (Or.inr (by assumption)) ?_)))⟩, fun q => absurd q (by decide)⟩⟩
    · rcases h14 with ⟨c2, rfl⟩ | ⟨c2, rfl⟩
      · refine w_go z_hl [242] [] 40 e.1 ?_
        refine ⟨rfl, y_zini (by decide) (by decide), ⟨fun q => absurd q (by decide), fun _ => ⟨rfl, y_zin (by decide) (by decide), rfl, y_zin (by decide) (by decide), fun H hH => T242 (tr0 nb (Or.inr c2)) (y_st (y_mo e rfl rfl) hH (by repeat (first | exact w_nil | refine w_cons (Or.inl (y_m rfl)) ?_ | refine w_cons (Or.inr (by assumption)) ?_)) (by repeat (first | exact w_nil | refine w_cons (Or.inl (y_m rfl)) ?_ | refine w_cons (Or.inr (by assumption)) ?_)))⟩⟩⟩
      · refine w_go z_hl [242] [] 40 e.1 ?_
        refine ⟨rfl, y_zini (by decide) (by decide), ⟨fun q => absurd q (by decide), fun _ => ⟨rfl, y_zin (by decide) (by decide), rfl, y_zin (by decide) (by decide), fun H hH => T242y c1 c2 (y_st (y_mo e rfl rfl) hH (by repeat (first | exact w_nil | refine w_cons (Or.inl (y_m rfl)) ?_ | refine w_cons (Or.inr (by assumption)) ?_)) (by repeat (first | exact w_nil | refine w_cons (Or.inl (y_m rfl)) ?_ | refine w_cons (Or.inr (by assumption)) ?_))) (hH.2.1 19589 _ rfl)⟩⟩⟩
  have T203 : ∀ {G : aH} {x13 x14 : Int32}, y_fr h G [] [] → (n_oS v k ∧ x13 = Int32.ofInt 0 ∨ ¬ n_oS v k ∧ x13 = Int32.ofInt 1) → (n_oN v k ∧ x14 = Int32.ofInt 0 ∨ ¬ n_oN v k ∧ x14 = Int32.ofInt 1) → aOK s_P X (d + 3) a_m268 203 [some (.ref 155), some (.int a), some (.int n), some (.int mq), some (.int cI), some (.long wi), none, some (.long wo), none, some (.long t1), none, some (.long t0), none, some (.int x13), none, none, none, none, none, none] [.int x14] G C S K0 := by
    intro G x13 x14 e h13 h14
    refine w_go z_hl [218] [] 40 e.1 ?_
    refine ⟨fun q => fun H hH => T218 (y_st e hH (by repeat (first | exact w_nil | refine w_cons (Or.inl (y_m rfl)) ?_ | refine w_cons (Or.inr (by assumption)) ?_)) (by repeat (first | exact w_nil | refine w_cons (Or.inl (y_m rfl)) ?_ | refine w_cons (Or.inr (by assumption)) ?_))) h13 h14 ?_, fun q => ⟨fun q2 => fun H hH => T218 (y_st e hH (by repeat (first | exact w_nil | refine w_cons (Or.inl (y_m rfl)) ?_ | refine w_cons (Or.inr (by assumption)) ?_)) (by repeat (first | exact w_nil | refine w_cons (Or.inl (y_m rfl)) ?_ | refine w_cons (Or.inr (by assumption)) ?_))) h13 h14 ?_, fun q2 => fun H hH => hk _ H (y_st (y_mo e rfl rfl) hH (by repeat (first | exact w_nil | refine w_cons (Or.inl (y_m rfl)) ?_ | refine w_cons (Or.inr (by assumption)) ?_)) (by repeat (first | exact w_nil | refine w_cons (Or.inl (y_m rfl)) ?_ | refine w_cons (Or.inr (by assumption)) ?_))) ?_⟩⟩
    · have y1 : x13.toInt ≠ (0 : Int32).toInt := (y_ci .ne _ _).mp q
      intro w
      rcases h13 with ⟨c1, rfl⟩ | ⟨c1, rfl⟩
      · exact y1 (by decide)
      · exact c1 w.1
    · have y1 : x14.toInt ≠ (0 : Int32).toInt := (y_ci .ne _ _).mp q2
      intro w
      rcases h14 with ⟨c1, rfl⟩ | ⟨c1, rfl⟩
      · exact y1 (by decide)
      · exact c1 w.2
    · have y1 : ¬ (x13.toInt ≠ (0 : Int32).toInt) := y_cif q
      have y2 : ¬ (x14.toInt ≠ (0 : Int32).toInt) := y_cif q2
      unfold n_tr
      rcases h13 with ⟨c1, rfl⟩ | ⟨c1, rfl⟩
      · rcases h14 with ⟨c2, rfl⟩ | ⟨c2, rfl⟩
        · rw [if_pos ⟨c1, c2⟩]
        · exact absurd (by decide) y2
      · exact absurd (by decide) y1
  have T182 : ∀ {G : aH} {x13 : Int32}, y_fr h G [] [] → (n_oS v k ∧ x13 = Int32.ofInt 0 ∨ ¬ n_oS v k ∧ x13 = Int32.ofInt 1) → aOK s_P X (d + 3) a_m268 182 [some (.ref 155), some (.int a), some (.int n), some (.int mq), some (.int cI), some (.long wi), none, some (.long wo), none, some (.long t1), none, some (.long t0), none, none, none, none, none, none, none, none] [.int x13] G C S K0 := by
    intro G x13 e h13
    have z0 : (Int64.ofNat 0).toInt = 0 := by decide
    refine w_go z_hl [203] [] 40 e.1 ?_
    refine ⟨fun q => fun H hH => T203 (y_st e hH (by repeat (first | exact w_nil | refine w_cons (Or.inl (y_m rfl)) ?_ | refine w_cons (Or.inr (by assumption)) ?_)) (by repeat (first | exact w_nil | refine w_cons (Or.inl (y_m rfl)) ?_ | refine w_cons (Or.inr (by assumption)) ?_))) h13 (Or.inl ⟨?_, rfl⟩), fun q => ⟨fun q2 => fun H hH => T203 (y_st e hH (by repeat (first | exact w_nil | refine w_cons (Or.inl (y_m rfl)) ?_ | refine w_cons (Or.inr (by assumption)) ?_)) (by repeat (first | exact w_nil | refine w_cons (Or.inl (y_m rfl)) ?_ | refine w_cons (Or.inr (by assumption)) ?_))) h13 (Or.inl ⟨?_, rfl⟩), fun q2 => fun H hH => T203 (y_st e hH (by repeat (first | exact w_nil | refine w_cons (Or.inl (y_m rfl)) ?_ | refine w_cons (Or.inr (by assumption)) ?_)) (by repeat (first | exact w_nil | refine w_cons (Or.inl (y_m rfl)) ?_ | refine w_cons (Or.inr (by assumption)) ?_))) h13 (Or.inr ⟨?_, rfl⟩)⟩⟩
    · have y1 : wo.toInt ≤ (Int64.ofNat 0).toInt := (y_cl .le _ _).mp q
      exact Or.inl (by omega)
    · have y1 : t0.toInt ≤ (Int64.ofNat 0).toInt := (y_cl .le _ _).mp q2
      exact Or.inr (by omega)
    · have y1 : ¬ (wo.toInt ≤ (Int64.ofNat 0).toInt) := y_clf q
      have y2 : ¬ (t0.toInt ≤ (Int64.ofNat 0).toInt) := y_clf q2
      intro w
      rcases w with w | w <;> omega
  have z0 : (Int64.ofNat 0).toInt = 0 := by decide
  refine w_go z_hl [182] [] 40 hr ?_
  refine ⟨fun q => fun H hH => T182 (y_st (y_rf hr) hH (by repeat (first | exact w_nil | refine w_cons (Or.inl (y_m rfl)) ?_ | refine w_cons (Or.inr (by assumption)) ?_)) (by repeat (first | exact w_nil | refine w_cons (Or.inl (y_m rfl)) ?_ | refine w_cons (Or.inr (by assumption)) ?_))) (Or.inl ⟨?_, rfl⟩), fun q => ⟨fun q2 => fun H hH => T182 (y_st (y_rf hr) hH (by repeat (first | exact w_nil | refine w_cons (Or.inl (y_m rfl)) ?_ | refine w_cons (Or.inr (by assumption)) ?_)) (by repeat (first | exact w_nil | refine w_cons (Or.inl (y_m rfl)) ?_ | refine w_cons (Or.inr (by assumption)) ?_))) (Or.inl ⟨?_, rfl⟩), fun q2 => fun H hH => T182 (y_st (y_rf hr) hH (by repeat (first | exact w_nil | refine w_cons (Or.inl (y_m rfl)) ?_ | refine w_cons (Or.inr (by assumption)) ?_)) (by repeat (first | exact w_nil | refine w_cons (Or.inl (y_m rfl)) ?_ | refine w_cons (Or.inr (by assumption)) ?_))) (Or.inr ⟨?_, rfl⟩)⟩⟩
  · have y1 : wi.toInt ≤ (Int64.ofNat 0).toInt := (y_cl .le _ _).mp q
    exact Or.inl (by omega)
  · have y1 : t1.toInt ≤ (Int64.ofNat 0).toInt := (y_cl .le _ _).mp q2
    exact Or.inr (by omega)
  · have y1 : ¬ (wi.toInt ≤ (Int64.ofNat 0).toInt) := y_clf q
    have y2 : ¬ (t1.toInt ≤ (Int64.ofNat 0).toInt) := y_clf q2
    intro w
    rcases w with w | w <;> omega
theorem f_test (hr : w_hr z_D h) (hJ : y_J h) (hm : n_mV h v) {a n mq : Int32} (yes : n_tsV v a n mq → ∀ (H : aH), y_fr h H [19584, 19585, 19587, 19588, 19589] [154, 163] → y_J H → K0 (some (.int (n_tr v a.toInt.toNat (n_tM n mq)))) H C S) (no : ¬ n_tsV v a n mq → ∀ (H : aH), y_fr h H [19584] [] → K0 (some (.int (Int32.ofInt (-1)))) H C S) : aOK s_P X (d + 4) a_m268 0 [some (.ref 155), some (.int a), some (.int n), some (.int mq), none, none, none, none, none, none, none, none, none, none, none, none, none, none, none, none] [] h C S K0 := by
  have g0 : w_f h 19591 = some (.int (v 128)) := hm.1 (128, 19591) (by decide)
  have b0 := n_bd (lo := 0) (hi := 10) hr g0 rfl
  obtain ⟨sa, s4, s5, s6, -, n10⟩ := f_sn hr hJ hm
  obtain ⟨fo, o4, o5, o6⟩ := id hm.2.1.2.2.2.2.2.2.1
  have a6 := hm.2.1.2.2.1
  have a8 := hm.2.1.2.2.2.2.1
  obtain ⟨⟨nd0, le0, de0, ta0, m1, m2, m3, m4, c1, -⟩, -⟩ := id hJ
  obtain rfl := y_ai a6 m2
  have lb : n_hasV a (v 128) → n_lb v a.toInt.toNat < 2 ^ a.toInt.toNat ∧ n_lb v a.toInt.toNat < 1024 := by
    intro hv
    obtain ⟨v1, v2⟩ := hv
    have w := (c1 a.toInt.toNat (by omega)).2
    rw [n_Nn (by omega)] at w
    have pw : 2 ^ a.toInt.toNat ≤ 2 ^ 10 := n_p2 (by omega)
    exact ⟨w, Nat.lt_of_lt_of_le w pw⟩
  have nl : n_hasV a (v 128) → ((n_ls v 701000 10).getD a.toNatClampNeg 0).toInt = (n_lb v a.toInt.toNat : Nat) := by
    intro hv
    obtain ⟨v1, v2⟩ := id hv
    obtain ⟨le, l1, l2, l3⟩ := c_arr hr (ob := 156) (n := 10) rfl
    obtain rfl := y_ai a6 l1
    have w := (l3 _ (z_gd (0 : Int32) (show a.toInt.toNat < (n_ls v 701000 10).length by omega))).1
    rw [show a.toNatClampNeg = a.toInt.toNat from rfl]
    rw [n_ls_at (by omega)] at w ⊢
    unfold n_lb
    omega
  have T135 : ∀ {G0 G : aH} {cI : Int32} {sa : List Int32} {wl : List Int64} {wi wo : Int64}, n_tsV v a n mq → y_fr h G0 [19584] [163] → y_J G0 → y_fr G0 G [] [] → wi.toInt = (n_tS v a.toInt.toNat : Nat) → wi.toInt ≤ 100000000 → wo.toInt = (n_tN v a.toInt.toNat : Nat) → wo.toInt ≤ 100000000 → aOK s_P X (d + 4) a_m268 135 [some (.ref 155), some (.int a), some (.int n), some (.int mq), some (.int cI), some (.long wi), none, none, none, none, none, none, none, none, none, none, none, none, none, none] [.long wo] G C S K0 := by
    intro G0 G cI sa wl wi wo ts e0 J0 e w0 w8 o0 o8
    obtain ⟨⟨v1, v2⟩, ⟨n1, n6⟩, ⟨m0, m1⟩, -⟩ := id ts
    have i1 : ((Int8.ofInt 8).toInt32 * a + Int32.ofInt 1).toInt = ((8 * a.toInt.toNat + 1 : Nat) : Int) := y_i8 (show a.toInt = ((a.toInt.toNat : Nat) : Int) by omega) (by decide) (by omega) (by omega)
    have i0 : ((Int8.ofInt 8).toInt32 * a).toInt = ((8 * a.toInt.toNat : Nat) : Int) := y_mulS _ y_c8 (show a.toInt = ((a.toInt.toNat : Nat) : Int) by omega) rfl (by omega)
    have k1 : 0 ≤ ((Int8.ofInt 8).toInt32 * a + Int32.ofInt 1).toInt ∧ ((Int8.ofInt 8).toInt32 * a + Int32.ofInt 1).toInt < ((80 : Nat) : Int) := by omega
    have k0 : 0 ≤ ((Int8.ofInt 8).toInt32 * a).toInt ∧ ((Int8.ofInt 8).toInt32 * a).toInt < ((80 : Nat) : Int) := by omega
    have x1 := y_cl1 i1
    have x0 := y_cl1 i0
    refine w_go z_hl [163] [] 40 e.1 ?_
    refine ⟨k1, fun l hl len bb => ⟨k0, fun H hH => ?_⟩⟩
    obtain rfl := y_ai ((y_ae e rfl).trans ((y_ae e0 rfl).trans a8)) hl
    have f : y_fr G0 H [] [] := y_st e hH (by repeat (first | exact w_nil | refine w_cons (Or.inl (y_m rfl)) ?_ | refine w_cons (Or.inr (by assumption)) ?_)) (by repeat (first | exact w_nil | refine w_cons (Or.inl (y_m rfl)) ?_ | refine w_cons (Or.inr (by assumption)) ?_))
    have t1 := (bb _ (z_gd (0 : Int32) (show 8 * a.toInt.toNat + 1 < (n_ls v 700000 80).length by omega))).1
    have t0 := (bb _ (z_gd (0 : Int32) (show 8 * a.toInt.toNat < (n_ls v 700000 80).length by omega))).1
    rw [n_ls_at (by omega)] at t1 t0
    refine aOK_deep (d := d + 3) (by omega) ?_
    refine f_test_tail (v := v) (k := a.toInt.toNat) f.1 n1 n6 m0 m1 w0 o0 ?_ ?_ w8 o8 (fun r H5 e5 er => ?_)
    · rw [y_i2l, x1, n_ls_at (by omega)]
      unfold n_tn
      omega
    · rw [y_i2l, x0, n_ls_at (by omega)]
      unfold n_tn
      rw [Nat.add_zero]
      omega
    · rw [er]
      exact yes ts H5 (y_sq (y_mo (y_sq e0 f rfl rfl : y_fr h H [19584] [163]) rfl rfl) e5 rfl rfl) (y_J_fr e5 rfl rfl (y_J_fr f rfl rfl J0))
  have T125 : ∀ {G0 G : aH} {cI : Int32} {sa : List Int32} {wl : List Int64} {wi : Int64}, n_tsV v a n mq → cI.toInt = (n_tc v a.toInt.toNat : Nat) → n_tc v a.toInt.toNat < (v 128).toInt.toNat → y_fr h G0 [19584] [163] → y_J G0 → f_wc G0 v sa wl → y_fr G0 G [] [] → wi.toInt = (n_tS v a.toInt.toNat : Nat) → wi.toInt ≤ 100000000 → aOK s_P X (d + 4) a_m268 125 [some (.ref 155), some (.int a), some (.int n), some (.int mq), some (.int cI), none, none, none, none, none, none, none, none, none, none, none, none, none, none, none] [.long wi] G C S K0 := by
    intro G0 G cI sa wl wi ts hcI cn e0 J0 hw e w0 w8
    refine w_go z_hl [] [190] 40 e.1 ?_
    intro H hH
    have f : y_fr G0 H [] [] := y_st e hH (by repeat (first | exact w_nil | refine w_cons (Or.inl (y_m rfl)) ?_ | refine w_cons (Or.inr (by assumption)) ?_)) (by repeat (first | exact w_nil | refine w_cons (Or.inl (y_m rfl)) ?_ | refine w_cons (Or.inr (by assumption)) ?_))
    refine r_nowWith (b := false) (f_wc_fr hw f rfl rfl rfl) hcI cn (fun r H2 e3 r0 r8 hv => ⟨fun n e => (by cases e), ?_⟩)
    exact T135 (sa := sa) (wl := wl) ts e0 J0 (y_sq f e3 rfl rfl) w0 w8 (by unfold n_tN; omega) r8
  have T109 : ∀ {G0 G : aH} {cI : Int32} {sa : List Int32} {wl : List Int64} {r : Int64}, n_tsV v a n mq → cI.toInt = (n_tc v a.toInt.toNat : Nat) → n_tc v a.toInt.toNat < (v 128).toInt.toNat → y_fr h G0 [19584] [163] → y_J G0 → f_wc G0 v sa wl → y_fr G0 G [] [] → r.toInt = n_now v → aOK s_P X (d + 4) a_m268 109 [some (.ref 155), some (.int a), some (.int n), some (.int mq), some (.int cI), none, none, none, none, none, none, none, none, none, none, none, none, none, none, none] [.long r] G C S K0 := by
    intro G0 G cI sa wl r ts hcI cn e0 J0 hw e hr0
    refine w_go z_hl [] [190] 40 e.1 ?_
    refine ⟨fun _ => fun H hH => ?_, fun q => fun H hH => ?_⟩
    · have f : y_fr G0 H [] [] := y_st e hH (by repeat (first | exact w_nil | refine w_cons (Or.inl (y_m rfl)) ?_ | refine w_cons (Or.inr (by assumption)) ?_)) (by repeat (first | exact w_nil | refine w_cons (Or.inl (y_m rfl)) ?_ | refine w_cons (Or.inr (by assumption)) ?_))
      refine r_nowWith (b := true) (f_wc_fr hw f rfl rfl rfl) hcI cn (fun r H2 e3 r0 r8 hv => ⟨fun n e => (by cases e), ?_⟩)
      exact T125 ts hcI cn e0 J0 hw (y_sq f e3 rfl rfl) (by unfold n_tS; omega) r8
    · have f : y_fr G0 H [] [] := y_st e hH (by repeat (first | exact w_nil | refine w_cons (Or.inl (y_m rfl)) ?_ | refine w_cons (Or.inr (by assumption)) ?_)) (by repeat (first | exact w_nil | refine w_cons (Or.inl (y_m rfl)) ?_ | refine w_cons (Or.inr (by assumption)) ?_))
      have q2 : ¬ (r.toInt ≠ (Int64.ofNat 0).toInt) := y_clf q
      have q3 : r.toInt = 0 := Decidable.not_not.mp q2
      obtain ⟨sp, sp1, sp0⟩ := n_now_sp (f_wc_0 hw) cn (hw.2.2.1 _ cn).1 (hw.2.2.1 _ cn).2
      have w := yes ts H (y_sq (y_mo e0 rfl rfl) f rfl rfl) (y_J_fr f rfl rfl J0)
      unfold n_tr at w
      rw [if_pos ⟨Or.inl (by unfold n_tS; omega), Or.inl (by unfold n_tN; omega)⟩] at w
      exact w
  have T105 : ∀ {G0 : aH} {cI : Int32} {sa : List Int32} {wl : List Int64}, n_tsV v a n mq → cI.toInt = (n_tc v a.toInt.toNat : Nat) → n_tc v a.toInt.toNat < (v 128).toInt.toNat → y_fr h G0 [19584] [163] → y_J G0 → f_wc G0 v sa wl → aOK s_P X (d + 4) a_m268 105 [some (.ref 155), some (.int a), some (.int n), some (.int mq), some (.int cI), none, none, none, none, none, none, none, none, none, none, none, none, none, none, none] [] G0 C S K0 := by
    intro G0 cI sa wl ts hcI cn e0 J0 hw
    refine w_go z_hl [] [189] 40 e0.1 ?_
    intro H hH
    have f : y_fr G0 H [] [] := y_st (y_rf e0.1) hH (by repeat (first | exact w_nil | refine w_cons (Or.inl (y_m rfl)) ?_ | refine w_cons (Or.inr (by assumption)) ?_)) (by repeat (first | exact w_nil | refine w_cons (Or.inl (y_m rfl)) ?_ | refine w_cons (Or.inr (by assumption)) ?_))
    refine r_now (f_wc_fr hw f rfl rfl rfl) (fun r H2 e3 _ _ hv => ⟨fun n e => (by cases e), ?_⟩)
    exact T109 ts hcI cn e0 J0 hw (y_sq f e3 rfl rfl) hv
  have T101 : ∀ {G : aH} {cI : Int32}, n_tsV v a n mq → cI.toInt = (n_tc v a.toInt.toNat : Nat) → n_tc v a.toInt.toNat < (v 128).toInt.toNat → y_fr h G [19584] [] → aOK s_P X (d + 4) a_m268 101 [some (.ref 155), some (.int a), some (.int n), some (.int mq), some (.int cI), none, none, none, none, none, none, none, none, none, none, none, none, none, none, none] [] G C S K0 := by
    intro G cI ts hcI cn e
    refine w_go z_hl [] [188] 40 e.1 ?_
    intro H hH
    have e2 := y_st e hH (by repeat (first | exact w_nil | refine w_cons (Or.inl (y_m rfl)) ?_ | refine w_cons (Or.inr (by assumption)) ?_)) (by repeat (first | exact w_nil | refine w_cons (Or.inl (y_m rfl)) ?_ | refine w_cons (Or.inr (by assumption)) ?_))
    refine r_up e2.1 (y_J_fr e2 rfl rfl hJ) (n_mS_V (n_fk_m e2 rfl) hm) (fun sa wl H2 e3 J3 hw => ⟨fun n e => (by cases e), ?_⟩)
    exact T105 ts hcI cn (y_sq (y_mo e2 rfl rfl) e3 rfl rfl) J3 hw
  have T59 : ∀ {G : aH} {cI : Int32}, n_hasV a (v 128) → (1 ≤ n.toInt ∧ n.toInt ≤ 6) → (0 ≤ mq.toInt ∧ mq.toInt ≤ 1) → y_pl (n_lb v a.toInt.toNat) 10 = 1 → cI.toInt = (n_tc v a.toInt.toNat : Nat) → n_tc v a.toInt.toNat < (v 128).toInt.toNat → y_fr h G [19584] [] → aOK s_P X (d + 4) a_m268 59 [some (.ref 155), some (.int a), some (.int n), some (.int mq), none, none, none, none, none, none, none, none, none, none, none, none, none, none, none, none] [.int cI] G C S K0 := by
    intro G cI hv hn hmk pl hcI cn e
    obtain ⟨v1, v2⟩ := id hv
    have ec : cI.toNatClampNeg = n_tc v a.toInt.toNat := y_cl1 hcI
    have z0 : (0 : Int32).toInt = 0 := by decide
    have sA : (sa.getD a.toInt.toNat 0).toInt = n_sg v a.toInt.toNat := s5 a.toInt.toNat (by omega)
    have sC : (sa.getD (n_tc v a.toInt.toNat) 0).toInt = n_sg v (n_tc v a.toInt.toNat) := s5 _ cn
    have oA : (fo.getD a.toInt.toNat 0).toInt = (v (704000 + a.toInt.toNat)).toInt := by rw [o6 a.toInt.toNat (by omega)]
    have oC : (fo.getD (n_tc v a.toInt.toNat) 0).toInt = (v (704000 + n_tc v a.toInt.toNat)).toInt := by rw [o6 _ (by omega)]
    refine w_go z_hl [101] [] 60 e.1 ?_
    refine ⟨⟨by omega, by omega⟩, fun l hl len bb => ?_⟩
    obtain rfl := y_ai ((y_ae e rfl).trans s4) hl
    refine ⟨fun q => fun H hH => ?_, fun q => ⟨⟨by omega, by omega⟩, ⟨fun q2 => fun H hH => ?_, fun q2 => ⟨⟨by omega, by omega⟩, fun l2 hl2 len2 bb2 => ?_⟩⟩⟩⟩
    · have y1 : (0 : Int32).toInt ≤ (sa.getD a.toNatClampNeg 0).toInt := (y_ci .ge _ _).mp q
      rw [show a.toNatClampNeg = a.toInt.toNat from rfl, sA, z0] at y1
      exact no (fun ts => by have := ts.2.2.2.2.1.1; omega) H (y_st e hH (by repeat (first | exact w_nil | refine w_cons (Or.inl (y_m rfl)) ?_ | refine w_cons (Or.inr (by assumption)) ?_)) (by repeat (first | exact w_nil | refine w_cons (Or.inl (y_m rfl)) ?_ | refine w_cons (Or.inr (by assumption)) ?_)))
    · have y1 : (0 : Int32).toInt ≤ (sa.getD cI.toNatClampNeg 0).toInt := (y_ci .ge _ _).mp q2
      rw [ec, sC, z0] at y1
      exact no (fun ts => by have := ts.2.2.2.2.2.1; omega) H (y_st e hH (by repeat (first | exact w_nil | refine w_cons (Or.inl (y_m rfl)) ?_ | refine w_cons (Or.inr (by assumption)) ?_)) (by repeat (first | exact w_nil | refine w_cons (Or.inl (y_m rfl)) ?_ | refine w_cons (Or.inr (by assumption)) ?_)))
    · obtain rfl := y_ai ((y_ae e rfl).trans o4) hl2
      have y1 : ¬ ((0 : Int32).toInt ≤ (sa.getD a.toNatClampNeg 0).toInt) := y_cif q
      rw [show a.toNatClampNeg = a.toInt.toNat from rfl, sA, z0] at y1
      have y2 : ¬ ((0 : Int32).toInt ≤ (sa.getD cI.toNatClampNeg 0).toInt) := y_cif q2
      rw [ec, sC, z0] at y2
      refine ⟨fun q3 => fun H hH => ?_, fun q3 => ⟨⟨by omega, by omega⟩, ⟨fun q4 => fun H hH => ?_, fun q4 => fun H hH => ?_⟩⟩⟩
      · have y3 : (0 : Int32).toInt ≤ (fo.getD a.toNatClampNeg 0).toInt := (y_ci .ge _ _).mp q3
        rw [show a.toNatClampNeg = a.toInt.toNat from rfl, oA, z0] at y3
        exact no (fun ts => by have := ts.2.2.2.2.1.2; omega) H (y_st e hH (by repeat (first | exact w_nil | refine w_cons (Or.inl (y_m rfl)) ?_ | refine w_cons (Or.inr (by assumption)) ?_)) (by repeat (first | exact w_nil | refine w_cons (Or.inl (y_m rfl)) ?_ | refine w_cons (Or.inr (by assumption)) ?_)))
      · have y3 : ¬ ((0 : Int32).toInt ≤ (fo.getD a.toNatClampNeg 0).toInt) := y_cif q3
        rw [show a.toNatClampNeg = a.toInt.toNat from rfl, oA, z0] at y3
        have y4 : (fo.getD cI.toNatClampNeg 0).toInt < (0 : Int32).toInt := (y_ci .lt _ _).mp q4
        rw [ec, oC, z0] at y4
        exact T101 ⟨hv, hn, hmk, pl, ⟨by omega, by omega⟩, ⟨by omega, by omega⟩⟩ hcI cn (y_st e hH (by repeat (first | exact w_nil | refine w_cons (Or.inl (y_m rfl)) ?_ | refine w_cons (Or.inr (by assumption)) ?_)) (by repeat (first | exact w_nil | refine w_cons (Or.inl (y_m rfl)) ?_ | refine w_cons (Or.inr (by assumption)) ?_)))
      · have y4 : ¬ ((fo.getD cI.toNatClampNeg 0).toInt < (0 : Int32).toInt) := y_cif q4
        rw [ec, oC, z0] at y4
        exact no (fun ts => by have := ts.2.2.2.2.2.2; omega) H (y_st e hH (by repeat (first | exact w_nil | refine w_cons (Or.inl (y_m rfl)) ?_ | refine w_cons (Or.inr (by assumption)) ?_)) (by repeat (first | exact w_nil | refine w_cons (Or.inl (y_m rfl)) ?_ | refine w_cons (Or.inr (by assumption)) ?_)))
  have T45 : ∀ {G : aH}, n_hasV a (v 128) → (1 ≤ n.toInt ∧ n.toInt ≤ 6) → (0 ≤ mq.toInt ∧ mq.toInt ≤ 1) → y_pl (n_lb v a.toInt.toNat) 10 = 1 → y_fr h G [19584] [] → aOK s_P X (d + 4) a_m268 45 [some (.ref 155), some (.int a), some (.int n), some (.int mq), none, none, none, none, none, none, none, none, none, none, none, none, none, none, none, none] [.int (y_01 true)] G C S K0 := by
    intro G hv hn hmk pl e
    obtain ⟨v1, v2⟩ := id hv
    obtain ⟨lb1, lb2⟩ := lb hv
    obtain ⟨f1, -⟩ := c_lg_f (b := n_lb v a.toInt.toNat) lb2 pl lb1
    have f2 : n_tc v a.toInt.toNat < a.toInt.toNat := f1
    refine w_go z_hl [] [269] 60 e.1 ?_
    refine ⟨fun _ => ?_, fun q => absurd q (by decide)⟩
    refine ⟨⟨by omega, by omega⟩, fun l hl len bb => ?_⟩
    obtain rfl := y_ai ((y_ae e rfl).trans a6) hl
    intro H hH
    have e2 := y_st e hH (by repeat (first | exact w_nil | refine w_cons (Or.inl (y_m rfl)) ?_ | refine w_cons (Or.inr (by assumption)) ?_)) (by repeat (first | exact w_nil | refine w_cons (Or.inl (y_m rfl)) ?_ | refine w_cons (Or.inr (by assumption)) ?_))
    refine f_ntz (x := (n_ls v 701000 10).getD a.toNatClampNeg 0) (b := n_lb v a.toInt.toNat) e2.1 (nl hv) lb2 pl (fun r H2 e3 hr3 => ⟨fun n e => (by cases e), ?_⟩)
    exact T59 hv hn hmk pl hr3 (by omega) (y_sq e2 e3 rfl rfl)
  have T45n : ∀ {G : aH}, ¬ n_tsV v a n mq → y_fr h G [19584] [] → aOK s_P X (d + 4) a_m268 45 [some (.ref 155), some (.int a), some (.int n), some (.int mq), none, none, none, none, none, none, none, none, none, none, none, none, none, none, none, none] [.int (y_01 false)] G C S K0 := by
    intro G ts e
    refine w_go z_hl [] [] 60 e.1 ?_
    exact ⟨fun q => absurd q (by decide), fun _ => fun H hH => no ts H (y_st e hH (by repeat (first | exact w_nil | refine w_cons (Or.inl (y_m rfl)) ?_ | refine w_cons (Or.inr (by assumption)) ?_)) (by repeat (first | exact w_nil | refine w_cons (Or.inl (y_m rfl)) ?_ | refine w_cons (Or.inr (by assumption)) ?_)))⟩
  have T35 : ∀ {G : aH}, n_hasV a (v 128) → (1 ≤ n.toInt ∧ n.toInt ≤ 6) → y_pl (n_lb v a.toInt.toNat) 10 = 1 → y_fr h G [19584] [] → aOK s_P X (d + 4) a_m268 35 [some (.ref 155), some (.int a), some (.int n), some (.int mq), none, none, none, none, none, none, none, none, none, none, none, none, none, none, none, none] [.int (y_01 true)] G C S K0 := by
    intro G hv hn pl e
    have z0 : (Int64.ofNat 0).toInt = 0 := by decide
    have z1 : (Int64.ofNat 1).toInt = 1 := by decide
    refine w_go z_hl [] [176] 60 e.1 ?_
    refine ⟨fun q => absurd q (by decide), fun _ => fun H hH => ?_⟩
    have e2 := y_st e hH (by repeat (first | exact w_nil | refine w_cons (Or.inl (y_m rfl)) ?_ | refine w_cons (Or.inr (by assumption)) ?_)) (by repeat (first | exact w_nil | refine w_cons (Or.inl (y_m rfl)) ?_ | refine w_cons (Or.inr (by assumption)) ?_))
    refine q_in (v := mq.toInt64) (lo := Int64.ofNat 0) (hi := Int64.ofNat 1) e2.1 (fun H3 h3 k1 k2 => ⟨fun n e => (by cases e), ?_⟩) (fun H3 h3 k1 => ⟨fun n e => (by cases e), ?_⟩)
    · rw [y_i2l, z0] at k1
      rw [y_i2l, z1] at k2
      exact T45 hv hn ⟨k1, k2⟩ pl (y_sq e2 h3 rfl rfl)
    · rw [y_i2l, z0, z1] at k1
      exact T45n (fun ts => k1 ts.2.2.1.1 ts.2.2.1.2) (y_sq e2 h3 rfl rfl)
  have T35n : ∀ {G : aH}, ¬ n_tsV v a n mq → y_fr h G [19584] [] → aOK s_P X (d + 4) a_m268 35 [some (.ref 155), some (.int a), some (.int n), some (.int mq), none, none, none, none, none, none, none, none, none, none, none, none, none, none, none, none] [.int (y_01 false)] G C S K0 := by
    intro G ts e
    refine w_go z_hl [] [] 60 e.1 ?_
    exact ⟨fun _ => fun H hH => no ts H (y_st e hH (by repeat (first | exact w_nil | refine w_cons (Or.inl (y_m rfl)) ?_ | refine w_cons (Or.inr (by assumption)) ?_)) (by repeat (first | exact w_nil | refine w_cons (Or.inl (y_m rfl)) ?_ | refine w_cons (Or.inr (by assumption)) ?_))), fun q => absurd q (by decide)⟩
  have T22 : ∀ {G : aH} {x : Int32}, n_hasV a (v 128) → (y_bc x).toInt = (y_pl (n_lb v a.toInt.toNat) 10 : Int) → y_fr h G [19584] [] → aOK s_P X (d + 4) a_m268 22 [some (.ref 155), some (.int a), some (.int n), some (.int mq), none, none, none, none, none, none, none, none, none, none, none, none, none, none, none, none] [.int (y_bc x)] G C S K0 := by
    intro G x hv hbc e
    have z1 : (Int64.ofNat 1).toInt = 1 := by decide
    refine w_go z_hl [] [176] 60 e.1 ?_
    refine ⟨fun q => fun H hH => ?_, fun q => fun H hH => ?_⟩
    · have q2 : (y_bc x).toInt ≠ (Int32.ofInt 1).toInt := (y_ci .ne _ _).mp q
      have q3 : (y_bc x).toInt ≠ 1 := q2
      exact no (fun ts => by have := ts.2.2.2.1; omega) H (y_st e hH (by repeat (first | exact w_nil | refine w_cons (Or.inl (y_m rfl)) ?_ | refine w_cons (Or.inr (by assumption)) ?_)) (by repeat (first | exact w_nil | refine w_cons (Or.inl (y_m rfl)) ?_ | refine w_cons (Or.inr (by assumption)) ?_)))
    · have q2 : ¬ ((y_bc x).toInt ≠ (Int32.ofInt 1).toInt) := y_cif q
      have q3 : (y_bc x).toInt = 1 := Decidable.not_not.mp q2
      have e2 := y_st e hH (by repeat (first | exact w_nil | refine w_cons (Or.inl (y_m rfl)) ?_ | refine w_cons (Or.inr (by assumption)) ?_)) (by repeat (first | exact w_nil | refine w_cons (Or.inl (y_m rfl)) ?_ | refine w_cons (Or.inr (by assumption)) ?_))
      refine q_in (v := n.toInt64) (lo := Int64.ofNat 1) (hi := Int64.ofInt 6) e2.1 (fun H3 h3 l1 l2 => ⟨fun n e => (by cases e), ?_⟩) (fun H3 h3 l1 => ⟨fun n e => (by cases e), ?_⟩)
      · rw [y_i2l, z1] at l1
        rw [y_i2l, y_i64 (by decide) (by decide)] at l2
        exact T35 hv ⟨l1, l2⟩ (by omega) (y_sq e2 h3 rfl rfl)
      · rw [y_i2l, z1, y_i64 (by decide) (by decide)] at l1
        exact T35n (fun ts => l1 ts.2.1.1 ts.2.1.2) (y_sq e2 h3 rfl rfl)
  have T10 : ∀ {G : aH}, n_hasV a (v 128) → y_fr h G [19584] [] → aOK s_P X (d + 4) a_m268 10 [some (.ref 155), some (.int a), some (.int n), some (.int mq), none, none, none, none, none, none, none, none, none, none, none, none, none, none, none, none] [.int (y_01 true)] G C S K0 := by
    intro G hv e
    obtain ⟨v1, v2⟩ := id hv
    obtain ⟨lb1, lb2⟩ := lb hv
    refine w_go z_hl [] [15] 60 e.1 ?_
    refine ⟨fun q => absurd q (by decide), fun _ => ?_⟩
    refine ⟨⟨by omega, by omega⟩, fun l hl len bb => ?_⟩
    obtain rfl := y_ai ((y_ae e rfl).trans a6) hl
    intro H hH
    have e2 := y_st e hH (by repeat (first | exact w_nil | refine w_cons (Or.inl (y_m rfl)) ?_ | refine w_cons (Or.inr (by assumption)) ?_)) (by repeat (first | exact w_nil | refine w_cons (Or.inl (y_m rfl)) ?_ | refine w_cons (Or.inr (by assumption)) ?_))
    refine y_bitCount e2.1 (fun H2 e3 => ⟨fun n e => (by cases e), ?_⟩)
    exact T22 (x := (n_ls v 701000 10).getD a.toNatClampNeg 0) hv (y_bcN (nl hv) lb2) (y_sq e2 (y_w0 e3) rfl rfl)
  have T10n : ∀ {G : aH}, ¬ n_hasV a (v 128) → y_fr h G [19584] [] → aOK s_P X (d + 4) a_m268 10 [some (.ref 155), some (.int a), some (.int n), some (.int mq), none, none, none, none, none, none, none, none, none, none, none, none, none, none, none, none] [.int (y_01 false)] G C S K0 := by
    intro G hv e
    refine w_go z_hl [] [] 60 e.1 ?_
    exact ⟨fun _ => fun H hH => no (fun ts => hv ts.1) H (y_st e hH (by repeat (first | exact w_nil | refine w_cons (Or.inl (y_m rfl)) ?_ | refine w_cons (Or.inr (by assumption)) ?_)) (by repeat (first | exact w_nil | refine w_cons (Or.inl (y_m rfl)) ?_ | refine w_cons (Or.inr (by assumption)) ?_))), fun q => absurd q (by decide)⟩
  refine w_go z_hl [] [178] 30 hr ?_
  refine ⟨rfl, y_zini (by decide) (by decide), fun H1 h1 => ?_⟩
  have e1 : y_fr h H1 [19584] [] := y_st (y_mo (y_rf hr) rfl rfl) h1 (by repeat (first | exact w_nil | refine w_cons (Or.inl (y_m rfl)) ?_ | refine w_cons (Or.inr (by assumption)) ?_)) (by repeat (first | exact w_nil | refine w_cons (Or.inl (y_m rfl)) ?_ | refine w_cons (Or.inr (by assumption)) ?_))
  refine q_isNode2 (v := a) e1.1 ((y_fe e1 rfl).trans g0) (fun H2 vv h2 hv hv2 hvc => ⟨fun n e => (by cases e), ?_⟩) (fun H2 h2 nn => ⟨fun n e => (by cases e), ?_⟩)
  · exact T10 ⟨by omega, by omega⟩ (y_sq e1 h2 rfl rfl)
  · exact T10n nn (y_sq e1 h2 rfl rfl)
end NTE
theorem n_c146 {X : aX} : n_pc X a_m146 3 false n_s146 := by
  intro us h v C S K0 hl _ hI hc hm hk
  match us, hl with
  | [a, n, mq], _ =>
    refine c_test (d := 195) hI.1 hI.2.1 hc (n_toW hI.1 hI.2.1.1 hc hm) (fun q H e => ?_) (fun q H e => ?_)
    · rw [show n_s146 [a, n, mq] v = (n_up v 143 (Int32.ofInt 1), n_tr v a.toInt.toNat (n_tM n mq)) from if_pos q] at hk
      dsimp only at hk
      obtain ⟨r1, r2, r3⟩ := n_Qs_pc hI hc hm e
      exact hk H r1 r2 r3
    · rw [show n_s146 [a, n, mq] v = (v, Int32.ofInt (-1)) from if_neg q] at hk
      dsimp only at hk
      exact hk H ⟨e.1, y_jfr y_JA_x e rfl rfl hI.2.1, t_day_frc e rfl hI.2.2⟩ (n_cS_V (n_fk_c (ex := []) e rfl) hc) (n_mS_V (n_fm_ok e rfl) hm)
theorem n_r268 {X : aX} : n_pr X a_m268 3 false n_s146 := by
  intro us h w v C S K0 hl _ hI hc hm hk
  match us, hl with
  | [a, n, mq], _ =>
    refine f_test (d := 196) hI.1 hI.2.1.1 hm (fun q H e qJ => ?_) (fun q H e => ?_)
    · rw [show n_s146 [a, n, mq] v = (n_up v 143 (Int32.ofInt 1), n_tr v a.toInt.toNat (n_tM n mq)) from if_pos q] at hk
      dsimp only at hk
      exact hk H ⟨e.1, ⟨qJ, j_say_e e rfl rfl hI.2.1.2.1, j_cost_e e rfl rfl hI.2.1.2.2⟩, t_day_fr e rfl hI.2.2⟩ (n_cS_V (n_fk_c (ex := []) e rfl) hc) (n_mV_3 (n_mS_V (n_fk_m e rfl) hm))
    · rw [show n_s146 [a, n, mq] v = (v, Int32.ofInt (-1)) from if_neg q] at hk
      dsimp only at hk
      exact hk H ⟨e.1, ⟨y_J_fr e rfl rfl hI.2.1.1, j_say_e e rfl rfl hI.2.1.2.1, j_cost_e e rfl rfl hI.2.1.2.2⟩, t_day_fr e rfl hI.2.2⟩ (n_cS_V (n_fk_c (ex := []) e rfl) hc) (n_mS_V (n_fk_m e rfl) hm)
end PT33hm
section PT33i
/-! ===== v5: methods that leave what is held alike (laid by wip/tools/mk33i.py) ===== -/
theorem n_a28 {X : aX} : n_toldI X 200 a_m28 2 1 false := n_ctxW (n := 1) (m := 0) (b := false) (fun v => z_x10_p n_Wv_p n_h9) rfl rfl rfl (by decide +kernel) (by decide +kernel) rfl rfl (by decide +kernel) (by decide +kernel) (by decide +kernel)
theorem n_a33 {X : aX} : n_toldI X 200 a_m33 2 1 false := n_ctxW (n := 1) (m := 0) (b := false) (fun v => z_x18_p n_Wv_p n_h9) rfl rfl rfl (by decide +kernel) (by decide +kernel) rfl rfl (by decide +kernel) (by decide +kernel) (by decide +kernel)
theorem n_a46 {X : aX} : n_toldI X 200 a_m46 2 1 false := n_ctxW (n := 1) (m := 2) (b := false) (fun v => z_x19_p n_Wv_p n_h9) rfl rfl rfl (by decide +kernel) (by decide +kernel) rfl rfl (by decide +kernel) (by decide +kernel) (by decide +kernel)
theorem n_a47 {X : aX} : n_toldI X 200 a_m47 2 0 false := n_ctxW (n := 0) (m := 2) (b := false) (fun v => z_x21_p n_Wv_p n_h9) rfl rfl rfl (by decide +kernel) (by decide +kernel) rfl rfl (by decide +kernel) (by decide +kernel) (by decide +kernel)
theorem n_a49 {X : aX} : n_toldI X 200 a_m49 2 2 false := n_ctxW (n := 2) (m := 0) (b := false) (fun v => z_x23_p n_Wv_p n_h9) rfl rfl rfl (by decide +kernel) (by decide +kernel) rfl rfl (by decide +kernel) (by decide +kernel) (by decide +kernel)
theorem n_a52 {X : aX} : n_toldI X 200 a_m52 2 1 false := n_ctxW (n := 1) (m := 3) (b := false) (fun v => z_x28_p n_Wv_p n_h9) rfl rfl rfl (by decide +kernel) (by decide +kernel) rfl rfl (by decide +kernel) (by decide +kernel) (by decide +kernel)
theorem n_a54 {X : aX} : n_toldI X 200 a_m54 2 2 false := n_ctxW (n := 2) (m := 0) (b := false) (fun v => z_x30_p n_Wv_p n_h9) rfl rfl rfl (by decide +kernel) (by decide +kernel) rfl rfl (by decide +kernel) (by decide +kernel) (by decide +kernel)
theorem n_a57 {X : aX} : n_told X 200 a_m57 2 2 false := n_ctx0 (n := 2) (m := 1) (b := false) (z_x31_s (y_jx_l y_JA_x)) rfl rfl rfl (by decide +kernel) (by decide +kernel) rfl rfl (by decide +kernel) (by decide +kernel) (by decide +kernel)
theorem n_a58 {X : aX} : n_toldI X 200 a_m58 2 1 false := n_ctxW (n := 1) (m := 2) (b := false) (fun v => z_x32_p n_Wv_p n_h9) rfl rfl rfl (by decide +kernel) (by decide +kernel) rfl rfl (by decide +kernel) (by decide +kernel) (by decide +kernel)
theorem n_a61 {X : aX} : n_told X 200 a_m61 2 3 false := n_ctx0 (n := 3) (m := 0) (b := false) (z_x35_s (y_jx_l y_JA_x)) rfl rfl rfl (by decide +kernel) (by decide +kernel) rfl rfl (by decide +kernel) (by decide +kernel) (by decide +kernel)
theorem n_a66 {X : aX} : n_toldI X 200 a_m66 2 3 false := n_ctxW (n := 3) (m := 3) (b := false) (fun v => z_x37_p n_Wv_p n_h9) rfl rfl rfl (by decide +kernel) (by decide +kernel) rfl rfl (by decide +kernel) (by decide +kernel) (by decide +kernel)
theorem n_a68 {X : aX} : n_toldI X 200 a_m68 2 1 false := n_ctxW (n := 1) (m := 2) (b := false) (fun v => z_x39_p n_Wv_p n_h9) rfl rfl rfl (by decide +kernel) (by decide +kernel) rfl rfl (by decide +kernel) (by decide +kernel) (by decide +kernel)
theorem n_a71 {X : aX} : n_toldI X 200 a_m71 2 1 false := n_ctxW (n := 1) (m := 6) (b := false) (fun v => z_x40_p n_Wv_p n_h9) rfl rfl rfl (by decide +kernel) (by decide +kernel) rfl rfl (by decide +kernel) (by decide +kernel) (by decide +kernel)
theorem n_a92 {X : aX} : n_toldI X 200 a_m92 2 1 false := n_ctxW (n := 1) (m := 0) (b := false) (fun v => z_x463_p n_Wv_p n_h9) rfl rfl rfl (by decide +kernel) (by decide +kernel) rfl rfl (by decide +kernel) (by decide +kernel) (by decide +kernel)
theorem n_a112 {X : aX} : n_toldI X 200 a_m112 2 2 false := n_ctxW (n := 2) (m := 1) (b := false) (fun v => z_x464_p n_Wv_p n_h9) rfl rfl rfl (by decide +kernel) (by decide +kernel) rfl rfl (by decide +kernel) (by decide +kernel) (by decide +kernel)
theorem n_a113 {X : aX} : n_toldI X 200 a_m113 2 2 false := n_ctxW (n := 2) (m := 0) (b := false) (fun v => z_x465_p n_Wv_p n_h9) rfl rfl rfl (by decide +kernel) (by decide +kernel) rfl rfl (by decide +kernel) (by decide +kernel) (by decide +kernel)
theorem n_a114 {X : aX} : n_toldI X 200 a_m114 2 1 false := n_ctxW (n := 1) (m := 3) (b := false) (fun v => z_x466_p n_Wv_p n_h9) rfl rfl rfl (by decide +kernel) (by decide +kernel) rfl rfl (by decide +kernel) (by decide +kernel) (by decide +kernel)
theorem n_a115 {X : aX} : n_told X 200 a_m115 2 4 false := n_ctx0 (n := 4) (m := 1) (b := false) (z_x469_s (y_jx_l y_JA_x)) rfl rfl rfl (by decide +kernel) (by decide +kernel) rfl rfl (by decide +kernel) (by decide +kernel) (by decide +kernel)
theorem n_a128 {X : aX} : n_toldI X 200 a_m128 2 2 false := n_ctxW (n := 2) (m := 1) (b := false) (fun v => z_x491_p n_Wv_p n_h9) rfl rfl rfl (by decide +kernel) (by decide +kernel) rfl rfl (by decide +kernel) (by decide +kernel) (by decide +kernel)
theorem n_a137 {X : aX} : n_toldI X 200 a_m137 2 2 false := n_ctxW (n := 2) (m := 4) (b := false) (fun v => z_x493_p n_Wv_p n_h9) rfl rfl rfl (by decide +kernel) (by decide +kernel) rfl rfl (by decide +kernel) (by decide +kernel) (by decide +kernel)
theorem n_a139 {X : aX} : n_toldI X 200 a_m139 2 2 false := n_ctxW (n := 2) (m := 5) (b := false) (fun v => z_x496_p n_Wv_p n_h9) rfl rfl rfl (by decide +kernel) (by decide +kernel) rfl rfl (by decide +kernel) (by decide +kernel) (by decide +kernel)
theorem n_a143 {X : aX} : n_told X 200 a_m143 2 4 false := n_ctx0 (n := 4) (m := 0) (b := false) (z_x497_s (y_jx_l y_JA_x)) rfl rfl rfl (by decide +kernel) (by decide +kernel) rfl rfl (by decide +kernel) (by decide +kernel) (by decide +kernel)
theorem n_a145 {X : aX} : n_told X 200 a_m145 2 2 false := n_ctx0 (n := 2) (m := 3) (b := false) (z_x498_s (y_jx_l y_JA_x)) rfl rfl rfl (by decide +kernel) (by decide +kernel) rfl rfl (by decide +kernel) (by decide +kernel) (by decide +kernel)
theorem n_a149 {X : aX} : n_told X 200 a_m149 2 5 false := n_ctx0 (n := 5) (m := 2) (b := false) (z_x501_s (y_jx_l y_JA_x)) rfl rfl rfl (by decide +kernel) (by decide +kernel) rfl rfl (by decide +kernel) (by decide +kernel) (by decide +kernel)
theorem n_a153 {X : aX} : n_told X 200 a_m153 2 2 false := n_ctx0 (n := 2) (m := 0) (b := false) (z_x502_s (y_jx_l y_JA_x)) rfl rfl rfl (by decide +kernel) (by decide +kernel) rfl rfl (by decide +kernel) (by decide +kernel) (by decide +kernel)
theorem n_a156 {X : aX} : n_told X 200 a_m156 2 2 false := n_ctx0 (n := 2) (m := 3) (b := false) (z_x503_s (y_jx_l y_JA_x)) rfl rfl rfl (by decide +kernel) (by decide +kernel) rfl rfl (by decide +kernel) (by decide +kernel) (by decide +kernel)
theorem n_a159 {X : aX} : n_told X 200 a_m159 2 1 false := n_ctx0 (n := 1) (m := 2) (b := false) (z_x507_s (y_jx_l y_JA_x)) rfl rfl rfl (by decide +kernel) (by decide +kernel) rfl rfl (by decide +kernel) (by decide +kernel) (by decide +kernel)
theorem n_a162 {X : aX} : n_told X 200 a_m162 2 1 false := n_ctx0 (n := 1) (m := 5) (b := false) (z_x508_s (y_jx_l y_JA_x)) rfl rfl rfl (by decide +kernel) (by decide +kernel) rfl rfl (by decide +kernel) (by decide +kernel) (by decide +kernel)
theorem n_a168 {X : aX} : n_told X 200 a_m168 2 1 false := n_ctx0 (n := 1) (m := 0) (b := false) (z_x511_s (y_jx_l y_JA_x)) rfl rfl rfl (by decide +kernel) (by decide +kernel) rfl rfl (by decide +kernel) (by decide +kernel) (by decide +kernel)
theorem n_a183 {X : aX} : n_told X 200 a_m183 155 1 false := by
  intro us h C S K0 hl hb hI hk
  obtain ⟨hr, ⟨hJ, hS, hC⟩, hday⟩ := hI
  match us, hl with
  | [u0], _ => exact p_weight hr hJ (fun r H hf => hk r H ⟨hf.1, ⟨(y_J_fr hf rfl rfl hJ), (j_say_e hf rfl rfl hS), (j_cost_e hf rfl rfl hC)⟩, t_day_fr hf rfl hday⟩ (n_fk_c (ex := []) hf rfl) (n_fk_m hf rfl))
theorem n_a187 {X : aX} : n_told X 200 a_m187 155 1 false := by
  intro us h C S K0 hl hb hI hk
  obtain ⟨hr, ⟨hJ, hS, hC⟩, hday⟩ := hI
  match us, hl with
  | [u0], _ => exact p_chance hr hJ (fun r H hf q0 => hk r H ⟨hf.1, ⟨q0, (j_say_e hf rfl rfl hS), (j_cost_e hf rfl rfl hC)⟩, t_day_fr hf rfl hday⟩ (n_fk_c (ex := []) hf rfl) (n_fk_m hf rfl))
theorem n_a198 {X : aX} : n_told X 200 a_m198 155 1 false := by
  intro us h C S K0 hl hb hI hk
  obtain ⟨hr, ⟨hJ, hS, hC⟩, hday⟩ := hI
  match us, hl with
  | [u0], _ => exact p_odds hr hJ (fun r H hf q0 => hk r H ⟨hf.1, ⟨q0, (j_say_e hf rfl rfl hS), (j_cost_e hf rfl rfl hC)⟩, t_day_fr hf rfl hday⟩ (n_fk_c (ex := []) hf rfl) (n_fk_m hf rfl))
theorem n_a199 {X : aX} : n_told X 200 a_m199 155 0 false := by
  intro us h C S K0 hl hb hI hk
  obtain ⟨hr, ⟨hJ, hS, hC⟩, hday⟩ := hI
  match us, hl with
  | [], _ => exact p_likely hr hJ (fun r H hf q0 => hk r H ⟨hf.1, ⟨q0, (j_say_e hf rfl rfl hS), (j_cost_e hf rfl rfl hC)⟩, t_day_fr hf rfl hday⟩ (n_fk_c (ex := []) hf rfl) (n_fk_m hf rfl))
theorem n_a200 {X : aX} : n_told X 200 a_m200 155 2 false := by
  intro us h C S K0 hl hb hI hk
  obtain ⟨hr, ⟨hJ, hS, hC⟩, hday⟩ := hI
  match us, hl with
  | [u0, u1], _ => exact p_moves hr hJ (fun r H hf q0 => hk r H ⟨hf.1, ⟨q0, (j_say_e hf rfl rfl hS), (j_cost_e hf rfl rfl hC)⟩, t_day_fr hf rfl hday⟩ (n_fk_c (ex := []) hf rfl) (n_fk_m hf rfl))
theorem n_a202 {X : aX} : n_told X 200 a_m202 155 1 false := by
  intro us h C S K0 hl hb hI hk
  obtain ⟨hr, ⟨hJ, hS, hC⟩, hday⟩ := hI
  match us, hl with
  | [u0], _ => exact p_most hr hJ (fun r H hf q0 => hk r H ⟨hf.1, ⟨q0, (j_say_e hf rfl rfl hS), (j_cost_e hf rfl rfl hC)⟩, t_day_fr hf rfl hday⟩ (n_fk_c (ex := []) hf rfl) (n_fk_m hf rfl))
theorem n_a204 {X : aX} : n_told X 200 a_m204 155 2 false := by
  intro us h C S K0 hl hb hI hk
  obtain ⟨hr, ⟨hJ, hS, hC⟩, hday⟩ := hI
  match us, hl with
  | [u0, u1], _ => exact p_worth hr hJ (fun r H hf q0 => hk r H ⟨hf.1, ⟨q0, (j_say_e hf rfl rfl hS), (j_cost_e hf rfl rfl hC)⟩, t_day_fr hf rfl hday⟩ (n_fk_c (ex := []) hf rfl) (n_fk_m hf rfl))
theorem n_a206 {X : aX} : n_told X 200 a_m206 155 2 false := by
  intro us h C S K0 hl hb hI hk
  obtain ⟨hr, ⟨hJ, hS, hC⟩, hday⟩ := hI
  match us, hl with
  | [u0, u1], _ => exact p_cost hr hJ hC (fun r H hf q0 => hk r H ⟨hf.1, ⟨(t_J161 hf hJ), (j_say_e hf rfl rfl hS), q0⟩, t_day_fr hf rfl hday⟩ (n_fk_c (ex := []) hf rfl) (n_fk_m hf rfl))
theorem n_a207 {X : aX} : n_told X 200 a_m207 155 1 false := by
  intro us h C S K0 hl hb hI hk
  obtain ⟨hr, ⟨hJ, hS, hC⟩, hday⟩ := hI
  match us, hl with
  | [u0], _ => exact p_need hr hJ hC (fun r H hf q0 => hk r H ⟨hf.1, ⟨q0, (j_say_e hf rfl rfl hS), (j_cost_e hf rfl rfl hC)⟩, t_day_fr hf rfl hday⟩ (n_fk_c (ex := []) hf rfl) (n_fk_m hf rfl))
theorem n_a208 {X : aX} : n_told X 200 a_m208 155 3 false := by
  intro us h C S K0 hl hb hI hk
  obtain ⟨hr, ⟨hJ, hS, hC⟩, hday⟩ := hI
  match us, hl with
  | [u0, u1, u2], _ => exact p_apart hr hJ (fun r H hf q0 => hk r H ⟨hf.1, ⟨q0, (j_say_e hf rfl rfl hS), (j_cost_e hf rfl rfl hC)⟩, t_day_fr hf rfl hday⟩ (n_fk_c (ex := []) hf rfl) (n_fk_m hf rfl))
theorem n_a213 {X : aX} : n_told X 200 a_m213 155 3 false := by
  intro us h C S K0 hl hb hI hk
  obtain ⟨hr, ⟨hJ, hS, hC⟩, hday⟩ := hI
  match us, hl with
  | [u0, u1, u2], _ => exact p_even hr hJ (fun r H hf q0 => hk r H ⟨hf.1, ⟨q0, (j_say_e hf rfl rfl hS), (j_cost_e hf rfl rfl hC)⟩, t_day_fr hf rfl hday⟩ (n_fk_c (ex := []) hf rfl) (n_fk_m hf rfl))
theorem n_a214 {X : aX} : n_told X 200 a_m214 155 1 false := by
  intro us h C S K0 hl hb hI hk
  obtain ⟨hr, ⟨hJ, hS, hC⟩, hday⟩ := hI
  match us, hl with
  | [u0], _ => exact p_joined hr hJ (fun r H hf q0 => hk r H ⟨hf.1, ⟨q0, (j_say_e hf rfl rfl hS), (j_cost_e hf rfl rfl hC)⟩, t_day_fr hf rfl hday⟩ (n_fk_c (ex := []) hf rfl) (n_fk_m hf rfl))
theorem n_a217 {X : aX} : n_told X 200 a_m217 155 1 false := by
  intro us h C S K0 hl hb hI hk
  obtain ⟨hr, ⟨hJ, hS, hC⟩, hday⟩ := hI
  match us, hl with
  | [u0], _ => exact p_bounds hr hJ (fun r H hf q0 => hk r H ⟨hf.1, ⟨q0, (j_say_e hf rfl rfl hS), (j_cost_e hf rfl rfl hC)⟩, t_day_fr hf rfl hday⟩ (n_fk_c (ex := []) hf rfl) (n_fk_m hf rfl))
theorem n_a233 {X : aX} : n_told X 200 a_m233 155 1 false := by
  intro us h C S K0 hl hb hI hk
  obtain ⟨hr, ⟨hJ, hS, hC⟩, hday⟩ := hI
  match us, hl with
  | [u0], _ => exact p_so hr hJ hS (fun r H hf q0 q1 => hk r H ⟨hf.1, ⟨q0, q1, (j_cost_e hf rfl rfl hC)⟩, t_day_fr hf rfl hday⟩ (n_fk_c (ex := []) hf rfl) (n_fk_m hf rfl))
theorem n_a246 {X : aX} : n_told X 200 a_m246 155 2 false := by
  intro us h C S K0 hl hb hI hk
  obtain ⟨hr, ⟨hJ, hS, hC⟩, hday⟩ := hI
  match us, hl with
  | [u0, u1], _ => exact p_term hr hJ hS (fun r H hf q0 q1 => hk r H ⟨hf.1, ⟨q0, q1, (j_cost_e hf rfl rfl hC)⟩, t_day_fr hf rfl hday⟩ (n_fk_c (ex := []) hf rfl) (n_fk_m hf rfl))
theorem n_a247 {X : aX} : n_told X 200 a_m247 155 2 false := by
  intro us h C S K0 hl hb hI hk
  obtain ⟨hr, ⟨hJ, hS, hC⟩, hday⟩ := hI
  match us, hl with
  | [u0, u1], _ => exact p_slip hr hJ hS (fun r H hf q0 q1 => hk r H ⟨hf.1, ⟨q0, q1, (j_cost_e hf rfl rfl hC)⟩, t_day_fr hf rfl hday⟩ (n_fk_c (ex := []) hf rfl) (n_fk_m hf rfl))
theorem n_a248 {X : aX} : n_told X 200 a_m248 155 1 false := by
  intro us h C S K0 hl hb hI hk
  obtain ⟨hr, ⟨hJ, hS, hC⟩, hday⟩ := hI
  match us, hl with
  | [u0], _ => exact p_which hr hJ hS (fun r H hf q0 q1 => hk r H ⟨hf.1, ⟨q0, q1, (j_cost_e hf rfl rfl hC)⟩, t_day_fr hf rfl hday⟩ (n_fk_c (ex := []) hf rfl) (n_fk_m hf rfl))
theorem n_a249 {X : aX} : n_told X 200 a_m249 155 4 false := by
  intro us h C S K0 hl hb hI hk
  obtain ⟨hr, ⟨hJ, hS, hC⟩, hday⟩ := hI
  match us, hl with
  | [u0, u1, u2, u3], _ => exact p_span hr hJ (fun r H hf q0 => hk r H ⟨hf.1, ⟨q0, (j_say_e hf rfl rfl hS), (j_cost_e hf rfl rfl hC)⟩, t_day_fr hf rfl hday⟩ (n_fk_c (ex := []) hf rfl) (n_fk_m hf rfl))
theorem n_a256 {X : aX} : n_told X 200 a_m256 155 2 false := by
  intro us h C S K0 hl hb hI hk
  obtain ⟨hr, ⟨hJ, hS, hC⟩, hday⟩ := hI
  match us, hl with
  | [u0, u1], _ => exact p_hear hr hJ (fun r H hf q0 => hk r H ⟨hf.1, ⟨q0, (j_say_e hf rfl rfl hS), (j_cost_e hf rfl rfl hC)⟩, t_day_fr hf rfl hday⟩ (n_fk_c (ex := []) hf rfl) (n_fk_m hf rfl))
theorem n_a262 {X : aX} : n_told X 200 a_m262 155 2 false := by
  intro us h C S K0 hl hb hI hk
  obtain ⟨hr, ⟨hJ, hS, hC⟩, hday⟩ := hI
  match us, hl with
  | [u0, u1], _ => exact p_errs hr hJ (fun r H hf q0 => hk r H ⟨hf.1, ⟨q0, (j_say_e hf rfl rfl hS), (j_cost_e hf rfl rfl hC)⟩, t_day_fr hf rfl hday⟩ (n_fk_c (ex := []) hf rfl) (n_fk_m hf rfl))
theorem n_a263 {X : aX} : n_told X 200 a_m263 155 2 false := by
  intro us h C S K0 hl hb hI hk
  obtain ⟨hr, ⟨hJ, hS, hC⟩, hday⟩ := hI
  match us, hl with
  | [u0, u1], _ => exact p_order hr hJ (fun r H hf q0 => hk r H ⟨hf.1, ⟨q0, (j_say_e hf rfl rfl hS), (j_cost_e hf rfl rfl hC)⟩, t_day_fr hf rfl hday⟩ (n_fk_c (ex := []) hf rfl) (n_fk_m hf rfl))
theorem n_a265 {X : aX} : n_told X 200 a_m265 155 4 false := by
  intro us h C S K0 hl hb hI hk
  obtain ⟨hr, ⟨hJ, hS, hC⟩, hday⟩ := hI
  match us, hl with
  | [u0, u1, u2, u3], _ => exact p_list hr (fun r H hf => hk r H ⟨hf.1, ⟨(y_J_fr hf rfl rfl hJ), (j_say_e hf rfl rfl hS), (j_cost_e hf rfl rfl hC)⟩, t_day_fr hf rfl hday⟩ (n_fk_c (ex := []) hf rfl) (n_fk_m hf rfl))
theorem n_a267 {X : aX} : n_told X 200 a_m267 155 2 false := by
  intro us h C S K0 hl hb hI hk
  obtain ⟨hr, ⟨hJ, hS, hC⟩, hday⟩ := hI
  match us, hl with
  | [u0, u1], _ => exact p_many hr (fun H hf => hk _ H ⟨hf.1, ⟨(y_J_fr hf rfl rfl hJ), (j_say_e hf rfl rfl hS), (j_cost_e hf rfl rfl hC)⟩, t_day_fr hf rfl hday⟩ (n_fk_c (ex := []) hf rfl) (n_fk_m hf rfl))
theorem n_a270 {X : aX} : n_told X 200 a_m270 155 5 false := by
  intro us h C S K0 hl hb hI hk
  obtain ⟨hr, ⟨hJ, hS, hC⟩, hday⟩ := hI
  match us, hl with
  | [u0, u1, u2, u3, u4], _ => exact p_land hr hJ (fun r H hf q0 => hk r H ⟨hf.1, ⟨q0, (j_say_e hf rfl rfl hS), (j_cost_e hf rfl rfl hC)⟩, t_day_fr hf rfl hday⟩ (n_fk_c (ex := []) hf rfl) (n_fk_m hf rfl))
theorem n_a271 {X : aX} : n_told X 200 a_m271 155 2 false := by
  intro us h C S K0 hl hb hI hk
  obtain ⟨hr, ⟨hJ, hS, hC⟩, hday⟩ := hI
  match us, hl with
  | [u0, u1], _ => exact p_mark hr hJ (fun r H hf q0 => hk r H ⟨hf.1, ⟨q0, (j_say_e hf rfl rfl hS), (j_cost_e hf rfl rfl hC)⟩, t_day_fr hf rfl hday⟩ (n_fk_c (ex := []) hf rfl) (n_fk_m hf rfl))
theorem n_a272 {X : aX} : n_told X 200 a_m272 155 2 false := by
  intro us h C S K0 hl hb hI hk
  obtain ⟨hr, ⟨hJ, hS, hC⟩, hday⟩ := hI
  match us, hl with
  | [u0, u1], _ => exact p_rare hr hJ (fun r H hf => hk r H ⟨hf.1, ⟨(y_J_fr hf rfl rfl hJ), (j_say_e hf rfl rfl hS), (j_cost_e hf rfl rfl hC)⟩, t_day_fr hf rfl hday⟩ (n_fk_c (ex := []) hf rfl) (n_fk_m hf rfl))
theorem n_a274 {X : aX} : n_told X 200 a_m274 155 1 false := by
  intro us h C S K0 hl hb hI hk
  obtain ⟨hr, ⟨hJ, hS, hC⟩, hday⟩ := hI
  match us, hl with
  | [u0], _ => exact p_shifts hr (fun r H hf => hk r H ⟨hf.1, ⟨(y_J_fr hf rfl rfl hJ), (j_say_e hf rfl rfl hS), (j_cost_e hf rfl rfl hC)⟩, t_day_fr hf rfl hday⟩ (n_fk_c (ex := []) hf rfl) (n_fk_m hf rfl))
theorem n_a278 {X : aX} : n_told X 200 a_m278 155 1 false := by
  intro us h C S K0 hl hb hI hk
  obtain ⟨hr, ⟨hJ, hS, hC⟩, hday⟩ := hI
  match us, hl with
  | [u0], _ => exact p_enough hr (fun r H hf => hk r H ⟨hf.1, ⟨(y_J_fr hf rfl rfl hJ), (j_say_e hf rfl rfl hS), (j_cost_e hf rfl rfl hC)⟩, t_day_fr hf rfl hday⟩ (n_fk_c (ex := []) hf rfl) (n_fk_m hf rfl))
theorem n_a281 {X : aX} : n_told X 200 a_m281 155 1 false := by
  intro us h C S K0 hl hb hI hk
  obtain ⟨hr, ⟨hJ, hS, hC⟩, hday⟩ := hI
  match us, hl with
  | [u0], _ => exact p_count hr hJ (fun r H hf => hk r H ⟨hf.1, ⟨(y_J_fr hf rfl rfl hJ), (j_say_e hf rfl rfl hS), (j_cost_e hf rfl rfl hC)⟩, t_day_fr hf rfl hday⟩ (n_fk_c (ex := []) hf rfl) (n_fk_m hf rfl))
theorem n_a283 {X : aX} : n_told X 200 a_m283 155 2 false := by
  intro us h C S K0 hl hb hI hk
  obtain ⟨hr, ⟨hJ, hS, hC⟩, hday⟩ := hI
  match us, hl with
  | [u0, u1], _ => exact p_of hr hJ (fun r H hf => hk r H ⟨hf.1, ⟨(y_J_fr hf rfl rfl hJ), (j_say_e hf rfl rfl hS), (j_cost_e hf rfl rfl hC)⟩, t_day_fr hf rfl hday⟩ (n_fk_c (ex := []) hf rfl) (n_fk_m hf rfl))
theorem n_a287 {X : aX} : n_toldL X 200 a_m287 155 1 false := by
  intro us h C S K0 hl hb hI hk
  obtain ⟨hr, ⟨hJ, hS, hC⟩, hday⟩ := hI
  match us, hl with
  | [u0], _ => exact p_row hr (fun r H hf => hk r H ⟨hf.1, ⟨(y_J_fr hf rfl rfl hJ), (j_say_e hf rfl rfl hS), (j_cost_e hf rfl rfl hC)⟩, t_day_fr hf rfl hday⟩ (n_fk_c (ex := []) hf rfl) (n_fk_m hf rfl))
theorem n_I_out {h H : aH} (e : y_fr h H [] [195]) (q : n_I h) : n_I H := n_same_I (n_fk_c (ex := []) e rfl) (n_fk_m e rfl) (t_I_out e q.1) q
theorem n_I_app {H l : aH} (q : n_I H) : n_I (H ++ l) := by
  have hr := q.1.1
  have hlen : 195 < H.length := by
    obtain ⟨e, h1, -⟩ := hr.1 195 _ rfl
    exact (List.getElem?_eq_some_iff.mp h1).1
  have hg : ∀ o, o < 196 → (H ++ l)[o]? = H[o]? := fun o ho => List.getElem?_append_left (by omega)
  have hf : ∀ k, k < 196 * 128 → w_f (H ++ l) k = w_f H k := by
    intro k hk
    unfold w_f
    rw [hg _ (by omega)]
  have ha : ∀ o, o < 196 → w_a (H ++ l) o = w_a H o := by
    intro o ho
    unfold w_a
    rw [hg _ ho]
  refine n_same_I ⟨fun k hk => hf k ?_, fun o ho => ha o ?_⟩ ⟨fun p hp => hf p.2 ?_, fun o ho => ha o ?_, hf 19600 (by decide)⟩ (t_I_app q.1) q
  · have : ∀ k ∈ nC, k < 196 * 128 := by decide
    exact this k hk
  · have : ∀ o ∈ nCA, o < 196 := by decide
    exact this o ho
  · have : ∀ p ∈ nM, p.2 < 196 * 128 := by decide
    exact this p hp
  · have : ∀ o ∈ nMA, o < 196 := by decide
    exact this o ho
theorem n_S169 {X : aX} : n_S X n_I 169 2 := by
  refine ⟨a_m169, rfl, rfl, rfl, fun us h C S K0 hl hI hk => ?_⟩
  match us, hl with
  | [a, b], _ =>
    have T8 : ∀ {G : aH} {r : Int32}, y_fr h G [] [] → aOK s_P X 201 a_m169 8 [some (.ref 2), some (.int a), some (.int b), some (.ref 197), none] [.int r, .int (Int32.ofInt 0), .ref 197] G C S K0 := by
      intro G r e
      refine w_go z_hl [] [] 30 e.1 ?_
      exact ⟨⟨by decide, by decide⟩, y_l64 _, fun l hl len bb => fun H hH => hk _ H C S (n_I_out (y_st (y_mo e rfl rfl) hH (by repeat (first | exact w_nil | refine w_cons (Or.inl (y_m rfl)) ?_ | refine w_cons (Or.inr (by assumption)) ?_)) (by repeat (first | exact w_nil | refine w_cons (Or.inl (y_m rfl)) ?_ | refine w_cons (Or.inr (by assumption)) ?_))) hI) (by omega) (by omega)⟩
    show aOK s_P X 201 a_m169 0 [some (.ref 2), some (.int a), some (.int b), some (.ref 197), none] [] h C S K0
    refine aOK_op rfl rfl ?_
    refine aOK_op rfl rfl ?_
    refine aOK_op rfl rfl ?_
    refine aOK_op rfl rfl ?_
    refine aOK_op rfl rfl ?_
    have hinv : a_inv s_P (.invokevirtual 7) (18, 170, 11, 1305159) [.int b, .int a, .ref 2, .int (Int32.ofInt 0), .ref 197] h = some (a_m170, [.ref 2, .int a, .int b], [.int (Int32.ofInt 0), .ref 197]) := by
      have hrc := l_recv hI.1.1 (r0 := 2) (ci := 11) rfl
      show (if a_recv h (.ref 2) 11 = true ∧ _ ∧ _ then some _ else none) = _
      rw [if_pos ⟨hrc, Nat.le_of_ble_eq_true rfl, Nat.le_of_ble_eq_true rfl⟩]
      rfl
    refine aOK_call rfl (by cases X <;> rfl) rfl hinv ?_
    show aOK s_P X (198 + 2) a_m170 0 [some (.ref 2), some (.int a), some (.int b)] [] h C S _
    refine c_of hI.1.1 (fun r H e => Or.inr ⟨fun n q => (by cases q), ?_⟩) (fun H e => Or.inl ⟨⟨0, rfl⟩, rfl, hk _ _ _ _ (n_I_app (n_I_out (y_mo e rfl rfl) hI)) (by omega) (by omega)⟩)
    exact T8 e
theorem n_S171 {X : aX} : n_S X n_I 171 1 := by
  refine ⟨a_m171, rfl, rfl, rfl, fun us h C S K0 hl hI hk => ?_⟩
  match us, hl with
  | [a], _ =>
    have T7 : ∀ {G : aH} {r : Int64}, y_fr h G [] [] → aOK s_P X 201 a_m171 7 [some (.ref 2), some (.int a), some (.ref 197), none] [.long r, .int (Int32.ofInt 0), .ref 197] G C S K0 := by
      intro G r e
      refine w_go z_hl [] [] 30 e.1 ?_
      exact ⟨⟨by decide, by decide⟩, y_l64 _, fun l hl len bb => fun H hH => hk _ H C S (n_I_out (y_st (y_mo e rfl rfl) hH (by repeat (first | exact w_nil | refine w_cons (Or.inl (y_m rfl)) ?_ | refine w_cons (Or.inr (by assumption)) ?_)) (by repeat (first | exact w_nil | refine w_cons (Or.inl (y_m rfl)) ?_ | refine w_cons (Or.inr (by assumption)) ?_))) hI) (by omega) (by omega)⟩
    show aOK s_P X 201 a_m171 0 [some (.ref 2), some (.int a), some (.ref 197), none] [] h C S K0
    refine aOK_op rfl rfl ?_
    refine aOK_op rfl rfl ?_
    refine aOK_op rfl rfl ?_
    refine aOK_op rfl rfl ?_
    have hinv : a_inv s_P (.invokevirtual 15) (18, 172, 11, 1105233) [.int a, .ref 2, .int (Int32.ofInt 0), .ref 197] h = some (a_m172, [.ref 2, .int a], [.int (Int32.ofInt 0), .ref 197]) := by
      have hrc := l_recv hI.1.1 (r0 := 2) (ci := 11) rfl
      show (if a_recv h (.ref 2) 11 = true ∧ _ ∧ _ then some _ else none) = _
      rw [if_pos ⟨hrc, Nat.le_of_ble_eq_true rfl, Nat.le_of_ble_eq_true rfl⟩]
      rfl
    refine aOK_call rfl (by cases X <;> rfl) rfl hinv ?_
    show aOK s_P X 200 a_m172 0 [some (.ref 2), some (.int a)] [] h C S _
    refine c_row hI.1.1 (fun r H e => Or.inr ⟨fun n q => (by cases q), ?_⟩) (fun H e => Or.inl ⟨⟨0, rfl⟩, rfl, hk _ _ _ _ (n_I_app (n_I_out (y_mo e rfl rfl) hI)) (by omega) (by omega)⟩)
    exact T7 e
noncomputable def n_st (j : Nat) (us : List Int32) (v : Nat → Int32) : (Nat → Int32) × Int32 := if j = 146 then n_s146 us v else if j = 17 then n_s17 us v else if j = 12 then n_s12 us v else if j = 21 then n_s21 us v else if j = 24 then n_s24 us v else if j = 74 then n_s74 us v else if j = 76 then n_s76 us v else if j = 77 then n_s77 us v else if j = 127 then n_s127 us v else if j = 157 then n_s157 us v else if j = 159 then n_s159 us v else if j = 163 then n_s163 us v else n_s165 us v
def n_Md (j : Nat) (us : List Int32) (g : Int32) (H : aH) : Prop := t_I H ∧ ∃ v, n_cV H (n_st j us v).1 ∧ n_mV H v ∧ (j ≠ 77 → g = (n_st j us v).2)
section NL
variable {X : aX} {j n ty kd pr : Nat} {b : Bool} {M : aM}
theorem n_of1 {r0 : Nat} (h : n_told X 200 M r0 n b) (hM : s_P[j]? = some M) (ha : M.2.2.2.2.1 = n) (hl : Nat.ble (n + 1) M.2.2.1 = true) : n_G X n_I n_Md (j, r0, n, b, 1, 0, 0) :=
  ⟨M, hM, ha, hl, fun us h0 C S K0 h1 h2 h3 => h us h0 C S K0 h1 h2 h3.1.1 (fun x H hI c m => h3.2 _ H (n_same_I c m hI h3.1) (Or.inr ⟨(show (1 : Nat) ≠ 2 by decide), x, rfl⟩))⟩
theorem n_of1I {r0 : Nat} (h : n_toldI X 200 M r0 n b) (hM : s_P[j]? = some M) (ha : M.2.2.2.2.1 = n) (hl : Nat.ble (n + 1) M.2.2.1 = true) : n_G X n_I n_Md (j, r0, n, b, 1, 0, 0) :=
  ⟨M, hM, ha, hl, fun us h0 C S K0 h1 h2 h3 => h us h0 C S K0 h1 h2 h3.1 (fun x H hI => h3.2 _ H hI (Or.inr ⟨(show (1 : Nat) ≠ 2 by decide), x, rfl⟩))⟩
theorem n_of2 {r0 : Nat} (h : n_toldL X 200 M r0 n b) (hM : s_P[j]? = some M) (ha : M.2.2.2.2.1 = n) (hl : Nat.ble (n + 1) M.2.2.1 = true) : n_G X n_I n_Md (j, r0, n, b, 2, 0, 0) :=
  ⟨M, hM, ha, hl, fun us h0 C S K0 h1 h2 h3 => h us h0 C S K0 h1 h2 h3.1.1 (fun x H hI c m => h3.2 _ H (n_same_I c m hI h3.1) (Or.inl ⟨rfl, x, rfl⟩))⟩
theorem n_ofc (h : n_pc X M n b (n_st j)) (hM : s_P[j]? = some M) (ha : M.2.2.2.2.1 = n) (hl : Nat.ble (n + 1) M.2.2.1 = true) : n_G X n_I n_Md (j, 2, n, b, ty, 1, 0) :=
  ⟨M, hM, ha, hl, fun us h0 C S K0 h1 h2 h3 => by
    obtain ⟨⟨hI, v, c, m⟩, hk⟩ := h3
    exact h us h0 v C S K0 h1 h2 hI c m (fun H i1 c1 m1 => hk _ H ⟨i1, v, c1, m1, fun _ => rfl⟩)⟩
theorem n_ofr {j' : Nat} (hj : j ≠ 77) (h : n_pr X M n b (n_st j)) (hM : s_P[j']? = some M) (ha : M.2.2.2.2.1 = n) (hl : Nat.ble (n + 1) M.2.2.1 = true) : n_G X n_I n_Md (j', 155, n, b, ty, 2, j) :=
  ⟨M, hM, ha, hl, fun us h0 C S K0 h1 h2 h3 => by
    obtain ⟨g, ⟨hI, v, c, m, hg⟩, hk⟩ := h3
    exact h us h0 _ v C S K0 h1 h2 hI c m (fun H i1 c1 m1 => hk _ H ⟨i1, _, c1, m1⟩ (fun _ => (hg hj).symm))⟩
theorem n_ofcS (h : n_pcS X M n b n_s77) (hM : s_P[77]? = some M) (ha : M.2.2.2.2.1 = n) (hl : Nat.ble (n + 1) M.2.2.1 = true) : n_G X n_I n_Md (77, 2, n, b, 1, 1, 0) :=
  ⟨M, hM, ha, hl, fun us h0 C S K0 h1 h2 h3 => by
    obtain ⟨⟨hI, v, c, m⟩, hk⟩ := h3
    exact h us h0 v C S K0 h1 h2 hI c m (fun x H i1 c1 m1 => hk x H ⟨i1, v, c1, m1, fun q => absurd rfl q⟩)⟩
theorem n_ofrS {j' : Nat} (h : n_prS X M n b n_s77) (hM : s_P[j']? = some M) (ha : M.2.2.2.2.1 = n) (hl : Nat.ble (n + 1) M.2.2.1 = true) : n_G X n_I n_Md (j', 155, n, b, 1, 2, 77) :=
  ⟨M, hM, ha, hl, fun us h0 C S K0 h1 h2 h3 => by
    obtain ⟨g, ⟨hI, v, c, m, -⟩, hk⟩ := h3
    exact h us h0 _ v C S K0 h1 h2 hI c m (fun x H i1 c1 m1 => hk x H ⟨i1, _, c1, m1⟩ (fun q => absurd (show (1 : Nat) = 3 from q) (by decide)))⟩
end NL
end PT33i
section PT33j
/-! ===== v5: the law of p35: its loop (laid by wip/tools/mkloop5.py) ===== -/
def n_tb : nT := [(12, 2, 2, false, 1, 1, 0), (17, 2, 3, false, 1, 1, 0), (21, 2, 2, false, 1, 1, 0), (24, 2, 2, false, 1, 1, 0), (28, 2, 1, false, 1, 0, 0), (33, 2, 1, false, 1, 0, 0), (46, 2, 1, false, 1, 0, 0), (47, 2, 0, false, 1, 0, 0), (49, 2, 2, false, 1, 0, 0), (52, 2, 1, false, 1, 0, 0), (54, 2, 2, false, 1, 0, 0), (57, 2, 2, false, 1, 0, 0), (58, 2, 1, false, 1, 0, 0), (61, 2, 3, false, 1, 0, 0), (66, 2, 3, false, 1, 0, 0), (68, 2, 1, false, 1, 0, 0), (71, 2, 1, false, 1, 0, 0), (74, 2, 1, false, 1, 1, 0), (76, 2, 1, false, 1, 1, 0), (77, 2, 0, false, 1, 1, 0), (92, 2, 1, false, 1, 0, 0), (112, 2, 2, false, 1, 0, 0), (113, 2, 2, false, 1, 0, 0), (114, 2, 1, false, 1, 0, 0), (115, 2, 4, false, 1, 0, 0), (119, 2, 2, false, 1, 0, 0), (125, 2, 1, false, 1, 0, 0), (127, 2, 2, false, 1, 1, 0), (128, 2, 2, false, 1, 0, 0), (137, 2, 2, false, 1, 0, 0), (139, 2, 2, false, 1, 0, 0), (143, 2, 4, false, 1, 0, 0), (145, 2, 2, false, 1, 0, 0), (146, 2, 3, false, 3, 1, 0), (149, 2, 5, false, 1, 0, 0), (153, 2, 2, false, 1, 0, 0), (156, 2, 2, false, 1, 0, 0), (157, 2, 3, true, 1, 1, 0), (159, 2, 1, false, 1, 0, 0), (162, 2, 1, false, 1, 0, 0), (163, 2, 1, false, 1, 1, 0), (165, 2, 1, false, 1, 1, 0), (168, 2, 1, false, 1, 0, 0), (173, 155, 2, false, 1, 2, 12), (177, 155, 3, false, 1, 2, 17), (180, 155, 2, false, 1, 2, 21), (181, 155, 2, false, 1, 2, 24), (183, 155, 1, false, 1, 0, 0), (187, 155, 1, false, 1, 0, 0), (198, 155, 1, false, 1, 0, 0), (199, 155, 0, false, 1, 0, 0), (200, 155, 2, false, 1, 0, 0), (202, 155, 1, false, 1, 0, 0), (204, 155, 2, false, 1, 0, 0), (206, 155, 2, false, 1, 0, 0), (207, 155, 1, false, 1, 0, 0), (208, 155, 3, false, 1, 0, 0), (213, 155, 3, false, 1, 0, 0), (214, 155, 1, false, 1, 0, 0), (217, 155, 1, false, 1, 0, 0), (219, 155, 1, false, 1, 2, 74), (220, 155, 1, false, 1, 2, 76), (221, 155, 0, false, 1, 2, 77), (233, 155, 1, false, 1, 0, 0), (246, 155, 2, false, 1, 0, 0), (247, 155, 2, false, 1, 0, 0), (248, 155, 1, false, 1, 0, 0), (249, 155, 4, false, 1, 0, 0), (250, 155, 2, false, 1, 0, 0), (254, 155, 1, false, 1, 0, 0), (255, 155, 2, false, 1, 2, 127), (256, 155, 2, false, 1, 0, 0), (262, 155, 2, false, 1, 0, 0), (263, 155, 2, false, 1, 0, 0), (265, 155, 4, false, 1, 0, 0), (267, 155, 2, false, 1, 0, 0), (268, 155, 3, false, 3, 2, 146), (270, 155, 5, false, 1, 0, 0), (271, 155, 2, false, 1, 0, 0), (272, 155, 2, false, 1, 0, 0), (273, 155, 3, true, 1, 2, 157), (274, 155, 1, false, 1, 0, 0), (278, 155, 1, false, 1, 0, 0), (279, 155, 1, false, 1, 2, 163), (280, 155, 1, false, 1, 2, 165), (281, 155, 1, false, 1, 0, 0), (283, 155, 2, false, 1, 0, 0), (287, 155, 1, false, 2, 0, 0)]
section NJ
variable {X : aX}
def n_tbx0 : nT := [(12, 2, 2, false, 1, 1, 0), (17, 2, 3, false, 1, 1, 0), (21, 2, 2, false, 1, 1, 0), (24, 2, 2, false, 1, 1, 0), (28, 2, 1, false, 1, 0, 0), (33, 2, 1, false, 1, 0, 0), (46, 2, 1, false, 1, 0, 0), (47, 2, 0, false, 1, 0, 0), (49, 2, 2, false, 1, 0, 0), (52, 2, 1, false, 1, 0, 0), (54, 2, 2, false, 1, 0, 0), (57, 2, 2, false, 1, 0, 0), (58, 2, 1, false, 1, 0, 0), (61, 2, 3, false, 1, 0, 0), (66, 2, 3, false, 1, 0, 0), (68, 2, 1, false, 1, 0, 0), (71, 2, 1, false, 1, 0, 0), (74, 2, 1, false, 1, 1, 0), (76, 2, 1, false, 1, 1, 0), (77, 2, 0, false, 1, 1, 0), (92, 2, 1, false, 1, 0, 0), (112, 2, 2, false, 1, 0, 0)]
theorem n_tbx0_G : ∀ e ∈ n_tbx0, n_G X n_I n_Md e := List.forall_mem_cons.mpr ⟨(n_ofc (n_c12) rfl rfl rfl), List.forall_mem_cons.mpr ⟨(n_ofc (n_c17) rfl rfl rfl), List.forall_mem_cons.mpr ⟨(n_ofc (n_c21) rfl rfl rfl), List.forall_mem_cons.mpr ⟨(n_ofc (n_c24) rfl rfl rfl), List.forall_mem_cons.mpr ⟨(n_of1I n_a28 rfl rfl rfl), List.forall_mem_cons.mpr ⟨(n_of1I n_a33 rfl rfl rfl), List.forall_mem_cons.mpr ⟨(n_of1I n_a46 rfl rfl rfl), List.forall_mem_cons.mpr ⟨(n_of1I n_a47 rfl rfl rfl), List.forall_mem_cons.mpr ⟨(n_of1I n_a49 rfl rfl rfl), List.forall_mem_cons.mpr ⟨(n_of1I n_a52 rfl rfl rfl), List.forall_mem_cons.mpr ⟨(n_of1I n_a54 rfl rfl rfl), List.forall_mem_cons.mpr ⟨(n_of1 n_a57 rfl rfl rfl), List.forall_mem_cons.mpr ⟨(n_of1I n_a58 rfl rfl rfl), List.forall_mem_cons.mpr ⟨(n_of1 n_a61 rfl rfl rfl), List.forall_mem_cons.mpr ⟨(n_of1I n_a66 rfl rfl rfl), List.forall_mem_cons.mpr ⟨(n_of1I n_a68 rfl rfl rfl), List.forall_mem_cons.mpr ⟨(n_of1I n_a71 rfl rfl rfl), List.forall_mem_cons.mpr ⟨(n_ofc (n_c74) rfl rfl rfl), List.forall_mem_cons.mpr ⟨(n_ofc (n_c76) rfl rfl rfl), List.forall_mem_cons.mpr ⟨(n_ofcS n_c77 rfl rfl rfl), List.forall_mem_cons.mpr ⟨(n_of1I n_a92 rfl rfl rfl), List.forall_mem_cons.mpr ⟨(n_of1I n_a112 rfl rfl rfl), fun _ h => absurd h List.not_mem_nil⟩⟩⟩⟩⟩⟩⟩⟩⟩⟩⟩⟩⟩⟩⟩⟩⟩⟩⟩⟩⟩⟩
def n_tbx1 : nT := [(113, 2, 2, false, 1, 0, 0), (114, 2, 1, false, 1, 0, 0), (115, 2, 4, false, 1, 0, 0), (119, 2, 2, false, 1, 0, 0), (125, 2, 1, false, 1, 0, 0), (127, 2, 2, false, 1, 1, 0), (128, 2, 2, false, 1, 0, 0), (137, 2, 2, false, 1, 0, 0), (139, 2, 2, false, 1, 0, 0), (143, 2, 4, false, 1, 0, 0), (145, 2, 2, false, 1, 0, 0), (146, 2, 3, false, 3, 1, 0), (149, 2, 5, false, 1, 0, 0), (153, 2, 2, false, 1, 0, 0), (156, 2, 2, false, 1, 0, 0), (157, 2, 3, true, 1, 1, 0), (159, 2, 1, false, 1, 0, 0), (162, 2, 1, false, 1, 0, 0), (163, 2, 1, false, 1, 1, 0), (165, 2, 1, false, 1, 1, 0), (168, 2, 1, false, 1, 0, 0), (173, 155, 2, false, 1, 2, 12)]
theorem n_tbx1_G : ∀ e ∈ n_tbx1, n_G X n_I n_Md e := List.forall_mem_cons.mpr ⟨(n_of1I n_a113 rfl rfl rfl), List.forall_mem_cons.mpr ⟨(n_of1I n_a114 rfl rfl rfl), List.forall_mem_cons.mpr ⟨(n_of1 n_a115 rfl rfl rfl), List.forall_mem_cons.mpr ⟨(n_of1I n_a119 rfl rfl rfl), List.forall_mem_cons.mpr ⟨(n_of1I n_a125 rfl rfl rfl), List.forall_mem_cons.mpr ⟨(n_ofc (n_c127) rfl rfl rfl), List.forall_mem_cons.mpr ⟨(n_of1I n_a128 rfl rfl rfl), List.forall_mem_cons.mpr ⟨(n_of1I n_a137 rfl rfl rfl), List.forall_mem_cons.mpr ⟨(n_of1I n_a139 rfl rfl rfl), List.forall_mem_cons.mpr ⟨(n_of1 n_a143 rfl rfl rfl), List.forall_mem_cons.mpr ⟨(n_of1 n_a145 rfl rfl rfl), List.forall_mem_cons.mpr ⟨(n_ofc (n_c146) rfl rfl rfl), List.forall_mem_cons.mpr ⟨(n_of1 n_a149 rfl rfl rfl), List.forall_mem_cons.mpr ⟨(n_of1 n_a153 rfl rfl rfl), List.forall_mem_cons.mpr ⟨(n_of1 n_a156 rfl rfl rfl), List.forall_mem_cons.mpr ⟨(n_ofc (n_c157) rfl rfl rfl), List.forall_mem_cons.mpr ⟨(n_of1 n_a159 rfl rfl rfl), List.forall_mem_cons.mpr ⟨(n_of1 n_a162 rfl rfl rfl), List.forall_mem_cons.mpr ⟨(n_ofc (n_c163) rfl rfl rfl), List.forall_mem_cons.mpr ⟨(n_ofc (n_c165) rfl rfl rfl), List.forall_mem_cons.mpr ⟨(n_of1 n_a168 rfl rfl rfl), List.forall_mem_cons.mpr ⟨(n_ofr (by decide) (n_r173) rfl rfl rfl), fun _ h => absurd h List.not_mem_nil⟩⟩⟩⟩⟩⟩⟩⟩⟩⟩⟩⟩⟩⟩⟩⟩⟩⟩⟩⟩⟩⟩
def n_tbx2 : nT := [(177, 155, 3, false, 1, 2, 17), (180, 155, 2, false, 1, 2, 21), (181, 155, 2, false, 1, 2, 24), (183, 155, 1, false, 1, 0, 0), (187, 155, 1, false, 1, 0, 0), (198, 155, 1, false, 1, 0, 0), (199, 155, 0, false, 1, 0, 0), (200, 155, 2, false, 1, 0, 0), (202, 155, 1, false, 1, 0, 0), (204, 155, 2, false, 1, 0, 0), (206, 155, 2, false, 1, 0, 0), (207, 155, 1, false, 1, 0, 0), (208, 155, 3, false, 1, 0, 0), (213, 155, 3, false, 1, 0, 0), (214, 155, 1, false, 1, 0, 0), (217, 155, 1, false, 1, 0, 0), (219, 155, 1, false, 1, 2, 74), (220, 155, 1, false, 1, 2, 76), (221, 155, 0, false, 1, 2, 77), (233, 155, 1, false, 1, 0, 0), (246, 155, 2, false, 1, 0, 0), (247, 155, 2, false, 1, 0, 0)]
theorem n_tbx2_G : ∀ e ∈ n_tbx2, n_G X n_I n_Md e := List.forall_mem_cons.mpr ⟨(n_ofr (by decide) (n_r177) rfl rfl rfl), List.forall_mem_cons.mpr ⟨(n_ofr (by decide) (n_r180) rfl rfl rfl), List.forall_mem_cons.mpr ⟨(n_ofr (by decide) (n_r181) rfl rfl rfl), List.forall_mem_cons.mpr ⟨(n_of1 n_a183 rfl rfl rfl), List.forall_mem_cons.mpr ⟨(n_of1 n_a187 rfl rfl rfl), List.forall_mem_cons.mpr ⟨(n_of1 n_a198 rfl rfl rfl), List.forall_mem_cons.mpr ⟨(n_of1 n_a199 rfl rfl rfl), List.forall_mem_cons.mpr ⟨(n_of1 n_a200 rfl rfl rfl), List.forall_mem_cons.mpr ⟨(n_of1 n_a202 rfl rfl rfl), List.forall_mem_cons.mpr ⟨(n_of1 n_a204 rfl rfl rfl), List.forall_mem_cons.mpr ⟨(n_of1 n_a206 rfl rfl rfl), List.forall_mem_cons.mpr ⟨(n_of1 n_a207 rfl rfl rfl), List.forall_mem_cons.mpr ⟨(n_of1 n_a208 rfl rfl rfl), List.forall_mem_cons.mpr ⟨(n_of1 n_a213 rfl rfl rfl), List.forall_mem_cons.mpr ⟨(n_of1 n_a214 rfl rfl rfl), List.forall_mem_cons.mpr ⟨(n_of1 n_a217 rfl rfl rfl), List.forall_mem_cons.mpr ⟨(n_ofr (by decide) (n_r219) rfl rfl rfl), List.forall_mem_cons.mpr ⟨(n_ofr (by decide) (n_r220) rfl rfl rfl), List.forall_mem_cons.mpr ⟨(n_ofrS n_r221 rfl rfl rfl), List.forall_mem_cons.mpr ⟨(n_of1 n_a233 rfl rfl rfl), List.forall_mem_cons.mpr ⟨(n_of1 n_a246 rfl rfl rfl), List.forall_mem_cons.mpr ⟨(n_of1 n_a247 rfl rfl rfl), fun _ h => absurd h List.not_mem_nil⟩⟩⟩⟩⟩⟩⟩⟩⟩⟩⟩⟩⟩⟩⟩⟩⟩⟩⟩⟩⟩⟩
def n_tbx3 : nT := [(248, 155, 1, false, 1, 0, 0), (249, 155, 4, false, 1, 0, 0), (250, 155, 2, false, 1, 0, 0), (254, 155, 1, false, 1, 0, 0), (255, 155, 2, false, 1, 2, 127), (256, 155, 2, false, 1, 0, 0), (262, 155, 2, false, 1, 0, 0), (263, 155, 2, false, 1, 0, 0), (265, 155, 4, false, 1, 0, 0), (267, 155, 2, false, 1, 0, 0), (268, 155, 3, false, 3, 2, 146), (270, 155, 5, false, 1, 0, 0), (271, 155, 2, false, 1, 0, 0), (272, 155, 2, false, 1, 0, 0), (273, 155, 3, true, 1, 2, 157), (274, 155, 1, false, 1, 0, 0), (278, 155, 1, false, 1, 0, 0), (279, 155, 1, false, 1, 2, 163), (280, 155, 1, false, 1, 2, 165), (281, 155, 1, false, 1, 0, 0), (283, 155, 2, false, 1, 0, 0), (287, 155, 1, false, 2, 0, 0)]
theorem n_tbx3_G : ∀ e ∈ n_tbx3, n_G X n_I n_Md e := List.forall_mem_cons.mpr ⟨(n_of1 n_a248 rfl rfl rfl), List.forall_mem_cons.mpr ⟨(n_of1 n_a249 rfl rfl rfl), List.forall_mem_cons.mpr ⟨(n_of1 n_a250 rfl rfl rfl), List.forall_mem_cons.mpr ⟨(n_of1 n_a254 rfl rfl rfl), List.forall_mem_cons.mpr ⟨(n_ofr (by decide) (n_r255) rfl rfl rfl), List.forall_mem_cons.mpr ⟨(n_of1 n_a256 rfl rfl rfl), List.forall_mem_cons.mpr ⟨(n_of1 n_a262 rfl rfl rfl), List.forall_mem_cons.mpr ⟨(n_of1 n_a263 rfl rfl rfl), List.forall_mem_cons.mpr ⟨(n_of1 n_a265 rfl rfl rfl), List.forall_mem_cons.mpr ⟨(n_of1 n_a267 rfl rfl rfl), List.forall_mem_cons.mpr ⟨(n_ofr (by decide) (n_r268) rfl rfl rfl), List.forall_mem_cons.mpr ⟨(n_of1 n_a270 rfl rfl rfl), List.forall_mem_cons.mpr ⟨(n_of1 n_a271 rfl rfl rfl), List.forall_mem_cons.mpr ⟨(n_of1 n_a272 rfl rfl rfl), List.forall_mem_cons.mpr ⟨(n_ofr (by decide) (n_r273) rfl rfl rfl), List.forall_mem_cons.mpr ⟨(n_of1 n_a274 rfl rfl rfl), List.forall_mem_cons.mpr ⟨(n_of1 n_a278 rfl rfl rfl), List.forall_mem_cons.mpr ⟨(n_ofr (by decide) (n_r279) rfl rfl rfl), List.forall_mem_cons.mpr ⟨(n_ofr (by decide) (n_r280) rfl rfl rfl), List.forall_mem_cons.mpr ⟨(n_of1 n_a281 rfl rfl rfl), List.forall_mem_cons.mpr ⟨(n_of1 n_a283 rfl rfl rfl), List.forall_mem_cons.mpr ⟨(n_of2 n_a287 rfl rfl rfl), fun _ h => absurd h List.not_mem_nil⟩⟩⟩⟩⟩⟩⟩⟩⟩⟩⟩⟩⟩⟩⟩⟩⟩⟩⟩⟩⟩⟩
theorem n_tb_e : n_tb = n_tbx0 ++ (n_tbx1 ++ (n_tbx2 ++ (n_tbx3))) := rfl
theorem n_tb_T : ∀ e ∈ n_tb, n_G X n_I n_Md e := by
  intro e h
  rw [n_tb_e] at h
  exact (List.mem_append.mp h).elim (fun h => n_tbx0_G e h) (fun h => (List.mem_append.mp h).elim (fun h => n_tbx1_G e h) (fun h => (List.mem_append.mp h).elim (fun h => n_tbx2_G e h) (fun h => n_tbx3_G e h)))
def l_offs : List Int := [196, 233, 282, 319, 356, 381, 406, 431, 444, 481, 506, 543, 580, 605, 654, 703, 728, 753, 778, 803, 816, 841, 878, 915, 940, 1001, 1038, 1063, 1100, 1137, 1174, 1211, 1272, 1309, 1358, 1431, 1468, 1505, 1602, 1627, 1652, 1677, 1702, 1727, 1767]
set_option maxRecDepth 100000 in
theorem l_chk : l_offs.all (fun o => decide (0 ≤ o) && n_run n_tb 400 1 [] none (l_to (40 + o).toNat a_cL) []) = true := by decide +kernel
theorem l_sufL : l_suf a_cL := ⟨[], rfl⟩
theorem l_at {t : Nat} {e : Nat × aI} {r : List (Nat × aI)} (h : l_to t a_cL = e :: r) : a_mL.2.2.2.2.2.lookup e.1 = some e.2 := (l_look (h ▸ l_suf_to l_sufL)).1
set_option maxRecDepth 100000 in
theorem l_1835 : l_to 1835 a_cL = (1835, .iinc 4 6, 3, 0, 0, 0, 0) :: l_to 1838 a_cL := rfl
set_option maxRecDepth 100000 in
theorem l_1838 : l_to 1838 a_cL = (1838, .goto (-1815), 3, 0, 23, 0, 0) :: l_to 1841 a_cL := rfl
set_option maxRecDepth 100000 in
theorem l_1841 : l_to 1841 a_cL = (1841, .iconst 1, 1, 0, 0, 0, 0) :: l_to 1842 a_cL := rfl
set_option maxRecDepth 100000 in
theorem l_1842 : l_to 1842 a_cL = [(1842, .ireturn, 1, 0, 0, 0, 0)] := rfl
theorem l_k1835 : a_mL.2.2.2.2.2.lookup 1835 = some (.iinc 4 6, 3, 0, 0, 0, 0) := by
  have h := l_at (e := (1835, .iinc 4 6, 3, 0, 0, 0, 0)) l_1835
  exact h
theorem l_k1838 : a_mL.2.2.2.2.2.lookup 1838 = some (.goto (-1815), 3, 0, 23, 0, 0) := by
  have h := l_at (e := (1838, .goto (-1815), 3, 0, 23, 0, 0)) l_1838
  exact h
theorem l_k1841 : a_mL.2.2.2.2.2.lookup 1841 = some (.iconst 1, 1, 0, 0, 0, 0) := by
  have h := l_at (e := (1841, .iconst 1, 1, 0, 0, 0, 0)) l_1841
  exact h
theorem l_k1842 : a_mL.2.2.2.2.2.lookup 1842 = some (.ireturn, 1, 0, 0, 0, 0) := by
  have h := l_at (e := (1842, .ireturn, 1, 0, 0, 0, 0)) l_1842
  exact h
end NJ
section LP
variable {xs : Nat → Int32} {L : Nat} {CB SB : Nat}
def l_fin (CB SB : Nat) (v : Option Value) (_ : aH) (C S : Nat) : Prop := v = some (.int 1) ∧ C ≤ CB ∧ S ≤ SB
theorem l_and63 (x : Int32) : 0 ≤ (x &&& 63).toInt ∧ (x &&& 63).toInt ≤ 63 := by
  have h : (x &&& 63).toBitVec.toNat ≤ 63 := by
    show (x.toBitVec &&& (63 : Int32).toBitVec).toNat ≤ 63
    rw [BitVec.toNat_and]
    exact Nat.and_le_right
  have e : (x &&& 63).toInt = (x &&& 63).toBitVec.toInt := rfl
  rw [e, BitVec.toInt_eq_toNat_cond, if_pos (by omega)]
  omega
theorem l_Lsub (hL : L ≤ 3072) : (Int32.ofNat L - (Int8.ofInt 6).toInt32).toInt = (L : Int) - 6 := by
  have e1 : (Int32.ofNat L).toInt = L := Int32.toInt_ofNat_of_lt (by omega)
  rw [Int32.toInt_sub, e1, show ((Int8.ofInt 6).toInt32).toInt = 6 by decide, Int.bmod_eq_of_le (by omega) (by omega)]
theorem l_out (a b c : Option Value) {iI : Int32} {H : aH} {C S : Nat} (hC : C ≤ CB) (hS : S ≤ SB) : aOK s_P (some (L, xs)) 202 a_mL 1841 (l_ls iI a b c) [] H C S (l_fin CB SB) := by
  refine aOK_op l_k1841 (show _ = some (1842, l_ls iI a b c, [.int 1], H, 0, 0) from rfl) ?_
  exact aOK_ret l_k1842 rfl (show _ = some (some (.int 1)) from rfl) (fun n q => by cases q) ⟨rfl, hC, hS⟩
theorem l_loop (hL : L ≤ 3072) : ∀ (n i : Nat) (iI : Int32), iI.toInt = i → i ≤ L + 6 → L < i + 6 * (n + 1) → ∀ (a b c : Option Value) (H : aH) (C S : Nat), n_I H → C + n ≤ CB → S + 6 * n ≤ SB → aOK s_P (some (L, xs)) 202 a_mL 23 (l_ls iI a b c) [] H C S (l_fin CB SB) := by
  intro n
  have top : ∀ (i : Nat) (iI : Int32) (a b c : Option Value) (H : aH) (C S : Nat), iI.toInt = i → (L < i + 6 → aOK s_P (some (L, xs)) 202 a_mL 1841 (l_ls iI a b c) [] H C S (l_fin CB SB)) → (i + 6 ≤ L → aOK s_P (some (L, xs)) 202 a_mL 33 (l_ls iI a b c) [] H C S (l_fin CB SB)) → aOK s_P (some (L, xs)) 202 a_mL 23 (l_ls iI a b c) [] H C S (l_fin CB SB) := by
    intro i iI a b c H C S hi h1 h2
    refine aOK_op rfl (show _ = some (25, l_ls iI a b c, [.int iI], H, 0, 0) from rfl) ?_
    refine aOK_op rfl (show _ = some (26, l_ls iI a b c, [.ref 0, .int iI], H, 0, 0) from rfl) ?_
    refine aOK_op rfl (show _ = some (27, l_ls iI a b c, [.int (Int32.ofNat L), .int iI], H, 0, 0) from rfl) ?_
    refine aOK_op rfl (show _ = some (29, l_ls iI a b c, [.int (Int8.ofInt 6).toInt32, .int (Int32.ofNat L), .int iI], H, 0, 0) from rfl) ?_
    refine aOK_op rfl (show _ = some (30, l_ls iI a b c, [.int (Int32.ofNat L - (Int8.ofInt 6).toInt32), .int iI], H, 0, 0) from rfl) ?_
    refine aOK_op rfl (show _ = some (if a_cnd .gt iI (Int32.ofNat L - (Int8.ofInt 6).toInt32) then 1841 else 33, l_ls iI a b c, [], H, 0, 0) from rfl) ?_
    cases q : a_cnd .gt iI (Int32.ofNat L - (Int8.ofInt 6).toInt32) with
    | true =>
      have g : (Int32.ofNat L - (Int8.ofInt 6).toInt32).toInt < iI.toInt := (y_ci .gt _ _).mp q
      rw [l_Lsub hL, hi] at g
      exact h1 (by omega)
    | false =>
      have g : ¬ ((Int32.ofNat L - (Int8.ofInt 6).toInt32).toInt < iI.toInt) := y_cif q
      rw [l_Lsub hL, hi] at g
      exact h2 (by omega)
  induction n with
  | zero =>
    intro i iI hi hb hn a b c H C S hI hC hS
    exact top i iI a b c H C S hi (fun _ => l_out a b c (by omega) (by omega)) (fun q => by omega)
  | succ n ih =>
    intro i iI hi hb hn a b c H C S hI hC hS
    refine top i iI a b c H C S hi (fun _ => l_out a b c (by omega) (by omega)) (fun h6 => ?_)
    have hend : ∀ (a b c : Option Value) (H : aH) (C' S' : Nat), n_I H → C' ≤ C + 1 → S' ≤ S + 6 → aOK s_P (some (L, xs)) 202 a_mL 1835 (l_ls iI a b c) [] H C' S' (l_fin CB SB) := by
      intro a b c H C' S' hI' hC' hS'
      refine aOK_op l_k1835 (show _ = some (1838, l_ls (iI + Int32.ofInt 6) a b c, [], H, 0, 0) from rfl) ?_
      refine aOK_op l_k1838 (show _ = some (23, l_ls (iI + Int32.ofInt 6) a b c, [], H, 0, 0) from rfl) ?_
      exact ih (i + 6) _ (y_addS _ hi (show (Int32.ofInt 6).toInt = (6 : Nat) by decide) rfl (by omega)) (by omega) (by omega) a b c H C' S' hI' (by omega) (by omega)
    refine aOK_op rfl (show _ = some (34, l_ls iI a b c, [.ref 0], H, 0, 0) from rfl) ?_
    refine aOK_op rfl (show _ = some (36, l_ls iI a b c, [.int iI, .ref 0], H, 0, 0) from rfl) ?_
    refine aOK_op rfl (l_scr (n := i) hi (by omega)) ?_
    refine aOK_op rfl (show _ = some (39, l_ls iI a b c, [.int (Int8.ofInt 63).toInt32, .int (xs i)], H, 0, 0) from rfl) ?_
    refine aOK_op rfl (show _ = some (40, l_ls iI a b c, [.int (xs i &&& (Int8.ofInt 63).toInt32)], H, 0, 0) from rfl) ?_
    have h63 : 0 ≤ (xs i &&& (Int8.ofInt 63).toInt32).toInt := by
      have : (Int8.ofInt 63).toInt32 = 63 := by decide
      rw [this]
      exact (l_and63 (xs i)).1
    generalize (xs i &&& (Int8.ofInt 63).toInt32) = x at h63
    by_cases q : x.toInt < 0 ∨ 44 < x.toInt
    · exact y_tsw_d (t := 1835) rfl q (by decide) (hend a b c H C S hI (by omega) (by omega))
    · have hx : ∃ v : Nat, x.toInt = v ∧ v < 45 := ⟨x.toInt.toNat, by omega, by omega⟩
      obtain ⟨v, hv, v45⟩ := hx
      have ho : ∃ o, l_offs[v]? = some o := ⟨_, List.getElem?_eq_getElem (show v < l_offs.length from v45)⟩
      obtain ⟨o, ho⟩ := ho
      have hc := List.all_eq_true.mp l_chk o (List.mem_of_getElem? ho)
      rw [Bool.and_eq_true, decide_eq_true_eq] at hc
      refine y_tsw_i (t := (40 + o).toNat) (o := o) rfl q ?_ ?_ ?_
      · rw [hv]
        show l_offs.toArray[((v : Int) - 0).toNat]? = some o
        rw [show ((v : Int) - 0).toNat = v by omega, List.getElem?_toArray]
        exact ho
      · show (if 0 ≤ ((40 : Nat) : Int) + o then some (((40 : Nat) : Int) + o).toNat else none) = _
        rw [if_pos (by omega)]
        rfl
      · exact n_run_ok (CB := C + 1) (SB := S + 6) (Md := n_Md) (by omega) hL hi (fun H q => q.1.1) (fun _ _ _ H q => q.1.1) n_tb_T n_S169 n_S171 hend 400 1 [] none _ [] hc.2 (l_suf_to l_sufL) (fun j z q => (by cases q)) _ (fun e r hr => l_to_hd hr) 0 [] trivial a b c H C S hI (by omega) (by omega)
end LP
end PT33j
