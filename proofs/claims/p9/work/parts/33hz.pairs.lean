section PT33he
/-! ===== v10: weight (laid by wip/tools/mk10f.py) ===== -/
theorem y_wt_F {F F' : Nat → Nat → Int} {w : Nat} : ∀ {k : Nat}, (∀ v, v < k → F' v w = F v w) → y_wt F' w k = y_wt F w k
  | 0, _ => rfl
  | k + 1, h => by
    show y_wt F' w k * F' k w = y_wt F w k * F k w
    rw [y_wt_F (fun v hv => h v (by omega)), h k (by omega)]
theorem y_W_fo {nd : Int32} {le de ta fo fo' : List Int32} {w k : Nat} (h : ∀ v, v < k → y_N fo' v = y_N fo v) : y_W nd le de ta fo' w k = y_W nd le de ta fo w k := y_wt_F (fun v hv => by
  unfold y_fa
  rw [h v hv])
theorem y_l2i {x : Int64} (h0 : 0 ≤ x.toInt) (h1 : x.toInt ≤ 2147483647) : x.toInt32.toInt = x.toInt := by
  rw [Int64.toInt_toInt32]
  exact Int.bmod_eq_of_le (by omega) (by omega)
abbrev n_wtV (a nd : Int32) : Prop := 0 ≤ a.toInt ∧ a.toInt < (y_ways nd : Int)
noncomputable def n_s28 (us : List Int32) (v : Nat → Int32) : (Nat → Int32) × Int32 := match us with
  | [a] => (n_up v 143 (Int32.ofInt 1), if n_wtV a (v 128) then Int32.ofInt (y_W (v 128) (n_ls v 701000 10) (n_ls v 702000 10) (n_ls v 700000 80) (n_ls v 704000 10) a.toInt.toNat (v 128).toInt.toNat) else Int32.ofInt (-1))
  | _ => (v, 0)
section NWT
variable {X : aX} {C S d : Nat} {K0 : Option Value → aH → Nat → Nat → Prop}
theorem c_weightOf {h : aH} (hr : w_hr z_D h) {a nd : Int32} {wl : List Int32} (g0 : w_f h 128 = some (.int nd)) (h0 : 0 ≤ nd.toInt) (h10 : nd.toInt ≤ 10) (a9 : w_a h 9 = some (0, .inl wl)) (yes : n_wtV a nd → ∀ H, y_fr h H [] [] → K0 (some (.int (wl.getD a.toInt.toNat 0))) H C S) (no : ¬ n_wtV a nd → ∀ H, y_fr h H [] [] → K0 (some (.int (Int32.ofInt (-1)))) H C S) : aOK s_P X (d + 1) a_m32 0 [some (.ref 3), some (.int a)] [] h C S K0 := by
  have T5 : ∀ {G : aH}, n_wtV a nd → y_fr h G [] [] → aOK s_P X (d + 1) a_m32 5 [some (.ref 3), some (.int a)] [.int (y_01 true)] G C S K0 := by
    intro G q e
    obtain ⟨v1, v2⟩ := id q
    have wle : y_ways nd ≤ 1024 := (y_all h0 h10).2.2
    refine w_go z_hl [] [] 40 e.1 ?_
    refine ⟨fun q => absurd q (by decide), fun _ => ⟨⟨by omega, by omega⟩, fun l hl len bb => fun H hH => ?_⟩⟩
    obtain rfl := y_ai ((y_ae e rfl).trans a9) hl
    exact yes q H (y_st e hH (by repeat (first | exact w_nil | refine w_cons (Or.inl (y_m rfl)) ?_ | refine w_cons (Or.inr (by assumption)) ?_)) (by repeat (first | exact w_nil | refine w_cons (Or.inl (y_m rfl)) ?_ | refine w_cons (Or.inr (by assumption)) ?_)))
  have T5n : ∀ {G : aH}, ¬ n_wtV a nd → y_fr h G [] [] → aOK s_P X (d + 1) a_m32 5 [some (.ref 3), some (.int a)] [.int (y_01 false)] G C S K0 := by
    intro G nv e
    refine w_go z_hl [] [] 40 e.1 ?_
    exact ⟨fun _ => fun H hH => no nv H (y_st e hH (by repeat (first | exact w_nil | refine w_cons (Or.inl (y_m rfl)) ?_ | refine w_cons (Or.inr (by assumption)) ?_)) (by repeat (first | exact w_nil | refine w_cons (Or.inl (y_m rfl)) ?_ | refine w_cons (Or.inr (by assumption)) ?_))), fun q => absurd q (by decide)⟩
  refine w_go z_hl [] [14] 30 hr ?_
  intro H hH
  have e : y_fr h H [] [] := y_st (y_rf hr) hH (by repeat (first | exact w_nil | refine w_cons (Or.inl (y_m rfl)) ?_ | refine w_cons (Or.inr (by assumption)) ?_)) (by repeat (first | exact w_nil | refine w_cons (Or.inl (y_m rfl)) ?_ | refine w_cons (Or.inr (by assumption)) ?_))
  refine c_hasAll (v := a) e.1 ((y_fe e rfl).trans g0) h0 h10 (fun H2 h2 v1 v2 => ⟨fun n e => (by cases e), ?_⟩) (fun H2 h2 nv => ⟨fun n e => (by cases e), ?_⟩)
  · exact T5 ⟨v1, v2⟩ (y_sq e h2 rfl rfl)
  · exact T5n nv (y_sq e h2 rfl rfl)
theorem c_weight {h : aH} (hr : w_hr z_D h) {a nd F G fr : Int32} {le lc lo de ta fo wl : List Int32} (hn : c_net h nd F G le lc lo de ta fo) (hf : ∀ k : Nat, (k : Int) < nd.toInt → -1 ≤ y_N fo k ∧ y_N fo k ≤ 1) (gf : w_f h 143 = some (.int fr)) (a9 : w_a h 9 = some (0, .inl wl)) (l9 : wl.length = 1024) (hw : fr.toInt ≠ 0 → c_wk nd le de ta fo nd.toInt.toNat wl) (hK : ∀ (H : aH) (wl' : List Int32) (r : Int32), y_fr h H [143] [9] → w_f H 143 = some (.int (Int32.ofInt 1)) → w_a H 9 = some (0, .inl wl') → c_wk nd le de ta fo nd.toInt.toNat wl' → (n_wtV a nd → r = wl'.getD a.toInt.toNat 0) → (¬ n_wtV a nd → r = Int32.ofInt (-1)) → K0 (some (.int r)) H C S) : aOK s_P X (d + 3) a_m28 0 [some (.ref 2), some (.int a)] [] h C S K0 := by
  have b0 := hn.2.2.1
  have g0 := hn.1.1
  have T15 : ∀ {J : aH} {wl' : List Int32} {r : Int32}, y_fr h J [143] [9] → w_f J 143 = some (.int (Int32.ofInt 1)) → w_a J 9 = some (0, .inl wl') → c_wk nd le de ta fo nd.toInt.toNat wl' → (n_wtV a nd → r = wl'.getD a.toInt.toNat 0) → (¬ n_wtV a nd → r = Int32.ofInt (-1)) → aOK s_P X (d + 3) a_m28 15 [some (.ref 2), some (.int a)] [.int r] J C S K0 := by
    intro J wl' r e u1 u2 u3 y n
    refine w_go z_hl [] [] 20 e.1 ?_
    intro H hH
    have f : y_fr J H [] [] := y_st (y_rf e.1) hH (by repeat (first | exact w_nil | refine w_cons (Or.inl (y_m rfl)) ?_ | refine w_cons (Or.inr (by assumption)) ?_)) (by repeat (first | exact w_nil | refine w_cons (Or.inl (y_m rfl)) ?_ | refine w_cons (Or.inr (by assumption)) ?_))
    exact hK H wl' r (y_sq e f rfl rfl) ((y_fe f rfl).trans u1) ((y_ae f rfl).trans u2) u3 y n
  have T7 : ∀ {J : aH} {wl' : List Int32}, y_fr h J [143] [9] → w_f J 143 = some (.int (Int32.ofInt 1)) → w_a J 9 = some (0, .inl wl') → c_wk nd le de ta fo nd.toInt.toNat wl' → aOK s_P X (d + 3) a_m28 7 [some (.ref 2), some (.int a)] [] J C S K0 := by
    intro J wl' e u1 u2 u3
    refine w_go z_hl [] [32] 30 e.1 ?_
    intro H hH
    have f : y_fr J H [] [] := y_st (y_rf e.1) hH (by repeat (first | exact w_nil | refine w_cons (Or.inl (y_m rfl)) ?_ | refine w_cons (Or.inr (by assumption)) ?_)) (by repeat (first | exact w_nil | refine w_cons (Or.inl (y_m rfl)) ?_ | refine w_cons (Or.inr (by assumption)) ?_))
    have e2 : y_fr h H [143] [9] := y_sq e f rfl rfl
    refine c_weightOf (d := d + 1) (a := a) e2.1 ((y_fe e2 rfl).trans g0) b0.1 b0.2 ((y_ae f rfl).trans u2) (fun q H3 h3 => ⟨fun n e => (by cases e), ?_⟩) (fun q H3 h3 => ⟨fun n e => (by cases e), ?_⟩)
    · exact T15 (y_sq e2 h3 rfl rfl) ((y_fe h3 rfl).trans ((y_fe f rfl).trans u1)) ((y_ae h3 rfl).trans ((y_ae f rfl).trans u2)) u3 (fun _ => rfl) (fun w => absurd q w)
    · exact T15 (y_sq e2 h3 rfl rfl) ((y_fe h3 rfl).trans ((y_fe f rfl).trans u1)) ((y_ae h3 rfl).trans ((y_ae f rfl).trans u2)) u3 (fun w => absurd w q) (fun _ => rfl)
  refine w_go z_hl [] [29] 30 hr ?_
  intro H hH
  have e : y_fr h H [] [] := y_st (y_rf hr) hH (by repeat (first | exact w_nil | refine w_cons (Or.inl (y_m rfl)) ?_ | refine w_cons (Or.inr (by assumption)) ?_)) (by repeat (first | exact w_nil | refine w_cons (Or.inl (y_m rfl)) ?_ | refine w_cons (Or.inr (by assumption)) ?_))
  refine c_refresh (d := d) e.1 (c_net_y hn e rfl rfl) hf ((y_fe e rfl).trans gf) ((y_ae e rfl).trans a9) l9 hw (fun H2 wl' f u1 u2 u3 => ⟨fun n e => (by cases e), ?_⟩)
  exact T7 (y_sq (y_mo e rfl rfl) f rfl rfl) u1 u2 u3
theorem f_weight {h : aH} (hr : w_hr z_D h) (hJ : y_J h) {a nd : Int32} {le de ta fo : List Int32} (m1 : w_f h 19591 = some (.int nd)) (m2 : w_a h 156 = some (0, .inl le)) (m3 : w_a h 157 = some (0, .inl de)) (m4 : w_a h 158 = some (0, .inl ta)) (m5 : w_a h 159 = some (0, .inl fo)) (hk : ∀ (r : Int32) (H : aH), y_fr h H [19584] [] → (n_wtV a nd → r.toInt = y_W nd le de ta fo a.toInt.toNat nd.toInt.toNat) → (¬ n_wtV a nd → r = Int32.ofInt (-1)) → K0 (some (.int r)) H C S) : aOK s_P X (d + 2) a_m183 0 [some (.ref 155), some (.int a)] [] h C S K0 := by
  obtain ⟨nd0, le0, de0, ta0, n1, n2, n3, n4, c1, c2, c3, c4, c5⟩ := id hJ.1
  obtain rfl := y_fi m1 n1
  obtain rfl := y_ai m2 n2
  obtain rfl := y_ai m3 n3
  obtain rfl := y_ai m4 n4
  obtain ⟨b1, b2⟩ := y_ndb hr n1
  obtain ⟨ea, l1, l2⟩ := y_all b1 b2
  have net : y_net h nd le de ta fo := ⟨n1, n2, n3, n4, m5, c1, c2, c3, c4⟩
  have T18 : ∀ {G : aH} {x : Int64}, n_wtV a nd → x.toInt = y_W nd le de ta fo a.toInt.toNat nd.toInt.toNat → y_fr h G [19584] [] → aOK s_P X (d + 2) a_m183 18 [some (.ref 155), some (.int a)] [.long x] G C S K0 := by
    intro G x q hx e
    have hta : ∀ x ∈ ta, 0 ≤ x.toInt := by
      obtain ⟨l, g1, g2, g3⟩ := w_arrI hr (o := 158) (t := 0) (n := 80) (lo := 0) (hi := 10000000) (by decide) rfl
      have e := (w_a_at g1).symm.trans n4
      cases e
      exact fun x hx => (g3 x hx).1
    have wb := y_W_b net b2 hta (wy := a.toInt.toNat) (k := nd.toInt.toNat) (by omega)
    refine w_go z_hl [] [] 30 e.1 ?_
    exact fun H hH => hk _ H (y_st e hH (by repeat (first | exact w_nil | refine w_cons (Or.inl (y_m rfl)) ?_ | refine w_cons (Or.inr (by assumption)) ?_)) (by repeat (first | exact w_nil | refine w_cons (Or.inl (y_m rfl)) ?_ | refine w_cons (Or.inr (by assumption)) ?_))) (fun _ => by rw [y_l2i (by omega) (by omega)]; exact hx) (fun w => absurd q w)
  have T10 : ∀ {G : aH}, n_wtV a nd → y_fr h G [19584] [] → aOK s_P X (d + 2) a_m183 10 [some (.ref 155), some (.int a)] [.int (y_01 true)] G C S K0 := by
    intro G q e
    obtain ⟨v1, v2⟩ := id q
    refine w_go z_hl [] [184] 30 e.1 ?_
    refine ⟨fun q => absurd q (by decide), fun _ => fun H hH => ?_⟩
    have e2 := y_st e hH (by repeat (first | exact w_nil | refine w_cons (Or.inl (y_m rfl)) ?_ | refine w_cons (Or.inr (by assumption)) ?_)) (by repeat (first | exact w_nil | refine w_cons (Or.inl (y_m rfl)) ?_ | refine w_cons (Or.inr (by assumption)) ?_))
    refine y_weightOf (wy := a.toInt.toNat) (by omega) (by omega) e2.1 (y_net_fr2 e2 rfl rfl net) b1 (fun r H2 e3 hr3 => ⟨fun n e => (by cases e), ?_⟩)
    exact T18 q hr3 (y_sq e2 e3 rfl rfl)
  have T10n : ∀ {G : aH}, ¬ n_wtV a nd → y_fr h G [19584] [] → aOK s_P X (d + 2) a_m183 10 [some (.ref 155), some (.int a)] [.int (y_01 false)] G C S K0 := by
    intro G q e
    refine w_go z_hl [] [] 30 e.1 ?_
    exact ⟨fun _ => fun H hH => hk _ H (y_st e hH (by repeat (first | exact w_nil | refine w_cons (Or.inl (y_m rfl)) ?_ | refine w_cons (Or.inr (by assumption)) ?_)) (by repeat (first | exact w_nil | refine w_cons (Or.inl (y_m rfl)) ?_ | refine w_cons (Or.inr (by assumption)) ?_))) (fun w => absurd w q) (fun _ => rfl), fun q => absurd q (by decide)⟩
  refine w_go z_hl [] [174] 30 hr ?_
  refine ⟨rfl, y_zini (by decide) (by decide), fun H hH => ?_⟩
  have e : y_fr h H [19584] [] := y_st (y_mo (y_rf hr) rfl rfl) hH (by repeat (first | exact w_nil | refine w_cons (Or.inl (y_m rfl)) ?_ | refine w_cons (Or.inr (by assumption)) ?_)) (by repeat (first | exact w_nil | refine w_cons (Or.inl (y_m rfl)) ?_ | refine w_cons (Or.inr (by assumption)) ?_))
  refine y_isSet (v := a) e.1 ((y_fe e rfl).trans n1) b1 b2 (fun H3 h3 => ⟨fun n e => (by cases e), ?_⟩)
  cases hset : decide (0 ≤ a.toInt ∧ a.toInt < (y_ways nd : Int)) with
  | true => exact T10 (of_decide_eq_true hset) (y_sq e h3 rfl rfl)
  | false => exact T10n (of_decide_eq_false hset) (y_sq e h3 rfl rfl)
end NWT
theorem n_c28 {X : aX} : n_pc X a_m28 1 false n_s28 := by
  intro us h v C S K0 hl _ hI hc hm hk
  match us, hl with
  | [a], _ =>
    have f0 := hc.1 128 (by decide)
    have b0 := n_bd (lo := 0) (hi := 10) hI.1 f0 rfl
    obtain ⟨lc, lo, wl, fr, q8, q9, q10, q11, q12, q13⟩ := n_toW hI.1 hI.2.1.1 hc hm
    refine c_weight (d := 197) (a := a) hI.1 q8 q9 q10 q11 q12 q13 (fun H wl' r e u1 u2 u3 y n => ?_)
    have er : r = (n_s28 [a] v).2 := by
      by_cases q : n_wtV a (v 128)
      · rw [show (n_s28 [a] v).2 = Int32.ofInt (y_W (v 128) (n_ls v 701000 10) (n_ls v 702000 10) (n_ls v 700000 80) (n_ls v 704000 10) a.toInt.toNat (v 128).toInt.toNat) from if_pos q, y q]
        have q2 : a.toInt < ((2 ^ (v 128).toInt.toNat : Nat) : Int) := q.2
        have q1 := q.1
        have wb := c_W_b q8.2.2 (k := (v 128).toInt.toNat) (w := a.toInt.toNat) (by omega)
        refine Int32.toInt_inj.mp ?_
        rw [u3.2 _ (by omega), Int32.toInt_ofInt, show (Int32.size : Nat) = 4294967296 from rfl]
        exact (Int.bmod_eq_of_le (by omega) (by omega)).symm
      · rw [show (n_s28 [a] v).2 = Int32.ofInt (-1) from if_neg q]
        exact n q
    rw [er]
    obtain ⟨fr', hc'⟩ := n_ofW e.1 hc (fun k hk' e3 => e.2.1 k (fun w => e3 (List.mem_singleton.mp w))) (fun o _ e9 => e.2.2 o (fun w => e9 (List.mem_singleton.mp w))) ⟨lc, lo, wl', _, c_net_y q8 e rfl rfl, q9, u1, u2, u3.1, fun _ => u3⟩
    have e1 : n_up v 143 fr' 143 = Int32.ofInt 1 := y_fi (hc'.1 143 (by decide)) u1
    have e2 : fr' = Int32.ofInt 1 := e1
    rw [e2] at hc'
    exact hk H ⟨e.1, y_jfr y_JA_x e rfl rfl hI.2.1, t_day_frc e rfl hI.2.2⟩ hc' (n_mS_V (n_fm_ok e rfl) hm)
theorem n_r183 {X : aX} : n_pr X a_m183 1 false n_s28 := by
  intro us h w v C S K0 hl _ hI hc hm hk
  match us, hl with
  | [a], _ =>
    have g0 : w_f h 19591 = some (.int (v 128)) := hm.1 (128, 19591) (by decide)
    have b0 := n_bd (lo := 0) (hi := 10) hI.1 g0 rfl
    obtain ⟨fo, o1, o2, o3⟩ := id hm.2.1.2.2.2.2.2.2.1
    refine f_weight (d := 198) (a := a) hI.1 hI.2.1.1 g0 hm.2.1.2.2.1 hm.2.1.2.2.2.1 hm.2.1.2.2.2.2.1 o1 (fun r H e y n => ?_)
    have er : r = (n_s28 [a] v).2 := by
      by_cases q : n_wtV a (v 128)
      · rw [show (n_s28 [a] v).2 = Int32.ofInt (y_W (v 128) (n_ls v 701000 10) (n_ls v 702000 10) (n_ls v 700000 80) (n_ls v 704000 10) a.toInt.toNat (v 128).toInt.toNat) from if_pos q]
        have ew : y_W (v 128) (n_ls v 701000 10) (n_ls v 702000 10) (n_ls v 700000 80) (n_ls v 704000 10) a.toInt.toNat (v 128).toInt.toNat = y_W (v 128) (n_ls v 701000 10) (n_ls v 702000 10) (n_ls v 700000 80) fo a.toInt.toNat (v 128).toInt.toNat := y_W_fo (fun u hu => by
          unfold y_N
          rw [n_ls_at (by omega), o3 u (by omega)])
        have yr := y q
        refine Int32.toInt_inj.mp ?_
        rw [ew, ← yr, Int32.ofInt_toInt]
      · rw [show (n_s28 [a] v).2 = Int32.ofInt (-1) from if_neg q]
        exact n q
    rw [er]
    exact hk H ⟨e.1, ⟨y_J_fr e rfl rfl hI.2.1.1, j_say_e e rfl rfl hI.2.1.2.1, j_cost_e e rfl rfl hI.2.1.2.2⟩, t_day_fr e rfl hI.2.2⟩ (n_cS_V (n_fk_c (ex := []) e rfl) hc) (n_mV_3 (n_mS_V (n_fk_m e rfl) hm))
end PT33he
section PT33hf
/-! ===== v11: sums of weights over what is seen (laid by wip/tools/mk11c.py) ===== -/
def c_ok (g : Nat → Int) : Nat → Nat → Bool
  | 0, _ => true
  | k + 1, w => c_ok g k w && ((!decide (g k = 1) || w.testBit k) && (!decide (g k = 0) || !w.testBit k))
theorem c_ok_iff {g : Nat → Int} {w : Nat} : ∀ {k : Nat}, c_ok g k w = true ↔ ∀ j, j < k → (g j = 1 → w.testBit j = true) ∧ (g j = 0 → w.testBit j = false) := by
  intro k
  induction k with
  | zero => exact ⟨fun _ j hj => absurd hj (Nat.not_lt_zero j), fun _ => rfl⟩
  | succ k ih =>
    show (c_ok g k w && ((!decide (g k = 1) || w.testBit k) && (!decide (g k = 0) || !w.testBit k))) = true ↔ _
    have one : ((!decide (g k = 1) || w.testBit k) && (!decide (g k = 0) || !w.testBit k)) = true ↔ (g k = 1 → w.testBit k = true) ∧ (g k = 0 → w.testBit k = false) := by
      by_cases h1 : g k = 1
      · have h0 : ¬ g k = 0 := by omega
        rw [decide_eq_true h1, decide_eq_false h0]
        cases w.testBit k
        · exact ⟨fun q => absurd q (by decide), fun q => absurd (q.1 h1) (by decide)⟩
        · exact ⟨fun _ => ⟨fun _ => rfl, fun q => absurd q h0⟩, fun _ => rfl⟩
      · by_cases h0 : g k = 0
        · rw [decide_eq_false h1, decide_eq_true h0]
          cases w.testBit k
          · exact ⟨fun _ => ⟨fun q => absurd q h1, fun _ => rfl⟩, fun _ => rfl⟩
          · exact ⟨fun q => absurd q (by decide), fun q => absurd (q.2 h0) (by decide)⟩
        · rw [decide_eq_false h1, decide_eq_false h0]
          exact ⟨fun _ => ⟨fun q => absurd q h1, fun q => absurd q h0⟩, fun _ => rfl⟩
    rw [Bool.and_eq_true, one, ih]
    constructor
    · intro h j hj
      by_cases q : j = k
      · subst q
        exact h.2
      · exact h.1 j (by omega)
    · intro h
      exact ⟨fun j hj => h j (by omega), h k (by omega)⟩
/-- the sum over all ways that are as g tells (1 so, 0 not, else free) -/
def c_T (f : Nat → Int) (n : Nat) (g : Nat → Int) : Int := y_S (fun w => if c_ok g n w then f w else 0) (2 ^ n)
def c_up (g : Nat → Int) (k : Nat) (x : Int) : Nat → Int := fun j => if j = k then x else g j
/-- and have one as it is told besides -/
def c_TW (f : Nat → Int) (n : Nat) (g : Nat → Int) (k : Nat) (x : Int) : Int := if 0 ≤ g k ∧ g k ≠ x then 0 else c_T f n (c_up g k x)
section NTS
variable {f f' g g' : Nat → Int} {n k m b : Nat} {x : Int}
theorem c_T_c (hf : ∀ w, w < 2 ^ n → f w = f' w) (hg : ∀ j, j < n → g j = g' j) : c_T f n g = c_T f' n g' := by
  refine c_yS_c (fun w hw => ?_)
  have e : c_ok g n w = c_ok g' n w := Bool.eq_iff_iff.mpr (by
    rw [c_ok_iff, c_ok_iff]
    exact ⟨fun h j hj => by rw [← hg j hj]; exact h j hj, fun h j hj => by rw [hg j hj]; exact h j hj⟩)
  show (if c_ok g n w then f w else 0) = (if c_ok g' n w then f' w else 0)
  rw [e, hf w hw]
theorem c_T_b (f0 : ∀ i, i < 2 ^ n → 0 ≤ f i) : 0 ≤ c_T f n g ∧ c_T f n g ≤ y_S f (2 ^ n) := by
  constructor
  · have h := c_yS_le (f := fun _ => 0) (g := fun w => if c_ok g n w then f w else 0) (n := 2 ^ n) (fun i hi => by
      show (0 : Int) ≤ if c_ok g n i then f i else 0
      split
      · exact f0 i hi
      · exact Int.le_refl 0)
    rw [c_yS_0] at h
    exact h
  · refine c_yS_le (fun i hi => ?_)
    show (if c_ok g n i then f i else 0) ≤ f i
    split
    · exact Int.le_refl _
    · exact f0 i hi
theorem c_TW_b (f0 : ∀ i, i < 2 ^ n → 0 ≤ f i) : 0 ≤ c_TW f n g k x ∧ c_TW f n g k x ≤ y_S f (2 ^ n) := by
  unfold c_TW
  split
  · have := c_T_b (n := n) (g := g) f0
    omega
  · exact c_T_b f0
theorem c_T_S (hm : ∀ j, j < n → m.testBit j = decide (0 ≤ g j)) (hb : ∀ j, j < n → b.testBit j = decide (g j = 1)) (hg : ∀ j, j < n → g j ≤ 1) : c_S m b f n 0 = c_T f n g := by
  rw [← c_S_P]
  refine c_yS_c (fun w hw => ?_)
  have e : c_P m b n w = c_ok g n w := Bool.eq_iff_iff.mpr (by
    rw [c_P_iff, c_ok_iff]
    constructor
    · intro h j hj
      refine ⟨fun q => ?_, fun q => ?_⟩
      · rw [h j hj (by rw [hm j hj]; exact decide_eq_true (by omega)), hb j hj]
        exact decide_eq_true q
      · rw [h j hj (by rw [hm j hj]; exact decide_eq_true (by omega)), hb j hj]
        exact decide_eq_false (by omega)
    · intro h j hj q
      rw [hm j hj] at q
      have q := of_decide_eq_true q
      have := hg j hj
      rw [hb j hj]
      by_cases z : g j = 1
      · rw [decide_eq_true z]
        exact (h j hj).1 z
      · rw [decide_eq_false z]
        exact (h j hj).2 (by omega))
  show (if c_P m b n w then f (0 ||| w) else 0) = _
  rw [e, Nat.zero_or]
theorem c_yS_pl {p q : Nat → Int} : ∀ {n : Nat}, y_S (fun w => p w + q w) n = y_S p n + y_S q n
  | 0 => rfl
  | n + 1 => by
    show y_S (fun w => p w + q w) n + (p n + q n) = y_S p n + p n + (y_S q n + q n)
    rw [c_yS_pl]
    omega
theorem c_upk : c_up g k x k = x := if_pos rfl
theorem c_upo {j : Nat} (h : j ≠ k) : c_up g k x j = g j := if_neg h
theorem c_up_s (h : g k = x) : c_T f n (c_up g k x) = c_T f n g := c_T_c (fun _ _ => rfl) (fun j _ => by
  by_cases e : j = k
  · rw [e, c_upk, h]
  · exact c_upo e)
/-- one way or the other -/
theorem c_T_sp (hk : k < n) (h0 : -1 ≤ g k) (h1 : g k ≤ 1) : c_T f n g = c_TW f n g k 1 + c_TW f n g k 0 := by
  unfold c_TW
  by_cases z1 : g k = 1
  · rw [if_neg (by omega), if_pos (by omega), c_up_s z1]
    omega
  · by_cases z0 : g k = 0
    · rw [if_pos (by omega), if_neg (by omega), c_up_s z0]
      omega
    · rw [if_neg (by omega), if_neg (by omega)]
      show y_S _ (2 ^ n) = y_S _ (2 ^ n) + y_S _ (2 ^ n)
      rw [← c_yS_pl]
      refine c_yS_c (fun w hw => ?_)
      have e1 : c_ok (c_up g k 1) n w = (c_ok g n w && w.testBit k) := Bool.eq_iff_iff.mpr (by
        rw [Bool.and_eq_true, c_ok_iff, c_ok_iff]
        constructor
        · intro h
          refine ⟨fun j hj => ?_, (h k hk).1 c_upk⟩
          by_cases e : j = k
          · rw [e]
            exact ⟨fun q => absurd q z1, fun q => absurd q z0⟩
          · have := h j hj
            rw [c_upo e] at this
            exact this
        · intro h j hj
          by_cases e : j = k
          · rw [e, c_upk]
            exact ⟨fun _ => h.2, fun q => absurd q (by decide)⟩
          · rw [c_upo e]
            exact h.1 j hj)
      have e0 : c_ok (c_up g k 0) n w = (c_ok g n w && !w.testBit k) := Bool.eq_iff_iff.mpr (by
        rw [Bool.and_eq_true, Bool.not_eq_true', c_ok_iff, c_ok_iff]
        constructor
        · intro h
          refine ⟨fun j hj => ?_, (h k hk).2 c_upk⟩
          by_cases e : j = k
          · rw [e]
            exact ⟨fun q => absurd q z1, fun q => absurd q z0⟩
          · have := h j hj
            rw [c_upo e] at this
            exact this
        · intro h j hj
          by_cases e : j = k
          · rw [e, c_upk]
            exact ⟨fun q => absurd q (by decide), fun _ => h.2⟩
          · rw [c_upo e]
            exact h.1 j hj)
      show (if c_ok g n w then f w else 0) = (if c_ok (c_up g k 1) n w then f w else 0) + (if c_ok (c_up g k 0) n w then f w else 0)
      rw [e1, e0]
      cases c_ok g n w <;> cases w.testBit k
      · show (0 : Int) = 0 + 0
        rfl
      · show (0 : Int) = 0 + 0
        rfl
      · show f w = 0 + f w
        omega
      · show f w = f w + 0
        omega
end NTS
/-- bits that tell a state of each -/
def c_gb (F G : Int32) (n : Nat) (g : Nat → Int) : Prop := (0 ≤ F.toInt ∧ F.toInt < ((2 ^ n : Nat) : Int)) ∧ (0 ≤ G.toInt ∧ G.toInt < ((2 ^ n : Nat) : Int)) ∧ ∀ j, j < n → F.toInt.toNat.testBit j = decide (0 ≤ g j) ∧ G.toInt.toNat.testBit j = decide (g j = 1) ∧ -1 ≤ g j ∧ g j ≤ 1
/-- weights of the class -/
def c_ws (h : aH) (n : Nat) (f : Nat → Int) : Prop := ∃ (nd : Int32) (wl : List Int32), w_f h 128 = some (.int nd) ∧ nd.toInt = n ∧ n ≤ 10 ∧ w_a h 9 = some (0, .inl wl) ∧ (∀ i, i < 2 ^ n → (wl.getD i 0).toInt = f i) ∧ (∀ i, 0 ≤ f i) ∧ y_S f (2 ^ n) ≤ 100000000
theorem c_ws_fr {h H : aH} {n : Nat} {f : Nat → Int} {fs as : List Nat} (e : y_fr h H fs as) (h1 : fs.elem 128 = false) (h2 : as.elem 9 = false) (q : c_ws h n f) : c_ws H n f := by
  obtain ⟨nd, wl, g0, q1, q2, a9, q3⟩ := q
  exact ⟨nd, wl, (e.2.1 _ (n_nel h1)).trans g0, q1, q2, (e.2.2 _ (n_nel h2)).trans a9, q3⟩
theorem c_fb_lt {A B : Int32} {o n : Nat} {b : Bool} (n10 : n ≤ 10) (on : o < n) (a0 : 0 ≤ A.toInt) (a1 : A.toInt < ((2 ^ n : Nat) : Int)) (hb : c_fb A B o b) : 0 ≤ B.toInt ∧ B.toInt < ((2 ^ n : Nat) : Int) := by
  refine ⟨hb.1.1, ?_⟩
  have h1 : B.toInt.toNat < 2 ^ n := Nat.lt_pow_two_of_testBit _ (fun k hk => by
    by_cases k10 : k < 10
    · have h3 := hb.2 k k10
      rw [if_neg (by omega), n_tb0 a0 a1 hk] at h3
      exact h3
    · exact c_fb_hi hb.1 (by omega))
  have := hb.1.1
  omega
theorem c_0shl {x : Int32} {k : Nat} (hx : x.toInt = k) (k10 : k < 10) : y_01 false <<< (x &&& 31) = Int32.ofInt 0 := by
  rw [(y_ofNat hx (by omega)).1]
  rcases (show k = 0 ∨ k = 1 ∨ k = 2 ∨ k = 3 ∨ k = 4 ∨ k = 5 ∨ k = 6 ∨ k = 7 ∨ k = 8 ∨ k = 9 by omega) with rfl | rfl | rfl | rfl | rfl | rfl | rfl | rfl | rfl | rfl <;> decide
abbrev c_01 (s : Bool) : Int := if s then 1 else 0
theorem c_gb_up {F G node : Int32} {n k : Nat} {g : Nat → Int} {s : Bool} (hg : c_gb F G n g) (n10 : n ≤ 10) (hk : node.toInt = k) (kn : k < n) (nc : ¬ (0 ≤ g k ∧ g k ≠ c_01 s)) : c_gb (F ||| (Int32.ofInt 1 <<< (node &&& 31))) (G ||| (y_01 s <<< (node &&& 31))) n (c_up g k (c_01 s)) := by
  obtain ⟨⟨p1, p2⟩, ⟨p3, p4⟩, p5⟩ := hg
  have pw : 2 ^ n ≤ 2 ^ 10 := n_p2 n10
  have bF := c_fb1 (F := F) (k := node) p1 (by omega) hk (by omega)
  have lF := c_fb_lt n10 kn p1 p2 bF
  cases s with
  | true =>
    have bG : c_fb G (G ||| (y_01 true <<< (node &&& 31))) k true := c_fb1 (F := G) (k := node) p3 (by omega) hk (by omega)
    refine ⟨lF, c_fb_lt n10 kn p3 p4 bG, fun j hj => ?_⟩
    rw [bF.2 j (by omega), bG.2 j (by omega)]
    by_cases e : j = k
    · rw [if_pos e, if_pos e, e, c_upk]
      exact ⟨rfl, rfl, by decide, by decide⟩
    · rw [if_neg e, if_neg e, c_upo e]
      exact p5 j hj
  | false =>
    rw [c_0shl hk (by omega), i_or0]
    refine ⟨lF, ⟨p3, p4⟩, fun j hj => ?_⟩
    rw [bF.2 j (by omega)]
    by_cases e : j = k
    · rw [if_pos e, e, c_upk, (p5 k kn).2.1]
      refine ⟨rfl, ?_, by decide, by decide⟩
      have z : ¬ (0 ≤ g k ∧ g k ≠ 0) := nc
      rw [decide_eq_false (show ¬ g k = 1 by omega)]
      rfl
    · rw [if_neg e, c_upo e]
      exact p5 j hj
section NTC
variable {X : aX} {C S d : Nat} {K0 : Option Value → aH → Nat → Nat → Prop}
theorem c_weighG {h : aH} (hr : w_hr z_D h) {n : Nat} {f g : Nat → Int} {mask bits : Int32} (hw : c_ws h n f) (hg : c_gb mask bits n g) (hK : ∀ (H : aH) (s : Int32), y_fr h H [] [] → s.toInt = c_T f n g → K0 (some (.int s)) H C S) : aOK s_P X (d + 1) a_m36 0 [some (.ref 3), some (.int mask), some (.int bits), none, none, none, none, none] [] h C S K0 := by
  obtain ⟨nd, wl, g0, en, n10, a9, wf, f0, f8⟩ := hw
  obtain ⟨⟨p1, p2⟩, ⟨p3, p4⟩, p5⟩ := hg
  have en' : nd.toInt.toNat = n := by omega
  refine c_weigh (d := d) (m := mask.toInt.toNat) (b := bits.toInt.toNat) (f := f) hr g0 (by omega) (by omega) (by omega) (by omega) (by rw [en']; omega) (fun j hj => ?_) a9 (by rw [en']; exact wf) f0 (by rw [en']; exact f8) (fun H s e hs => hK H s e ?_)
  · by_cases z : j < n
    · rw [(p5 j z).2.1] at hj
      have := of_decide_eq_true hj
      rw [(p5 j z).1]
      exact decide_eq_true (by omega)
    · rw [n_tb0 p3 p4 (by omega)] at hj
      cases hj
  · rw [hs, en']
    exact c_T_S (fun j hj => (p5 j hj).1) (fun j hj => (p5 j hj).2.1) (fun j hj => (p5 j hj).2.2.2)
theorem c_weighWith {h : aH} (hr : w_hr z_D h) {n k : Nat} {f g : Nat → Int} {mask bits node : Int32} {s : Bool} (hw : c_ws h n f) (hg : c_gb mask bits n g) (hk : node.toInt = k) (kn : k < n) (hK : ∀ (H : aH) (r : Int32), y_fr h H [] [] → r.toInt = c_TW f n g k (c_01 s) → K0 (some (.int r)) H C S) : aOK s_P X (d + 2) a_m38 0 [some (.ref 3), some (.int mask), some (.int bits), some (.int node), some (.int (y_01 s))] [] h C S K0 := by
  have n10 : n ≤ 10 := by
    obtain ⟨nd, wl, g0, en, n10, -⟩ := hw
    exact n10
  obtain ⟨⟨p1, p2⟩, ⟨p3, p4⟩, p5⟩ := id hg
  have pw : 2 ^ n ≤ 2 ^ 10 := n_p2 n10
  have m1 := c_b01 (bits := mask) (k := node) (b := mask.toInt.toNat) (o := k) (by omega) (by omega) hk (by omega)
  have m2 := c_b01 (bits := bits) (k := node) (b := bits.toInt.toNat) (o := k) (by omega) (by omega) hk (by omega)
  obtain ⟨u1, u2, u3, u4⟩ := p5 k kn
  rw [u1] at m1
  rw [u2] at m2
  have T20 : ∀ {G : aH}, y_fr h G [] [] → ¬ (0 ≤ g k ∧ g k ≠ c_01 s) → aOK s_P X (d + 2) a_m38 20 [some (.ref 3), some (.int mask), some (.int bits), some (.int node), some (.int (y_01 s))] [] G C S K0 := by
    intro G e nc
    refine w_go z_hl [] [36] 40 e.1 ?_
    intro H hH
    have e2 : y_fr h H [] [] := y_st e hH (by repeat (first | exact w_nil | refine w_cons (Or.inl (y_m rfl)) ?_ | refine w_cons (Or.inr (by assumption)) ?_)) (by repeat (first | exact w_nil | refine w_cons (Or.inl (y_m rfl)) ?_ | refine w_cons (Or.inr (by assumption)) ?_))
    refine c_weighG (d := d) e2.1 (c_ws_fr e2 rfl rfl hw) (c_gb_up hg n10 hk kn nc) (fun H3 r f3 hr3 => ⟨fun n e => (by cases e), ?_⟩)
    have e3 := y_sq e2 f3 rfl rfl
    refine w_go z_hl [] [] 20 e3.1 ?_
    intro H4 h4
    exact hK H4 r (y_st e3 h4 (by repeat (first | exact w_nil | refine w_cons (Or.inl (y_m rfl)) ?_ | refine w_cons (Or.inr (by assumption)) ?_)) (by repeat (first | exact w_nil | refine w_cons (Or.inl (y_m rfl)) ?_ | refine w_cons (Or.inr (by assumption)) ?_))) (by rw [hr3]; exact (if_neg nc).symm)
  refine w_go z_hl [20] [] 60 hr ?_
  refine ⟨fun q => fun H hH => ?_, fun q => ⟨fun q2 => fun H hH => ?_, fun q2 => fun H hH => ?_⟩⟩
  · have z : ((mask >>> (node &&& 31)) &&& Int32.ofInt 1).toInt = (0 : Int32).toInt := (y_ci .eq _ _).mp q
    have z2 : ((mask >>> (node &&& 31)) &&& Int32.ofInt 1).toInt = 0 := z
    refine T20 (y_st (y_rf hr) hH (by repeat (first | exact w_nil | refine w_cons (Or.inl (y_m rfl)) ?_ | refine w_cons (Or.inr (by assumption)) ?_)) (by repeat (first | exact w_nil | refine w_cons (Or.inl (y_m rfl)) ?_ | refine w_cons (Or.inr (by assumption)) ?_))) (fun w => ?_)
    rw [decide_eq_true w.1, if_pos rfl] at m1
    omega
  · have z : ((bits >>> (node &&& 31)) &&& Int32.ofInt 1).toInt = (y_01 s).toInt := (y_ci .eq _ _).mp q2
    refine T20 (y_st (y_rf hr) hH (by repeat (first | exact w_nil | refine w_cons (Or.inl (y_m rfl)) ?_ | refine w_cons (Or.inr (by assumption)) ?_)) (by repeat (first | exact w_nil | refine w_cons (Or.inl (y_m rfl)) ?_ | refine w_cons (Or.inr (by assumption)) ?_))) (fun w => ?_)
    rw [m2] at z
    cases s with
    | true =>
      rw [show (y_01 true).toInt = 1 by decide] at z
      have w2 : g k ≠ 1 := w.2
      rw [decide_eq_false w2, if_neg (by decide)] at z
      omega
    | false =>
      rw [show (y_01 false).toInt = 0 by decide] at z
      have w1 := w.1
      have w2 : g k ≠ 0 := w.2
      rw [decide_eq_true (show g k = 1 by omega), if_pos rfl] at z
      omega
  · have z0 : ¬ (((mask >>> (node &&& 31)) &&& Int32.ofInt 1).toInt = (0 : Int32).toInt) := y_cif q
    have z : ¬ (((bits >>> (node &&& 31)) &&& Int32.ofInt 1).toInt = (y_01 s).toInt) := y_cif q2
    have nc : 0 ≤ g k ∧ g k ≠ c_01 s := by
      have w1 : 0 ≤ g k := by
        by_cases w : 0 ≤ g k
        · exact w
        · rw [decide_eq_false w, if_neg (by decide)] at m1
          exact absurd (show _ = (0 : Int32).toInt from m1) z0
      refine ⟨w1, fun w => z ?_⟩
      rw [m2]
      cases s with
      | true =>
        have w2 : g k = 1 := w
        rw [decide_eq_true w2]
        decide
      | false =>
        have w2 : g k = 0 := w
        rw [decide_eq_false (show ¬ g k = 1 by omega)]
        decide
    exact hK H _ (y_st (y_rf hr) hH (by repeat (first | exact w_nil | refine w_cons (Or.inl (y_m rfl)) ?_ | refine w_cons (Or.inr (by assumption)) ?_)) (by repeat (first | exact w_nil | refine w_cons (Or.inl (y_m rfl)) ?_ | refine w_cons (Or.inr (by assumption)) ?_))) (by rw [show c_TW f n g k (c_01 s) = 0 from if_pos nc]; decide)
end NTC
/-- by what is held -/
def n_W (v : Nat → Int32) (w : Nat) : Int := y_W (v 128) (n_ls v 701000 10) (n_ls v 702000 10) (n_ls v 700000 80) (n_ls v 704000 10) w (v 128).toInt.toNat
def n_sg (v : Nat → Int32) (k : Nat) : Int := (v (705000 + k)).toInt
def n_now (v : Nat → Int32) : Int := c_T (n_W v) ((v 128).toInt.toNat) (n_sg v)
def n_nwW (v : Nat → Int32) (k : Nat) (s : Bool) : Int := c_TW (n_W v) ((v 128).toInt.toNat) (n_sg v) k (c_01 s)
/-- what a call leaves that works the weights, then tells a row -/
def z_qm : List Nat := [143, 1152, 1281, 1408, 19328, 19329, 19456, 19457]
def n_Qs (v : Nat → Int32) (h H : aH) : Prop := w_hr z_D H ∧ y_JA H ∧ z_frm z_D z_qm h H ∧ n_Wv v H ∧ w_f H 143 = some (.int (Int32.ofInt 1))
section NQS
variable {X : aX} {C S d : Nat} {K0 : Option Value → aH → Nat → Nat → Prop} {h G H : aH} {v : Nat → Int32}
theorem n_Qs_y (q : n_Qs v h G) (e : y_fr G H [] []) : n_Qs v h H := ⟨e.1, y_jfr y_JA_x e rfl rfl q.2.1, z_frm_tr q.2.2.1 (y_frm q.1 e rfl rfl), n_Wv_p G H (fun k _ => e.2.1 k List.not_mem_nil) (fun o _ => e.2.2 o List.not_mem_nil) q.2.2.2.1, (y_fe e rfl).trans q.2.2.2.2⟩
theorem n_Qs_l (hr : w_hr z_D h) (e : y_fr h G [] []) (q : n_Qs v G H) : n_Qs v h H := ⟨q.1, q.2.1, z_frm_tr (y_frm hr e rfl rfl) q.2.2.1, q.2.2.2⟩
theorem n_Qs_z {ms : List Nat} (q : n_Qs v h G) (hr' : w_hr z_D H) (hJ' : y_JA H) (hf : z_frm z_D ms G H) (h1 : ms.all (fun x => z_qm.elem x) = true) (h2 : z_pm ms = true) : n_Qs v h H := by
  unfold z_pm at h2
  rw [Bool.and_eq_true] at h2
  have A : ∀ k ∈ z_pF, w_f H k = w_f G k := fun k hk => n_dk q.1 hf (List.all_eq_true.mp z_pd k hk) (by
    have := List.all_eq_true.mp h2.1 k hk
    rw [Bool.not_eq_true'] at this
    exact this)
  have B : ∀ o ∈ z_pA, w_a H o = w_a G o := fun o ho => n_da hf (List.all_eq_true.mp z_pd2 o ho) (by
    have := List.all_eq_true.mp h2.2 o ho
    rw [Bool.not_eq_true'] at this
    exact this)
  exact ⟨hr', hJ', z_frm_tr q.2.2.1 (n_zmo hf h1), n_Wv_p G H A B q.2.2.2.1, (A 143 (by decide)).trans q.2.2.2.2⟩
theorem c_refreshQ (hr : w_hr z_D h) (hJ : y_JA h) (hW : n_Wv v h) (hK : ∀ H, n_Qs v h H → K0 none H C S) : aOK s_P X (d + 2) a_m29 0 [some (.ref 3), none] [] h C S K0 := by
  obtain ⟨lc, lo, wl, fr, q8, q9, q10, q11, q12, q13⟩ := hW
  refine c_refresh (d := d) hr q8 q9 q10 q11 q12 q13 (fun H wl' f u1 u2 u3 => hK H ?_)
  exact ⟨f.1, y_jfr y_JA_x f rfl rfl hJ, y_frm hr f rfl rfl, ⟨lc, lo, wl', _, c_net_y q8 f rfl rfl, q9, u1, u2, u3.1, fun _ => u3⟩, u1⟩
theorem n_W_s {F G : Int32} {lc lo : List Int32} (q : c_nok (v 128) F G (n_ls v 701000 10) lc lo (n_ls v 702000 10) (n_ls v 700000 80) (n_ls v 704000 10)) : (∀ i, 0 ≤ n_W v i) ∧ y_S (n_W v) (2 ^ (v 128).toInt.toNat) ≤ 100000000 := by
  obtain ⟨b, -, -, q4, q5, q6, q7⟩ := id q
  refine ⟨fun i => (c_W_b q (by omega)).1, ?_⟩
  refine Int.le_trans (y_fa_sum (n := (v 128).toInt.toNat) (le := y_Nn (n_ls v 701000 10)) (de := y_N (n_ls v 702000 10)) (ta := y_N (n_ls v 700000 80)) (fo := y_N (n_ls v 704000 10)) (fun u hu => (q4 u (by omega)).1) (fun u hu => Nat.le_trans (y_pl_m (show (v 128).toInt.toNat ≤ 10 by omega)) (q4 u (by omega)).2.1) (fun u c hu hc => ?_) (fun u hu => Int.le_trans (by decide) (q6 u (by omega)).1)) q7
  have h1 := q5 (8 * u + c) (by omega)
  rw [show (8 * u + c) / 8 = u by omega] at h1
  exact h1
theorem n_Qs_ws (q : n_Qs v h G) : c_ws G ((v 128).toInt.toNat) (n_W v) := by
  obtain ⟨lc, lo, wl, fr, q8, q9, q10, q11, q12, q13⟩ := q.2.2.2.1
  have e : fr = Int32.ofInt 1 := y_fi q10 q.2.2.2.2
  have wk := q13 (by rw [e]; decide)
  have b0 := q8.2.2.1
  obtain ⟨s1, s2⟩ := n_W_s q8.2.2
  exact ⟨v 128, wl, q8.1.1, by omega, by omega, q11, wk.2, s1, s2⟩
theorem n_Qs_sn (hr : w_hr z_D h) (hc : n_cV h v) (q : n_Qs v h G) : w_f G 138 = some (.int (v 138)) ∧ w_f G 139 = some (.int (v 139)) ∧ c_gb (v 138) (v 139) ((v 128).toInt.toNat) (n_sg v) := by
  have hm : n_mk z_qm [143, 1152] = true := by decide +kernel
  obtain ⟨p1, p2, p3⟩ := id hc.2.2.2.2.2.2.2.2.2.2.2.2.1
  refine ⟨(n_mk_c hr q.2.2.1 hm 138 (by decide) (by decide)).trans (hc.1 138 (by decide)), (n_mk_c hr q.2.2.1 hm 139 (by decide) (by decide)).trans (hc.1 139 (by decide)), p1, p2, fun j hj => ?_⟩
  exact p3 j (by omega)
theorem n_Qs_pc (hI : t_I h) (hc : n_cV h v) (hm : n_mV h v) (q : n_Qs v h H) : t_I H ∧ n_cV H (n_up v 143 (Int32.ofInt 1)) ∧ n_mV H v := by
  obtain ⟨q1, q2, q3, q4, q5⟩ := q
  have h6 : n_mk z_qm [143, 1152] = true := by decide +kernel
  have A1 : ∀ k ∈ nC, k ≠ 143 → w_f H k = w_f h k := fun k hk e => n_mk_c hI.1 q3 h6 k hk (fun w => by
    have z : nC.all (fun k => decide (k ≠ 1152)) = true := rfl
    have z := of_decide_eq_true (List.all_eq_true.mp z k hk)
    simp only [List.mem_cons, List.not_mem_nil, or_false] at w
    omega)
  have A2 : ∀ o ∈ nCA, o ≠ 9 → w_a H o = w_a h o := fun o ho e => n_mk_a q3 h6 o ho (fun w => by
    simp only [List.mem_cons, List.not_mem_nil, or_false] at w
    omega)
  obtain ⟨fr, hc'⟩ := n_ofW q1 hc A1 A2 q4
  have e1 : n_up v 143 fr 143 = Int32.ofInt 1 := y_fi (hc'.1 143 (by decide)) q5
  have e2 : fr = Int32.ofInt 1 := e1
  rw [e2] at hc'
  exact ⟨⟨q1, q2, t_day_frm hI.1 q3 (by decide) hI.2.2⟩, hc', n_mS_V (n_mk_m (ex := [143, 1152]) hI.1 q3 h6) hm⟩
theorem c_wNow (hr : w_hr z_D h) (hc : n_cV h v) (q : n_Qs v h G) (hK : ∀ (H : aH) (r : Int32), n_Qs v h H → r.toInt = n_now v → K0 (some (.int r)) H C S) : aOK s_P X (d + 2) a_m35 0 [some (.ref 3)] [] G C S K0 := by
  obtain ⟨g1, g2, gb⟩ := n_Qs_sn hr hc q
  refine w_go z_hl [] [36] 40 q.1 ?_
  intro x hx _ _
  obtain rfl := y_fi g1 hx
  intro y hy _ _
  obtain rfl := y_fi g2 hy
  intro H hH
  have e : y_fr G H [] [] := y_st (y_rf q.1) hH (by repeat (first | exact w_nil | refine w_cons (Or.inl (y_m rfl)) ?_ | refine w_cons (Or.inr (by assumption)) ?_)) (by repeat (first | exact w_nil | refine w_cons (Or.inl (y_m rfl)) ?_ | refine w_cons (Or.inr (by assumption)) ?_))
  refine c_weighG (d := d) e.1 (c_ws_fr e rfl rfl (n_Qs_ws q)) gb (fun H3 r f3 hr3 => ⟨fun n e => (by cases e), ?_⟩)
  refine w_go z_hl [] [] 20 f3.1 ?_
  intro H4 h4
  exact hK H4 r (n_Qs_y q (y_st (y_sq e f3 rfl rfl) h4 (by repeat (first | exact w_nil | refine w_cons (Or.inl (y_m rfl)) ?_ | refine w_cons (Or.inr (by assumption)) ?_)) (by repeat (first | exact w_nil | refine w_cons (Or.inl (y_m rfl)) ?_ | refine w_cons (Or.inr (by assumption)) ?_)))) hr3
theorem c_weighNowWith (hr : w_hr z_D h) (hc : n_cV h v) (q : n_Qs v h G) {node : Int32} {k : Nat} {s : Bool} (hk : node.toInt = k) (kn : k < (v 128).toInt.toNat) (hK : ∀ (H : aH) (r : Int32), n_Qs v h H → r.toInt = n_nwW v k s → K0 (some (.int r)) H C S) : aOK s_P X (d + 3) a_m37 0 [some (.ref 3), some (.int node), some (.int (y_01 s))] [] G C S K0 := by
  obtain ⟨g1, g2, gb⟩ := n_Qs_sn hr hc q
  refine w_go z_hl [] [38] 40 q.1 ?_
  intro x hx _ _
  obtain rfl := y_fi g1 hx
  intro y hy _ _
  obtain rfl := y_fi g2 hy
  intro H hH
  have e : y_fr G H [] [] := y_st (y_rf q.1) hH (by repeat (first | exact w_nil | refine w_cons (Or.inl (y_m rfl)) ?_ | refine w_cons (Or.inr (by assumption)) ?_)) (by repeat (first | exact w_nil | refine w_cons (Or.inl (y_m rfl)) ?_ | refine w_cons (Or.inr (by assumption)) ?_))
  refine c_weighWith (d := d) (s := s) e.1 (c_ws_fr e rfl rfl (n_Qs_ws q)) gb hk kn (fun H3 r f3 hr3 => ⟨fun n e => (by cases e), ?_⟩)
  refine w_go z_hl [] [] 20 f3.1 ?_
  intro H4 h4
  exact hK H4 r (n_Qs_y q (y_st (y_sq e f3 rfl rfl) h4 (by repeat (first | exact w_nil | refine w_cons (Or.inl (y_m rfl)) ?_ | refine w_cons (Or.inr (by assumption)) ?_)) (by repeat (first | exact w_nil | refine w_cons (Or.inl (y_m rfl)) ?_ | refine w_cons (Or.inr (by assumption)) ?_)))) hr3
/-- a fraction is put, and told -/
theorem c_put1 (q : n_Qs v h G) {a b : Int64} (hK : ∀ H, n_Qs v h H → K0 none H C S) : aOK s_P X (d + 1) a_m39 0 [some (.ref 153), some (.long a), none, some (.long b), none, none, none] [] G C S K0 := by
  have b1 := a.toInt_lt
  have b2 := a.le_toInt
  have b3 := b.toInt_lt
  have b4 := b.le_toInt
  exact n_boxv [.long a, .long b] (z_x13_s (y_jx_l y_JA_x)) rfl rfl rfl q.1 q.2.1 (n_Bl (by omega) (by omega) (n_Bl (by omega) (by omega) n_B0)) (fun q hq => by cases hq) (by decide) rfl (by decide +kernel) (fun H' r1 r2 r3 => hK H' (n_Qs_z q r1 r2 r3 (by decide) (by decide)))
theorem c_tell1 (q : n_Qs v h G) (hK : ∀ H, n_Qs v h H → K0 none H C S) : aOK s_P X (d + 2) a_m42 0 [some (.ref 12), some (.ref 153)] [] G C S K0 := n_boxv [] (z_x17_s (y_jx_l y_JA_x)) rfl rfl rfl q.1 q.2.1 n_B0 (fun q hq => by cases hq) (by decide) rfl (by decide +kernel) (fun H' r1 r2 r3 => hK H' (n_Qs_z q r1 r2 r3 (by decide) (by decide)))
end NQS
/-- the reference's sums -/
theorem y_ws_S {wl : List Int64} {a b : Int32} : ∀ {n : Nat}, y_ws wl a b n = y_S (fun w => if y_sel a b (Int32.ofNat w) then (wl.getD w 0).toInt else 0) n
  | 0 => rfl
  | n + 1 => by
    show y_ws wl a b n + _ = y_S _ n + _
    rw [y_ws_S]
theorem c_and_i {x y : Int32} {n m : Nat} (hx : x.toInt = n) (hy : y.toInt = m) : (x &&& y = y ↔ ∀ j, m.testBit j = true → n.testBit j = true) ∧ (x &&& y = 0 ↔ ∀ j, m.testBit j = true → n.testBit j = false) := by
  have e := c_and hx hy
  constructor
  · constructor
    · intro h j hj
      have h2 : n &&& m = m := by
        rw [h, hy] at e
        omega
      have h3 : (n &&& m).testBit j = true := by rw [h2]; exact hj
      rw [Nat.testBit_and, Bool.and_eq_true] at h3
      exact h3.1
    · intro h
      refine Int32.toInt_inj.mp ?_
      rw [e, hy]
      have : n &&& m = m := Nat.eq_of_testBit_eq (fun j => by
        rw [Nat.testBit_and]
        cases hj : m.testBit j with
        | true => rw [h j hj]; rfl
        | false => exact Bool.and_false _)
      rw [this]
  · constructor
    · intro h j hj
      have h2 : n &&& m = 0 := by
        rw [h, show (0 : Int32).toInt = 0 by decide] at e
        omega
      have h3 : (n &&& m).testBit j = false := by rw [h2]; exact Nat.zero_testBit j
      rw [Nat.testBit_and, hj, Bool.and_true] at h3
      exact h3
    · intro h
      refine Int32.toInt_inj.mp ?_
      rw [e, show (0 : Int32).toInt = 0 by decide]
      have : n &&& m = 0 := Nat.eq_of_testBit_eq (fun j => by
        rw [Nat.testBit_and, Nat.zero_testBit]
        cases hj : m.testBit j with
        | true => rw [h j hj]; rfl
        | false => exact Bool.and_false _)
      rw [this]
      rfl
theorem y_sel_i {a b : Int32} {A B w : Nat} (ha : a.toInt = A) (hb : b.toInt = B) (w10 : w < 1024) : y_sel a b (Int32.ofNat w) = true ↔ ∀ j, (A.testBit j = true → w.testBit j = true) ∧ (B.testBit j = true → w.testBit j = false) := by
  have hw : (Int32.ofNat w).toInt = w := Int32.toInt_ofNat_of_lt (by omega)
  unfold y_sel
  rw [Bool.and_eq_true, decide_eq_true_eq, decide_eq_true_eq, (c_and_i hw ha).1, (c_and_i hw hb).2]
  exact ⟨fun h j => ⟨h.1 j, h.2 j⟩, fun h => ⟨fun j => (h j).1, fun j => (h j).2⟩⟩
theorem y_bits_N {p : Nat → Bool} : ∀ {n : Nat}, n ≤ 10 → ∃ A : Nat, (y_bits p n).toInt = A ∧ A < 1024 ∧ ∀ j, A.testBit j = (decide (j < n) && p j) := by
  intro n
  induction n with
  | zero =>
    intro _
    refine ⟨0, show (Int32.ofInt 0).toInt = ((0 : Nat) : Int) by decide, by decide, fun j => ?_⟩
    rw [Nat.zero_testBit, decide_eq_false (Nat.not_lt_zero j)]
    rfl
  | succ n ih =>
    intro n10
    obtain ⟨A, h1, h2, h3⟩ := ih (by omega)
    have hn : (Int32.ofNat n).toInt = n := Int32.toInt_ofNat_of_lt (by omega)
    have sh := c_shlN hn (by omega)
    have p10 : 2 ^ n < 2 ^ 10 := Nat.pow_lt_pow_right (by decide) (by omega)
    cases hp : p n with
    | true =>
      have e : y_bits p (n + 1) = y_bits p n ||| (Int32.ofInt 1 <<< (Int32.ofNat n &&& 31)) := by
        show y_bits p n ||| cond (p n) _ _ = _
        rw [hp]
        rfl
      obtain ⟨o1, o2⟩ := c_orN h1 sh h2 (by omega)
      refine ⟨_, by rw [e]; exact o1, o2, fun j => ?_⟩
      rw [Nat.testBit_or, h3 j, Nat.testBit_two_pow]
      by_cases z : n = j
      · subst z
        rw [decide_eq_true (rfl : n = n), decide_eq_true (Nat.lt_succ_self n), hp, Bool.or_true]
        rfl
      · rw [decide_eq_false z, Bool.or_false]
        by_cases y : j < n
        · rw [decide_eq_true y, decide_eq_true (show j < n + 1 by omega)]
        · rw [decide_eq_false y, decide_eq_false (show ¬ j < n + 1 by omega)]
    | false =>
      have e : y_bits p (n + 1) = y_bits p n := by
        show y_bits p n ||| cond (p n) _ _ = _
        rw [hp]
        exact i_or0 _
      refine ⟨A, by rw [e]; exact h1, h2, fun j => ?_⟩
      rw [h3 j]
      by_cases z : j = n
      · subst z
        rw [hp, Bool.and_false, Bool.and_false]
      · by_cases y : j < n
        · rw [decide_eq_true y, decide_eq_true (show j < n + 1 by omega)]
        · rw [decide_eq_false y, decide_eq_false (show ¬ j < n + 1 by omega)]
/-- a sum of the reference, where no bit is asked both ways -/
theorem y_ws_T {wl : List Int64} {a b : Int32} {A B n : Nat} {f g : Nat → Int} (ha : a.toInt = A) (hb : b.toInt = B) (n10 : n ≤ 10) (hA : ∀ j, A.testBit j = true ↔ (j < n ∧ g j = 1)) (hB : ∀ j, B.testBit j = true ↔ (j < n ∧ g j = 0)) (hf : ∀ w, w < 2 ^ n → (wl.getD w 0).toInt = f w) : y_ws wl a b (2 ^ n) = c_T f n g := by
  have pw : 2 ^ n ≤ 2 ^ 10 := Nat.pow_le_pow_right (by decide) n10
  rw [y_ws_S]
  refine c_yS_c (fun w hw => ?_)
  have e : y_sel a b (Int32.ofNat w) = c_ok g n w := Bool.eq_iff_iff.mpr (by
    rw [y_sel_i ha hb (by omega), c_ok_iff]
    constructor
    · intro h j hj
      exact ⟨fun q => (h j).1 ((hA j).mpr ⟨hj, q⟩), fun q => (h j).2 ((hB j).mpr ⟨hj, q⟩)⟩
    · intro h j
      exact ⟨fun q => (h j ((hA j).mp q).1).1 ((hA j).mp q).2, fun q => (h j ((hB j).mp q).1).2 ((hB j).mp q).2⟩)
  show (if y_sel a b (Int32.ofNat w) then (wl.getD w 0).toInt else 0) = (if c_ok g n w then f w else 0)
  rw [e, hf w hw]
/-- and 0 where one is -/
theorem y_ws_0 {wl : List Int64} {a b : Int32} {A B n j : Nat} (ha : a.toInt = A) (hb : b.toInt = B) (n10 : n ≤ 10) (jA : A.testBit j = true) (jB : B.testBit j = true) : y_ws wl a b (2 ^ n) = 0 := by
  have pw : 2 ^ n ≤ 2 ^ 10 := Nat.pow_le_pow_right (by decide) n10
  rw [y_ws_S, c_yS_c (g := fun _ => 0) (fun w hw => ?_), c_yS_0]
  have e : y_sel a b (Int32.ofNat w) = false := by
    cases q : y_sel a b (Int32.ofNat w) with
    | false => rfl
    | true =>
      have h := (y_sel_i ha hb (by omega)).mp q j
      have := h.1 jA
      rw [h.2 jB] at this
      cases this
  show (if y_sel a b (Int32.ofNat w) then (wl.getD w 0).toInt else 0) = 0
  rw [e]
  rfl
/-- what is seen but one -/
def n_bu (g : Nat → Int) (but : Int32) (j : Nat) : Int := if (j : Int) = but.toInt then -1 else g j
theorem y_pS_i {sa : List Int32} {but : Int32} {j n : Nat} {g : Nat → Int} (hs : ∀ j, j < n → y_N sa j = g j) (hj : j < n) : y_pS sa but j = true ↔ n_bu g but j = 1 := by
  unfold y_pS n_bu
  rw [Bool.and_eq_true, Bool.not_eq_true', decide_eq_false_iff_not, decide_eq_true_eq, hs j hj]
  by_cases e : (j : Int) = but.toInt
  · rw [if_pos e]
    exact ⟨fun q => absurd e q.1, fun q => absurd q (by decide)⟩
  · rw [if_neg e]
    exact ⟨fun q => q.2, fun q => ⟨e, q⟩⟩
theorem y_pN_i {sa : List Int32} {but : Int32} {j n : Nat} {g : Nat → Int} (hs : ∀ j, j < n → y_N sa j = g j) (hj : j < n) : y_pN sa but j = true ↔ n_bu g but j = 0 := by
  unfold y_pN n_bu
  rw [Bool.and_eq_true, Bool.not_eq_true', decide_eq_false_iff_not, decide_eq_true_eq, hs j hj]
  by_cases e : (j : Int) = but.toInt
  · rw [if_pos e]
    exact ⟨fun q => absurd e q.1, fun q => absurd q (by decide)⟩
  · rw [if_neg e]
    exact ⟨fun q => q.2, fun q => ⟨e, q⟩⟩
theorem y_nw_T {sa : List Int32} {nd but : Int32} {wl : List Int64} {n : Nat} {f g : Nat → Int} {s : Bool} (hn : nd.toInt = n) (n10 : n ≤ 10) (hs : ∀ j, j < n → y_N sa j = g j) (hf : ∀ w, w < 2 ^ n → (wl.getD w 0).toInt = f w) : y_nw sa nd wl (Int32.ofInt (-1)) s but = c_T f n (n_bu g but) := by
  have en : nd.toInt.toNat = n := by omega
  obtain ⟨A, a1, a2, a3⟩ := y_bits_N (p := y_pS sa but) n10
  obtain ⟨B, b1, b2, b3⟩ := y_bits_N (p := y_pN sa but) n10
  unfold y_nw
  have eb : y_bt (Int32.ofInt (-1)) = Int32.ofInt 0 := by decide
  have ew : y_ways nd = 2 ^ n := by unfold y_ways; rw [en]
  rw [eb, en, ew, show cond s (Int32.ofInt 0) (Int32.ofInt 0) = Int32.ofInt 0 by cases s <;> rfl, i_or0, i_or0]
  refine y_ws_T a1 b1 n10 (fun j => ?_) (fun j => ?_) hf
  · rw [a3 j, Bool.and_eq_true, decide_eq_true_eq]
    exact ⟨fun q => ⟨q.1, (y_pS_i hs q.1).mp q.2⟩, fun q => ⟨q.1, (y_pS_i hs q.1).mpr q.2⟩⟩
  · rw [b3 j, Bool.and_eq_true, decide_eq_true_eq]
    exact ⟨fun q => ⟨q.1, (y_pN_i hs q.1).mp q.2⟩, fun q => ⟨q.1, (y_pN_i hs q.1).mpr q.2⟩⟩
theorem y_nw_W {sa : List Int32} {nd node but : Int32} {wl : List Int64} {n k : Nat} {f g : Nat → Int} {s : Bool} (hn : nd.toInt = n) (n10 : n ≤ 10) (hk : node.toInt = k) (kn : k < n) (hs : ∀ j, j < n → y_N sa j = g j) (h1 : g k ≤ 1) (hf : ∀ w, w < 2 ^ n → (wl.getD w 0).toInt = f w) : y_nw sa nd wl node s but = c_TW f n (n_bu g but) k (c_01 s) := by
  have en : nd.toInt.toNat = n := by omega
  obtain ⟨A, a1, a2, a3⟩ := y_bits_N (p := y_pS sa but) n10
  obtain ⟨B, b1, b2, b3⟩ := y_bits_N (p := y_pN sa but) n10
  have a4 : ∀ j, A.testBit j = true ↔ (j < n ∧ n_bu g but j = 1) := fun j => by
    rw [a3 j, Bool.and_eq_true, decide_eq_true_eq]
    exact ⟨fun q => ⟨q.1, (y_pS_i hs q.1).mp q.2⟩, fun q => ⟨q.1, (y_pS_i hs q.1).mpr q.2⟩⟩
  have b4 : ∀ j, B.testBit j = true ↔ (j < n ∧ n_bu g but j = 0) := fun j => by
    rw [b3 j, Bool.and_eq_true, decide_eq_true_eq]
    exact ⟨fun q => ⟨q.1, (y_pN_i hs q.1).mp q.2⟩, fun q => ⟨q.1, (y_pN_i hs q.1).mpr q.2⟩⟩
  have g1 : n_bu g but k ≤ 1 := by
    unfold n_bu
    split
    · decide
    · exact h1
  have p10 : 2 ^ k < 2 ^ 10 := Nat.pow_lt_pow_right (by decide) (by omega)
  have sh := c_shlN hk (by omega)
  have eb : y_bt node = Int32.ofInt 1 <<< (node &&& 31) := if_neg (by omega)
  have ew : y_ways nd = 2 ^ n := by unfold y_ways; rw [en]
  unfold y_nw
  rw [eb, en, ew]
  have ob : ∀ {D j : Nat}, (D ||| 2 ^ k).testBit j = true ↔ (D.testBit j = true ∨ k = j) := fun {D j} => by
    rw [Nat.testBit_or, Nat.testBit_two_pow, Bool.or_eq_true, decide_eq_true_eq]
  cases s with
  | true =>
    rw [show cond true (Int32.ofInt 1 <<< (node &&& 31)) (Int32.ofInt 0) = Int32.ofInt 1 <<< (node &&& 31) from rfl, show cond true (Int32.ofInt 0) (Int32.ofInt 1 <<< (node &&& 31)) = Int32.ofInt 0 from rfl, i_or0]
    obtain ⟨o1, o2⟩ := c_orN a1 sh a2 (by omega)
    by_cases z : 0 ≤ n_bu g but k ∧ n_bu g but k ≠ 1
    · rw [show c_TW f n (n_bu g but) k (c_01 true) = 0 from if_pos z]
      exact y_ws_0 (j := k) o1 b1 n10 (ob.mpr (Or.inr rfl)) ((b4 k).mpr ⟨kn, by omega⟩)
    · rw [show c_TW f n (n_bu g but) k (c_01 true) = c_T f n (c_up (n_bu g but) k 1) from if_neg z]
      refine y_ws_T o1 b1 n10 (fun j => ?_) (fun j => ?_) hf
      · rw [ob, a4 j]
        by_cases e : j = k
        · rw [e, c_upk]
          exact ⟨fun _ => ⟨kn, rfl⟩, fun _ => Or.inr rfl⟩
        · rw [c_upo e]
          exact ⟨fun q => q.resolve_right (fun w => e w.symm), fun q => Or.inl q⟩
      · rw [b4 j]
        by_cases e : j = k
        · rw [e, c_upk]
          exact ⟨fun q => absurd ⟨by omega, by omega⟩ z, fun q => absurd q.2 (by decide)⟩
        · rw [c_upo e]
  | false =>
    rw [show cond false (Int32.ofInt 1 <<< (node &&& 31)) (Int32.ofInt 0) = Int32.ofInt 0 from rfl, show cond false (Int32.ofInt 0) (Int32.ofInt 1 <<< (node &&& 31)) = Int32.ofInt 1 <<< (node &&& 31) from rfl, i_or0]
    obtain ⟨o1, o2⟩ := c_orN b1 sh b2 (by omega)
    by_cases z : 0 ≤ n_bu g but k ∧ n_bu g but k ≠ 0
    · rw [show c_TW f n (n_bu g but) k (c_01 false) = 0 from if_pos z]
      exact y_ws_0 (j := k) a1 o1 n10 ((a4 k).mpr ⟨kn, by omega⟩) (ob.mpr (Or.inr rfl))
    · rw [show c_TW f n (n_bu g but) k (c_01 false) = c_T f n (c_up (n_bu g but) k 0) from if_neg z]
      refine y_ws_T a1 o1 n10 (fun j => ?_) (fun j => ?_) hf
      · rw [a4 j]
        by_cases e : j = k
        · rw [e, c_upk]
          exact ⟨fun q => absurd ⟨by omega, by omega⟩ z, fun q => absurd q.2 (by decide)⟩
        · rw [c_upo e]
      · rw [ob, b4 j]
        by_cases e : j = k
        · rw [e, c_upk]
          exact ⟨fun _ => ⟨kn, rfl⟩, fun _ => Or.inr rfl⟩
        · rw [c_upo e]
          exact ⟨fun q => q.resolve_right (fun w => e w.symm), fun q => Or.inl q⟩
theorem n_bu_n {g : Nat → Int} {j : Nat} : n_bu g (Int32.ofInt (-1)) j = g j := by
  unfold n_bu
  exact if_neg (by rw [show (Int32.ofInt (-1)).toInt = -1 by decide]; omega)
section NRS
variable {X : aX} {C S d : Nat} {K0 : Option Value → aH → Nat → Nat → Prop} {h : aH} {v : Nat → Int32}
/-- the reference's weights, by what is held -/
theorem f_up (hr : w_hr z_D h) (hJ : y_J h) (hm : n_mV h v) (hK : ∀ (wl : List Int64) (H : aH), y_fr h H [] [163] → y_J H → y_wl H wl → (∀ i, i < 2 ^ (v 128).toInt.toNat → (wl.getD i 0).toInt = n_W v i) → K0 none H C S) : aOK s_P X (d + 2) a_m188 0 [some (.ref 155), none] [] h C S K0 := by
  obtain ⟨q1, q2, q3, q4, q5, q6, q7⟩ := id hJ
  obtain ⟨nd, le, de, ta, n1, n2, n3, n4, c1, c2, c3, c4, c5⟩ := id q1
  obtain ⟨nd', wl, w1, w2, w3, w4, w5⟩ := q4
  obtain rfl := y_fi n1 w1
  have g0 : w_f h 19591 = some (.int (v 128)) := hm.1 (128, 19591) (by decide)
  have e0 : nd = v 128 := y_fi n1 g0
  have e1 : le = n_ls v 701000 10 := y_ai n2 hm.2.1.2.2.1
  have e2 : de = n_ls v 702000 10 := y_ai n3 hm.2.1.2.2.2.1
  have e3 : ta = n_ls v 700000 80 := y_ai n4 hm.2.1.2.2.2.2.1
  obtain ⟨fo, o1, o2, o3⟩ := id hm.2.1.2.2.2.2.2.2.1
  obtain ⟨b1, b2⟩ := y_ndb hr n1
  have net : y_net h nd le de ta fo := ⟨n1, n2, n3, n4, o1, c1, c2, c3, c4⟩
  refine y_weighsUp hr net w2 w5 (fun wl' H e hw' hok => ?_)
  have net2 : y_net H nd le de ta fo := y_net_fr2 e rfl rfl net
  have hwl := y_wok_wl net2 e.1 b1 b2 hw' hok
  refine hK wl' H e ⟨j_net_e (y_fe e rfl) (y_ae e rfl) (y_ae e rfl) (y_ae e rfl) q1, j_dp_e (y_fe e rfl) (y_fe e rfl) (y_ae e rfl) q2, j_old_e (y_ae e rfl) (y_ae e rfl) (y_ae e rfl) (y_ae e rfl) (y_ae e rfl) (y_ae e rfl) q3, ⟨nd, wl', (y_fe e rfl).trans n1, hw', hwl.2.1, hwl.2.2, hok.2⟩, j_seen_e (y_fe e rfl) (y_fe e rfl) (y_ae e rfl) (y_ae e rfl) q5, j_kept_e (y_fe e rfl) (y_ae e rfl) (y_ae e rfl) (y_ae e rfl) (y_ae e rfl) q6, j_land_e (y_fe e rfl) (y_ae e rfl) q7⟩ hwl (fun i hi => ?_)
  have hi' : i < y_ways nd := by rw [e0]; exact hi
  have b3 : (v 128).toInt ≤ 10 := by rw [← e0]; exact b2
  rw [hok.1 i hi', e0, e1, e2, e3]
  unfold n_W
  exact y_W_fo (fun u hu => by
    unfold y_N
    rw [n_ls_at (by omega), o3 u (by omega)])
/-- what the reference has seen, by what is held -/
theorem f_sn (hr : w_hr z_D h) (hJ : y_J h) (hm : n_mV h v) : ∃ sa : List Int32, w_a h 160 = some (0, .inl sa) ∧ (∀ j, j < (v 128).toInt.toNat → y_N sa j = n_sg v j) ∧ (∀ j, j < (v 128).toInt.toNat → -1 ≤ n_sg v j ∧ n_sg v j ≤ 1) ∧ (v 128).toInt = (v 128).toInt.toNat ∧ (v 128).toInt.toNat ≤ 10 := by
  have g0 : w_f h 19591 = some (.int (v 128)) := hm.1 (128, 19591) (by decide)
  have b0 := n_bd (lo := 0) (hi := 10) hr g0 rfl
  obtain ⟨sa, u1, u2, u3⟩ := id hm.2.1.2.2.2.2.2.2.2.2.1
  obtain ⟨l, l1, l2, l3⟩ := c_arr hr (ob := 160) (n := 10) rfl
  have el : l = sa := y_ai l1 u1
  have sj : ∀ j, j < (v 128).toInt.toNat → y_N sa j = n_sg v j := fun j hj => congrArg Int32.toInt (u3 j (by omega) (by omega))
  refine ⟨sa, u1, sj, fun j hj => ?_, by omega, by omega⟩
  rw [← sj j hj]
  rw [el] at l2 l3
  exact l3 _ (z_gd (0 : Int32) (by omega))
end NRS
end PT33hf
section PT33hg
/-! ===== v11: chance (laid by wip/tools/mk11c.py) ===== -/
abbrev n_hasV (a nd : Int32) : Prop := 0 ≤ a.toInt ∧ a.toInt < nd.toInt
abbrev n_m2 : Int32 := (Int8.ofInt (-2)).toInt32
noncomputable def n_s33 (us : List Int32) (v : Nat → Int32) : (Nat → Int32) × Int32 := match us with
  | [a] => if n_hasV a (v 128) then (n_up v 143 (Int32.ofInt 1), if n_now v = 0 then n_m2 else Int32.ofInt 0) else (v, Int32.ofInt (-1))
  | _ => (v, 0)
section NCH
variable {X : aX} {C S d : Nat} {K0 : Option Value → aH → Nat → Nat → Prop} {h : aH} {v : Nat → Int32}
theorem c_putChance {G : aH} (hr : w_hr z_D h) (hc : n_cV h v) (q : n_Qs v h G) {a : Int32} {k : Nat} (hk : a.toInt = k) (kn : k < (v 128).toInt.toNat) (yes : n_now v ≠ 0 → ∀ H, n_Qs v h H → K0 (some (.int (Int32.ofInt 1))) H C S) (no : n_now v = 0 → ∀ H, n_Qs v h H → K0 (some (.int (Int32.ofInt 0))) H C S) : aOK s_P X (d + 4) a_m34 0 [some (.ref 3), some (.int a), some (.ref 153), none] [] G C S K0 := by
  have T24 : ∀ {G : aH} {w : Int32}, n_now v ≠ 0 → n_Qs v h G → aOK s_P X (d + 4) a_m34 24 [some (.ref 3), some (.int a), some (.ref 153), some (.int w)] [] G C S K0 := by
    intro G w nz q
    refine w_go z_hl [] [] 20 q.1 ?_
    exact ⟨by decide, fun H hH => yes nz H (n_Qs_y q (y_st (y_rf q.1) hH (by repeat (first | exact w_nil | refine w_cons (Or.inl (y_m rfl)) ?_ | refine w_cons (Or.inr (by assumption)) ?_)) (by repeat (first | exact w_nil | refine w_cons (Or.inl (y_m rfl)) ?_ | refine w_cons (Or.inr (by assumption)) ?_))))⟩
  have T18 : ∀ {G : aH} {w r : Int32}, n_now v ≠ 0 → n_Qs v h G → aOK s_P X (d + 4) a_m34 18 [some (.ref 3), some (.int a), some (.ref 153), some (.int w)] [.int r, .ref 153] G C S K0 := by
    intro G w r nz q
    refine w_go z_hl [] [39] 30 q.1 ?_
    intro H hH
    refine c_put1 (d := d + 2) (n_Qs_y q (y_st (y_rf q.1) hH (by repeat (first | exact w_nil | refine w_cons (Or.inl (y_m rfl)) ?_ | refine w_cons (Or.inr (by assumption)) ?_)) (by repeat (first | exact w_nil | refine w_cons (Or.inl (y_m rfl)) ?_ | refine w_cons (Or.inr (by assumption)) ?_)))) (fun H3 q3 => ⟨fun n e => (by cases e), ?_⟩)
    exact T24 nz q3
  have T11 : ∀ {G : aH} {w : Int32}, n_now v ≠ 0 → n_Qs v h G → aOK s_P X (d + 4) a_m34 11 [some (.ref 3), some (.int a), some (.ref 153), some (.int w)] [] G C S K0 := by
    intro G w nz q
    refine w_go z_hl [] [37] 30 q.1 ?_
    intro H hH
    refine c_weighNowWith (d := d) (s := true) hr hc (n_Qs_y q (y_st (y_rf q.1) hH (by repeat (first | exact w_nil | refine w_cons (Or.inl (y_m rfl)) ?_ | refine w_cons (Or.inr (by assumption)) ?_)) (by repeat (first | exact w_nil | refine w_cons (Or.inl (y_m rfl)) ?_ | refine w_cons (Or.inr (by assumption)) ?_)))) hk kn (fun H3 r q3 _ => ⟨fun n e => (by cases e), ?_⟩)
    exact T18 nz q3
  have T4 : ∀ {G : aH} {w : Int32}, w.toInt = n_now v → n_Qs v h G → aOK s_P X (d + 4) a_m34 4 [some (.ref 3), some (.int a), some (.ref 153), none] [.int w] G C S K0 := by
    intro G w hw q
    refine w_go z_hl [11] [] 30 q.1 ?_
    refine ⟨fun z => fun H hH => ?_, fun z => ⟨by decide, fun H hH => ?_⟩⟩
    · have z1 : w.toInt ≠ (0 : Int32).toInt := (y_ci .ne _ _).mp z
      have z2 : w.toInt ≠ 0 := z1
      exact T11 (by omega) (n_Qs_y q (y_st (y_rf q.1) hH (by repeat (first | exact w_nil | refine w_cons (Or.inl (y_m rfl)) ?_ | refine w_cons (Or.inr (by assumption)) ?_)) (by repeat (first | exact w_nil | refine w_cons (Or.inl (y_m rfl)) ?_ | refine w_cons (Or.inr (by assumption)) ?_))))
    · have z1 : ¬ (w.toInt ≠ (0 : Int32).toInt) := y_cif z
      have z2 : w.toInt = 0 := Decidable.not_not.mp z1
      exact no (by omega) H (n_Qs_y q (y_st (y_rf q.1) hH (by repeat (first | exact w_nil | refine w_cons (Or.inl (y_m rfl)) ?_ | refine w_cons (Or.inr (by assumption)) ?_)) (by repeat (first | exact w_nil | refine w_cons (Or.inl (y_m rfl)) ?_ | refine w_cons (Or.inr (by assumption)) ?_))))
  refine w_go z_hl [] [35] 30 q.1 ?_
  intro H hH
  refine c_wNow (d := d + 1) hr hc (n_Qs_y q (y_st (y_rf q.1) hH (by repeat (first | exact w_nil | refine w_cons (Or.inl (y_m rfl)) ?_ | refine w_cons (Or.inr (by assumption)) ?_)) (by repeat (first | exact w_nil | refine w_cons (Or.inl (y_m rfl)) ?_ | refine w_cons (Or.inr (by assumption)) ?_)))) (fun H3 r q3 hr3 => ⟨fun n e => (by cases e), ?_⟩)
  exact T4 hr3 q3
theorem c_chance (hr : w_hr z_D h) (hJ : y_JA h) (hc : n_cV h v) (hW : n_Wv v h) {a : Int32} (yes : n_hasV a (v 128) → ∀ H, n_Qs v h H → K0 (some (.int (if n_now v = 0 then n_m2 else Int32.ofInt 0))) H C S) (no : ¬ n_hasV a (v 128) → ∀ H, y_fr h H [] [] → K0 (some (.int (Int32.ofInt (-1)))) H C S) : aOK s_P X (d + 5) a_m33 0 [some (.ref 2), some (.int a)] [] h C S K0 := by
  have g0 := hc.1 128 (by decide)
  have T49 : ∀ {G : aH}, n_hasV a (v 128) → n_now v ≠ 0 → n_Qs v h G → aOK s_P X (d + 5) a_m33 49 [some (.ref 2), some (.int a)] [] G C S K0 := by
    intro G hv nz q
    refine w_go z_hl [] [] 20 q.1 ?_
    intro H hH
    have := yes hv H (n_Qs_y q (y_st (y_rf q.1) hH (by repeat (first | exact w_nil | refine w_cons (Or.inl (y_m rfl)) ?_ | refine w_cons (Or.inr (by assumption)) ?_)) (by repeat (first | exact w_nil | refine w_cons (Or.inl (y_m rfl)) ?_ | refine w_cons (Or.inr (by assumption)) ?_))))
    rw [if_neg nz] at this
    exact this
  have T32 : ∀ {G : aH}, n_hasV a (v 128) → n_now v ≠ 0 → n_Qs v h G → aOK s_P X (d + 5) a_m33 32 [some (.ref 2), some (.int a)] [.int (Int32.ofInt 1)] G C S K0 := by
    intro G hv nz q
    refine w_go z_hl [] [42] 30 q.1 ?_
    refine ⟨fun _ => fun H hH => ?_, fun z => absurd z (by decide)⟩
    refine c_tell1 (d := d + 2) (n_Qs_y q (y_st (y_rf q.1) hH (by repeat (first | exact w_nil | refine w_cons (Or.inl (y_m rfl)) ?_ | refine w_cons (Or.inr (by assumption)) ?_)) (by repeat (first | exact w_nil | refine w_cons (Or.inl (y_m rfl)) ?_ | refine w_cons (Or.inr (by assumption)) ?_)))) (fun H3 q3 => ⟨fun n e => (by cases e), ?_⟩)
    exact T49 hv nz q3
  have T32n : ∀ {G : aH}, n_hasV a (v 128) → n_now v = 0 → n_Qs v h G → aOK s_P X (d + 5) a_m33 32 [some (.ref 2), some (.int a)] [.int (Int32.ofInt 0)] G C S K0 := by
    intro G hv nz q
    refine w_go z_hl [] [42] 30 q.1 ?_
    refine ⟨fun z => absurd z (by decide), fun _ => fun H hH => ?_⟩
    have := yes hv H (n_Qs_y q (y_st (y_rf q.1) hH (by repeat (first | exact w_nil | refine w_cons (Or.inl (y_m rfl)) ?_ | refine w_cons (Or.inr (by assumption)) ?_)) (by repeat (first | exact w_nil | refine w_cons (Or.inl (y_m rfl)) ?_ | refine w_cons (Or.inr (by assumption)) ?_))))
    rw [if_pos nz] at this
    exact this
  have T20 : ∀ {G : aH}, n_hasV a (v 128) → n_Qs v h G → aOK s_P X (d + 5) a_m33 20 [some (.ref 2), some (.int a)] [] G C S K0 := by
    intro G hv q
    obtain ⟨v1, v2⟩ := id hv
    refine w_go z_hl [] [34] 30 q.1 ?_
    intro H hH
    refine c_putChance (d := d) (k := a.toInt.toNat) hr hc (n_Qs_y q (y_st (y_rf q.1) hH (by repeat (first | exact w_nil | refine w_cons (Or.inl (y_m rfl)) ?_ | refine w_cons (Or.inr (by assumption)) ?_)) (by repeat (first | exact w_nil | refine w_cons (Or.inl (y_m rfl)) ?_ | refine w_cons (Or.inr (by assumption)) ?_)))) (by omega) (by omega) (fun nz H3 q3 => ⟨fun n e => (by cases e), ?_⟩) (fun nz H3 q3 => ⟨fun n e => (by cases e), ?_⟩)
    · exact T32 hv nz q3
    · exact T32n hv nz q3
  have T8 : ∀ {G : aH}, n_hasV a (v 128) → y_fr h G [] [] → aOK s_P X (d + 5) a_m33 8 [some (.ref 2), some (.int a)] [.int (y_01 true)] G C S K0 := by
    intro G hv e
    refine w_go z_hl [] [29] 30 e.1 ?_
    refine ⟨fun _ => fun H hH => ?_, fun z => absurd z (by decide)⟩
    have e2 : y_fr h H [] [] := y_st e hH (by repeat (first | exact w_nil | refine w_cons (Or.inl (y_m rfl)) ?_ | refine w_cons (Or.inr (by assumption)) ?_)) (by repeat (first | exact w_nil | refine w_cons (Or.inl (y_m rfl)) ?_ | refine w_cons (Or.inr (by assumption)) ?_))
    refine c_refreshQ (d := d + 2) (v := v) e2.1 (y_jfr y_JA_x e2 rfl rfl hJ) (n_Wv_p h H (fun k _ => e2.2.1 k List.not_mem_nil) (fun o _ => e2.2.2 o List.not_mem_nil) hW) (fun H3 q3 => ⟨fun n e => (by cases e), ?_⟩)
    exact T20 hv (n_Qs_l hr e2 q3)
  have T8n : ∀ {G : aH}, ¬ n_hasV a (v 128) → y_fr h G [] [] → aOK s_P X (d + 5) a_m33 8 [some (.ref 2), some (.int a)] [.int (y_01 false)] G C S K0 := by
    intro G hv e
    refine w_go z_hl [] [29] 30 e.1 ?_
    exact ⟨fun z => absurd z (by decide), fun _ => fun H hH => no hv H (y_st e hH (by repeat (first | exact w_nil | refine w_cons (Or.inl (y_m rfl)) ?_ | refine w_cons (Or.inr (by assumption)) ?_)) (by repeat (first | exact w_nil | refine w_cons (Or.inl (y_m rfl)) ?_ | refine w_cons (Or.inr (by assumption)) ?_)))⟩
  refine w_go z_hl [] [19] 30 hr ?_
  intro H hH
  have e : y_fr h H [] [] := y_st (y_rf hr) hH (by repeat (first | exact w_nil | refine w_cons (Or.inl (y_m rfl)) ?_ | refine w_cons (Or.inr (by assumption)) ?_)) (by repeat (first | exact w_nil | refine w_cons (Or.inl (y_m rfl)) ?_ | refine w_cons (Or.inr (by assumption)) ?_))
  refine c_hasN (v := a) e.1 ((y_fe e rfl).trans g0) (fun v1 v2 H2 h2 => ⟨fun n e => (by cases e), ?_⟩) (fun nv H2 h2 => ⟨fun n e => (by cases e), ?_⟩)
  · exact T8 ⟨v1, v2⟩ (y_sq e h2 rfl rfl)
  · exact T8n nv (y_sq e h2 rfl rfl)
theorem f_chance_tail {h : aH} {nd node : Int32} {sa : List Int32} {wl : List Int64} (hr : w_hr z_D h) (g1 : w_f h 19591 = some (.int nd)) (g2 : w_a h 160 = some (0, .inl sa)) (hw : y_wl h wl) (hk : ∀ (r : Int32) (H : aH), y_fr h H [19585, 19587, 19588] [154] → r = (if y_nw sa nd wl (Int32.ofInt (-1)) true (Int32.ofInt (-1)) = 0 then n_m2 else Int32.ofInt 0) → K0 (some (.int r)) H C S) : aOK s_P X (d + 4) a_m187 19 [some (.ref 155), some (.int node)] [] h C S K0 := by
  obtain ⟨b1, b2⟩ := y_ndb hr g1
  have T55 : ∀ {G : aH}, y_fr h G [19585, 19587, 19588] [154] → y_nw sa nd wl (Int32.ofInt (-1)) true (Int32.ofInt (-1)) ≠ 0 → aOK s_P X (d + 4) a_m187 55 [some (.ref 155), some (.int node)] [] G C S K0 := by
    intro G e hne
    refine w_go z_hl [] [] 30 e.1 ?_
    intro H hH
    exact hk _ H (y_st e hH (by repeat (first | exact w_nil | refine w_cons (Or.inl (y_m rfl)) ?_ | refine w_cons (Or.inr (by assumption)) ?_)) (by repeat (first | exact w_nil | refine w_cons (Or.inl (y_m rfl)) ?_ | refine w_cons (Or.inr (by assumption)) ?_))) (if_neg hne).symm
  have T46 : ∀ {G : aH}, y_fr h G [19585, 19587, 19588] [154] → y_nw sa nd wl (Int32.ofInt (-1)) true (Int32.ofInt (-1)) ≠ 0 → aOK s_P X (d + 4) a_m187 46 [some (.ref 155), some (.int node)] [] G C S K0 := by
    intro G e hne
    refine w_go z_hl [] [196] 30 e.1 ?_
    refine ⟨rfl, y_zini (by decide) (by decide), fun H hH => ?_⟩
    have e2 := y_st e hH (by repeat (first | exact w_nil | refine w_cons (Or.inl (y_m rfl)) ?_ | refine w_cons (Or.inr (by assumption)) ?_)) (by repeat (first | exact w_nil | refine w_cons (Or.inl (y_m rfl)) ?_ | refine w_cons (Or.inr (by assumption)) ?_))
    refine y_tells e2.1 (hH.2.1 19585 _ rfl) (by decide) (by decide) (fun H2 r2 e3 _ _ => ⟨fun n e => (by cases e), ?_⟩)
    exact T55 (y_sq e2 e3 rfl rfl) hne
  have T43 : ∀ {G : aH} {a b : Int64}, y_fr h G [] [] → 0 ≤ a.toInt → 1 ≤ b.toInt → y_nw sa nd wl (Int32.ofInt (-1)) true (Int32.ofInt (-1)) ≠ 0 → aOK s_P X (d + 4) a_m187 43 [some (.ref 155), some (.int node)] [.long b, .long a, .ref 155] G C S K0 := by
    intro G a b e ha hb hne
    refine w_go z_hl [] [194] 30 e.1 ?_
    intro H hH
    have e2 := y_st e hH (by repeat (first | exact w_nil | refine w_cons (Or.inl (y_m rfl)) ?_ | refine w_cons (Or.inr (by assumption)) ?_)) (by repeat (first | exact w_nil | refine w_cons (Or.inl (y_m rfl)) ?_ | refine w_cons (Or.inr (by assumption)) ?_))
    refine q_lowest e2.1 (by omega) hb (fun u l H2 e3 _ _ _ _ _ _ _ => ⟨fun n e => (by cases e), ?_⟩)
    exact T46 (y_sq (y_mo e2 rfl rfl) e3 rfl rfl) hne
  have T39 : ∀ {G : aH} {a : Int64}, y_fr h G [] [] → 0 ≤ a.toInt → y_nw sa nd wl (Int32.ofInt (-1)) true (Int32.ofInt (-1)) ≠ 0 → aOK s_P X (d + 4) a_m187 39 [some (.ref 155), some (.int node)] [.long a, .ref 155] G C S K0 := by
    intro G a e ha hne
    refine w_go z_hl [] [189] 30 e.1 ?_
    intro H hH
    have e2 := y_st e hH (by repeat (first | exact w_nil | refine w_cons (Or.inl (y_m rfl)) ?_ | refine w_cons (Or.inr (by assumption)) ?_)) (by repeat (first | exact w_nil | refine w_cons (Or.inl (y_m rfl)) ?_ | refine w_cons (Or.inr (by assumption)) ?_))
    refine y_now e2.1 ((y_fe e2 rfl).trans g1) ((y_ae e2 rfl).trans g2) (y_wl_fr e2 (fun q => by cases q) hw) (fun r H2 e3 hr3 => ⟨fun n e => (by cases e), ?_⟩)
    have := y_nw_b (sa := sa) (node := Int32.ofInt (-1)) (so := true) (but := Int32.ofInt (-1)) hw b1 b2
    exact T43 (y_sq e2 e3 rfl rfl) ha (by omega) hne
  have T31 : ∀ {G : aH}, y_fr h G [] [] → y_nw sa nd wl (Int32.ofInt (-1)) true (Int32.ofInt (-1)) ≠ 0 → aOK s_P X (d + 4) a_m187 31 [some (.ref 155), some (.int node)] [] G C S K0 := by
    intro G e hne
    refine w_go z_hl [] [190] 30 e.1 ?_
    intro H hH
    have e2 := y_st e hH (by repeat (first | exact w_nil | refine w_cons (Or.inl (y_m rfl)) ?_ | refine w_cons (Or.inr (by assumption)) ?_)) (by repeat (first | exact w_nil | refine w_cons (Or.inl (y_m rfl)) ?_ | refine w_cons (Or.inr (by assumption)) ?_))
    refine y_nowWith (b := true) e2.1 ((y_fe e2 rfl).trans g1) ((y_ae e2 rfl).trans g2) (y_wl_fr e2 (fun q => by cases q) hw) (fun r H2 e3 hr3 => ⟨fun n e => (by cases e), ?_⟩)
    have := y_nw_b (sa := sa) (node := node) (so := true) (but := Int32.ofInt (-1)) hw b1 b2
    exact T39 (y_sq e2 e3 rfl rfl) (by omega) hne
  have T23 : ∀ {G : aH} {r : Int64}, y_fr h G [] [] → r.toInt = y_nw sa nd wl (Int32.ofInt (-1)) true (Int32.ofInt (-1)) → aOK s_P X (d + 4) a_m187 23 [some (.ref 155), some (.int node)] [.long r] G C S K0 := by
    intro G r e hr3
    refine w_go z_hl [31] [] 30 e.1 ?_
    refine ⟨fun q => ?_, fun q => ?_⟩
    · have q2 : r.toInt ≠ (Int64.ofNat 0).toInt := (y_cl .ne _ _).mp q
      intro H hH
      exact T31 (y_st e hH (by repeat (first | exact w_nil | refine w_cons (Or.inl (y_m rfl)) ?_ | refine w_cons (Or.inr (by assumption)) ?_)) (by repeat (first | exact w_nil | refine w_cons (Or.inl (y_m rfl)) ?_ | refine w_cons (Or.inr (by assumption)) ?_))) (fun e0 => q2 (by rw [hr3, e0]; decide))
    · have q2 : ¬ (r.toInt ≠ (Int64.ofNat 0).toInt) := y_clf q
      have q3 : r.toInt = 0 := Decidable.not_not.mp q2
      intro H hH
      exact hk _ H (y_st (y_mo e rfl rfl) hH (by repeat (first | exact w_nil | refine w_cons (Or.inl (y_m rfl)) ?_ | refine w_cons (Or.inr (by assumption)) ?_)) (by repeat (first | exact w_nil | refine w_cons (Or.inl (y_m rfl)) ?_ | refine w_cons (Or.inr (by assumption)) ?_))) (if_pos (by omega)).symm
  refine w_go z_hl [] [189] 30 hr ?_
  intro H hH
  have e2 : y_fr h H [] [] := y_st (y_rf hr) hH (by repeat (first | exact w_nil | refine w_cons (Or.inl (y_m rfl)) ?_ | refine w_cons (Or.inr (by assumption)) ?_)) (by repeat (first | exact w_nil | refine w_cons (Or.inl (y_m rfl)) ?_ | refine w_cons (Or.inr (by assumption)) ?_))
  refine y_now e2.1 ((y_fe e2 rfl).trans g1) ((y_ae e2 rfl).trans g2) (y_wl_fr e2 (fun q => by cases q) hw) (fun r H2 e3 hr3 => ⟨fun n e => (by cases e), ?_⟩)
  exact T23 (y_sq e2 e3 rfl rfl) hr3
theorem f_chance (hr : w_hr z_D h) (hJ : y_J h) (hm : n_mV h v) {node : Int32} (yes : n_hasV node (v 128) → ∀ (H : aH), y_fr h H [19584, 19585, 19587, 19588] [154, 163] → y_J H → K0 (some (.int (if n_now v = 0 then n_m2 else Int32.ofInt 0))) H C S) (no : ¬ n_hasV node (v 128) → ∀ (H : aH), y_fr h H [19584] [] → K0 (some (.int (Int32.ofInt (-1)))) H C S) : aOK s_P X (d + 4) a_m187 0 [some (.ref 155), some (.int node)] [] h C S K0 := by
  have g0 : w_f h 19591 = some (.int (v 128)) := hm.1 (128, 19591) (by decide)
  obtain ⟨sa, s4, s5, s6, n1, n10⟩ := f_sn hr hJ hm
  have T10 : ∀ {G : aH}, n_hasV node (v 128) → y_fr h G [19584] [] → aOK s_P X (d + 4) a_m187 10 [some (.ref 155), some (.int node)] [.int (y_01 true)] G C S K0 := by
    intro G hv e
    refine w_go z_hl [] [188] 30 e.1 ?_
    refine ⟨fun _ => ?_, fun z => absurd z (by decide)⟩
    intro H hH
    have e2 := y_st e hH (by repeat (first | exact w_nil | refine w_cons (Or.inl (y_m rfl)) ?_ | refine w_cons (Or.inr (by assumption)) ?_)) (by repeat (first | exact w_nil | refine w_cons (Or.inl (y_m rfl)) ?_ | refine w_cons (Or.inr (by assumption)) ?_))
    have J2 := y_J_fr e2 rfl rfl hJ
    refine f_up e2.1 J2 (n_mS_V (n_fk_m e2 rfl) hm) (fun wl H2 e3 J3 hw hf => ⟨fun n e => (by cases e), ?_⟩)
    have e4 : y_fr h H2 [19584] [163] := y_sq (y_mo e2 rfl rfl) e3 rfl rfl
    refine f_chance_tail e4.1 ((y_fe e4 rfl).trans g0) ((y_ae e4 rfl).trans s4) hw (fun r H5 e5 er => ?_)
    have en : y_nw sa (v 128) wl (Int32.ofInt (-1)) true (Int32.ofInt (-1)) = n_now v := by
      rw [y_nw_T n1 n10 s5 hf]
      exact c_T_c (fun _ _ => rfl) (fun j _ => n_bu_n)
    rw [er, en]
    exact yes hv H5 (y_sq (y_mo e4 rfl rfl) e5 rfl rfl) (y_J_fr e5 rfl rfl J3)
  have T10n : ∀ {G : aH}, ¬ n_hasV node (v 128) → y_fr h G [19584] [] → aOK s_P X (d + 4) a_m187 10 [some (.ref 155), some (.int node)] [.int (y_01 false)] G C S K0 := by
    intro G hv e
    refine w_go z_hl [] [188] 30 e.1 ?_
    exact ⟨fun z => absurd z (by decide), fun _ => fun H hH => no hv H (y_st e hH (by repeat (first | exact w_nil | refine w_cons (Or.inl (y_m rfl)) ?_ | refine w_cons (Or.inr (by assumption)) ?_)) (by repeat (first | exact w_nil | refine w_cons (Or.inl (y_m rfl)) ?_ | refine w_cons (Or.inr (by assumption)) ?_)))⟩
  refine w_go z_hl [] [178] 30 hr ?_
  refine ⟨rfl, y_zini (by decide) (by decide), fun H1 h1 => ?_⟩
  have e1 : y_fr h H1 [19584] [] := y_st (y_mo (y_rf hr) rfl rfl) h1 (by repeat (first | exact w_nil | refine w_cons (Or.inl (y_m rfl)) ?_ | refine w_cons (Or.inr (by assumption)) ?_)) (by repeat (first | exact w_nil | refine w_cons (Or.inl (y_m rfl)) ?_ | refine w_cons (Or.inr (by assumption)) ?_))
  refine q_isNode2 (v := node) e1.1 ((y_fe e1 rfl).trans g0) (fun H2 vv h2 hv hv2 hvc => ⟨fun n e => (by cases e), ?_⟩) (fun H2 h2 nn => ⟨fun n e => (by cases e), ?_⟩)
  · exact T10 ⟨by omega, by omega⟩ (y_sq e1 h2 rfl rfl)
  · exact T10n nn (y_sq e1 h2 rfl rfl)
end NCH
theorem n_c33 {X : aX} : n_pc X a_m33 1 false n_s33 := by
  intro us h v C S K0 hl _ hI hc hm hk
  match us, hl with
  | [a], _ =>
    refine c_chance (d := 195) hI.1 hI.2.1 hc (n_toW hI.1 hI.2.1.1 hc hm) (fun q H e => ?_) (fun q H e => ?_)
    · rw [show n_s33 [a] v = (n_up v 143 (Int32.ofInt 1), if n_now v = 0 then n_m2 else Int32.ofInt 0) from if_pos q] at hk
      dsimp only at hk
      obtain ⟨r1, r2, r3⟩ := n_Qs_pc hI hc hm e
      exact hk H r1 r2 r3
    · rw [show n_s33 [a] v = (v, Int32.ofInt (-1)) from if_neg q] at hk
      dsimp only at hk
      exact hk H ⟨e.1, y_jfr y_JA_x e rfl rfl hI.2.1, t_day_frc e rfl hI.2.2⟩ (n_cS_V (n_fk_c (ex := []) e rfl) hc) (n_mS_V (n_fm_ok e rfl) hm)
theorem n_r187 {X : aX} : n_pr X a_m187 1 false n_s33 := by
  intro us h w v C S K0 hl _ hI hc hm hk
  match us, hl with
  | [a], _ =>
    refine f_chance (d := 196) hI.1 hI.2.1.1 hm (fun q H e qJ => ?_) (fun q H e => ?_)
    · rw [show n_s33 [a] v = (n_up v 143 (Int32.ofInt 1), if n_now v = 0 then n_m2 else Int32.ofInt 0) from if_pos q] at hk
      dsimp only at hk
      exact hk H ⟨e.1, ⟨qJ, j_say_e e rfl rfl hI.2.1.2.1, j_cost_e e rfl rfl hI.2.1.2.2⟩, t_day_fr e rfl hI.2.2⟩ (n_cS_V (n_fk_c (ex := []) e rfl) hc) (n_mV_3 (n_mS_V (n_fk_m e rfl) hm))
    · rw [show n_s33 [a] v = (v, Int32.ofInt (-1)) from if_neg q] at hk
      dsimp only at hk
      exact hk H ⟨e.1, ⟨y_J_fr e rfl rfl hI.2.1.1, j_say_e e rfl rfl hI.2.1.2.1, j_cost_e e rfl rfl hI.2.1.2.2⟩, t_day_fr e rfl hI.2.2⟩ (n_cS_V (n_fk_c (ex := []) e rfl) hc) (n_mS_V (n_fk_m e rfl) hm)
end PT33hg
section PT33hh
/-! ===== v11: what calls ask of both (laid by wip/tools/mk11d.py) ===== -/
section NAS
variable {X : aX} {C S d : Nat} {K0 : Option Value → aH → Nat → Nat → Prop} {h G : aH} {v : Nat → Int32}
abbrev n_isV (v : Nat → Int32) (a : Int32) : Prop := n_hasV a (v 128) ∧ 0 ≤ n_sg v a.toInt.toNat
theorem c_isSn (hr : w_hr z_D h) (hc : n_cV h v) (e : y_fr h G [] []) {a : Int32} (yes : n_isV v a → ∀ H, y_fr h H [] [] → K0 (some (.int (y_01 true))) H C S) (no : ¬ n_isV v a → ∀ H, y_fr h H [] [] → K0 (some (.int (y_01 false))) H C S) : aOK s_P X (d + 1) a_m50 0 [some (.ref 3), some (.int a)] [] G C S K0 := by
  have g0 := hc.1 128 (by decide)
  have b0 := n_bd (lo := 0) (hi := 10) hr g0 rfl
  have g1 := hc.1 138 (by decide)
  obtain ⟨⟨p1, p2⟩, -, p3⟩ := id hc.2.2.2.2.2.2.2.2.2.2.2.2.1
  have pw : 2 ^ (v 128).toInt.toNat ≤ 2 ^ 10 := n_p2 (by omega)
  have T5 : ∀ {G : aH}, n_hasV a (v 128) → y_fr h G [] [] → aOK s_P X (d + 1) a_m50 5 [some (.ref 3), some (.int a)] [.int (y_01 true)] G C S K0 := by
    intro G hv e
    obtain ⟨v1, v2⟩ := id hv
    have m1 := c_b01 (bits := v 138) (k := a) (b := (v 138).toInt.toNat) (o := a.toInt.toNat) (by omega) (by omega) (by omega) (by omega)
    rw [(p3 a.toInt.toNat (by omega)).1] at m1
    refine w_go z_hl [] [] 40 e.1 ?_
    refine ⟨fun z => absurd z (by decide), fun _ => ?_⟩
    intro x hx _ _
    obtain rfl := y_fi ((y_fe e rfl).trans g1) hx
    refine ⟨fun z => ⟨by decide, fun H hH => ?_⟩, fun z => ⟨by decide, fun H hH => ?_⟩⟩
    · have z1 : ((v 138 >>> (a &&& 31)) &&& Int32.ofInt 1).toInt = (0 : Int32).toInt := (y_ci .eq _ _).mp z
      have z2 : ((v 138 >>> (a &&& 31)) &&& Int32.ofInt 1).toInt = 0 := z1
      refine no (fun w => ?_) H (y_st e hH (by repeat (first | exact w_nil | refine w_cons (Or.inl (y_m rfl)) ?_ | refine w_cons (Or.inr (by assumption)) ?_)) (by repeat (first | exact w_nil | refine w_cons (Or.inl (y_m rfl)) ?_ | refine w_cons (Or.inr (by assumption)) ?_)))
      rw [decide_eq_true (show 0 ≤ (v (705000 + a.toInt.toNat)).toInt from w.2), if_pos rfl] at m1
      omega
    · have z1 : ¬ (((v 138 >>> (a &&& 31)) &&& Int32.ofInt 1).toInt = (0 : Int32).toInt) := y_cif z
      refine yes ⟨hv, ?_⟩ H (y_st e hH (by repeat (first | exact w_nil | refine w_cons (Or.inl (y_m rfl)) ?_ | refine w_cons (Or.inr (by assumption)) ?_)) (by repeat (first | exact w_nil | refine w_cons (Or.inl (y_m rfl)) ?_ | refine w_cons (Or.inr (by assumption)) ?_)))
      by_cases w : 0 ≤ (v (705000 + a.toInt.toNat)).toInt
      · exact w
      · rw [decide_eq_false w, if_neg (by decide)] at m1
        exact absurd (show _ = (0 : Int32).toInt from m1) z1
  have T5n : ∀ {G : aH}, ¬ n_hasV a (v 128) → y_fr h G [] [] → aOK s_P X (d + 1) a_m50 5 [some (.ref 3), some (.int a)] [.int (y_01 false)] G C S K0 := by
    intro G hv e
    refine w_go z_hl [] [] 40 e.1 ?_
    exact ⟨fun _ => ⟨by decide, fun H hH => no (fun w => hv w.1) H (y_st e hH (by repeat (first | exact w_nil | refine w_cons (Or.inl (y_m rfl)) ?_ | refine w_cons (Or.inr (by assumption)) ?_)) (by repeat (first | exact w_nil | refine w_cons (Or.inl (y_m rfl)) ?_ | refine w_cons (Or.inr (by assumption)) ?_)))⟩, fun z => absurd z (by decide)⟩
  refine w_go z_hl [] [19] 30 e.1 ?_
  intro H hH
  have e1 : y_fr h H [] [] := y_st e hH (by repeat (first | exact w_nil | refine w_cons (Or.inl (y_m rfl)) ?_ | refine w_cons (Or.inr (by assumption)) ?_)) (by repeat (first | exact w_nil | refine w_cons (Or.inl (y_m rfl)) ?_ | refine w_cons (Or.inr (by assumption)) ?_))
  refine c_hasN (v := a) e1.1 ((y_fe e1 rfl).trans g0) (fun v1 v2 H2 h2 => ⟨fun n e => (by cases e), ?_⟩) (fun nv H2 h2 => ⟨fun n e => (by cases e), ?_⟩)
  · exact T5 ⟨v1, v2⟩ (y_sq e1 h2 rfl rfl)
  · exact T5n nv (y_sq e1 h2 rfl rfl)
/-- the second fraction -/
theorem c_put2 (q : n_Qs v h G) {a b : Int64} (hK : ∀ H, n_Qs v h H → K0 none H C S) : aOK s_P X (d + 1) a_m39 0 [some (.ref 154), some (.long a), none, some (.long b), none, none, none] [] G C S K0 := by
  have b1 := a.toInt_lt
  have b2 := a.le_toInt
  have b3 := b.toInt_lt
  have b4 := b.le_toInt
  exact n_boxv [.long a, .long b] (z_x24_s (y_jx_l y_JA_x)) rfl rfl rfl q.1 q.2.1 (n_Bl (by omega) (by omega) (n_Bl (by omega) (by omega) n_B0)) (fun q hq => by cases hq) (by decide) rfl (by decide +kernel) (fun H' r1 r2 r3 => hK H' (n_Qs_z q r1 r2 r3 (by decide) (by decide)))
theorem c_tellToo2 (q : n_Qs v h G) (hK : ∀ H, n_Qs v h H → K0 none H C S) : aOK s_P X (d + 1) a_m44 0 [some (.ref 12), some (.ref 154)] [] G C S K0 := n_boxv [] (z_x25_s (y_jx_l y_JA_x)) rfl rfl rfl q.1 q.2.1 n_B0 (fun q hq => by cases hq) (by decide) rfl (by decide +kernel) (fun H' r1 r2 r3 => hK H' (n_Qs_z q r1 r2 r3 (by decide) (by decide)))
/-- what the reference weighs by -/
def f_wc (h : aH) (v : Nat → Int32) (sa : List Int32) (wl : List Int64) : Prop := y_wc h (v 128) sa wl ∧ (∀ j, j < (v 128).toInt.toNat → y_N sa j = n_sg v j) ∧ (∀ j, j < (v 128).toInt.toNat → -1 ≤ n_sg v j ∧ n_sg v j ≤ 1) ∧ (∀ i, i < 2 ^ (v 128).toInt.toNat → (wl.getD i 0).toInt = n_W v i) ∧ (v 128).toInt = (v 128).toInt.toNat ∧ (v 128).toInt.toNat ≤ 10
theorem f_wc_fr {H : aH} {sa : List Int32} {wl : List Int64} {fs as : List Nat} (s : f_wc h v sa wl) (e : y_fr h H fs as) (h1 : fs.elem 19591 = false) (h2 : as.elem 160 = false) (h3 : as.elem 163 = false) : f_wc H v sa wl := ⟨y_wc_fr s.1 e h1 h2 h3, s.2⟩
variable {sa : List Int32} {wl : List Int64}
theorem f_wc_0 (s : f_wc h v sa wl) : ∀ i, i < 2 ^ (v 128).toInt.toNat → 0 ≤ n_W v i := fun i hi => by
  rw [← s.2.2.2.1 i hi]
  exact y_getD s.1.2.2.2.2.1 i
theorem r_now (s : f_wc h v sa wl) (hK : ∀ (r : Int64) (H : aH), y_fr h H [] [] → 0 ≤ r.toInt → r.toInt ≤ 100000000 → r.toInt = n_now v → K0 (some (.long r)) H C S) : aOK s_P X (d + 3) a_m189 0 [some (.ref 155)] [] h C S K0 := by
  obtain ⟨s1, s2, s3, s4, s5, s6⟩ := s
  refine y_now s1.1 s1.2.1 s1.2.2.1 s1.2.2.2 (fun r H e hr => ?_)
  have b := y_nw_b (sa := sa) (node := Int32.ofInt (-1)) (so := true) (but := Int32.ofInt (-1)) s1.2.2.2 (by omega) (by omega : (v 128).toInt ≤ 10)
  refine hK r H e (by omega) (by omega) ?_
  rw [hr, y_nw_T s5 s6 s2 s4]
  exact c_T_c (fun _ _ => rfl) (fun j _ => n_bu_n)
theorem c_TW_c {f g g' : Nat → Int} {n k : Nat} {x : Int} (kn : k < n) (hg : ∀ j, j < n → g j = g' j) : c_TW f n g k x = c_TW f n g' k x := by
  unfold c_TW
  rw [hg k kn]
  by_cases z : 0 ≤ g' k ∧ g' k ≠ x
  · rw [if_pos z, if_pos z]
  · rw [if_neg z, if_neg z]
    refine c_T_c (fun _ _ => rfl) (fun j hj => ?_)
    by_cases e : j = k
    · rw [e, c_upk, c_upk]
    · rw [c_upo e, c_upo e, hg j hj]
theorem r_nowWith (s : f_wc h v sa wl) {node : Int32} {k : Nat} {b : Bool} (hk : node.toInt = k) (kn : k < (v 128).toInt.toNat) (hK : ∀ (r : Int64) (H : aH), y_fr h H [] [] → 0 ≤ r.toInt → r.toInt ≤ 100000000 → r.toInt = n_nwW v k b → K0 (some (.long r)) H C S) : aOK s_P X (d + 2) a_m190 0 [some (.ref 155), some (.int node), some (.int (y_01 b)), some (.int (Int32.ofInt (-1))), none] [] h C S K0 := by
  obtain ⟨s1, s2, s3, s4, s5, s6⟩ := s
  refine y_nowWith s1.1 s1.2.1 s1.2.2.1 s1.2.2.2 (fun r H e hr => ?_)
  have bb := y_nw_b (sa := sa) (node := node) (so := b) (but := Int32.ofInt (-1)) s1.2.2.2 (by omega) (by omega : (v 128).toInt ≤ 10)
  refine hK r H e (by omega) (by omega) ?_
  rw [hr, y_nw_W s5 s6 hk kn s2 (s3 k kn).2 s4]
  exact c_TW_c kn (fun j _ => n_bu_n)
/-- the weights are worked: all that the reference weighs by -/
theorem r_up (hr : w_hr z_D h) (hJ : y_J h) (hm : n_mV h v) (hK : ∀ (sa : List Int32) (wl : List Int64) (H : aH), y_fr h H [] [163] → y_J H → f_wc H v sa wl → K0 none H C S) : aOK s_P X (d + 2) a_m188 0 [some (.ref 155), none] [] h C S K0 := by
  have g0 : w_f h 19591 = some (.int (v 128)) := hm.1 (128, 19591) (by decide)
  obtain ⟨sa, s4, s5, s6, n1, n10⟩ := f_sn hr hJ hm
  exact f_up hr hJ hm (fun wl H e J hw hf => hK sa wl H e J ⟨⟨e.1, (y_fe e rfl).trans g0, (y_ae e rfl).trans s4, hw⟩, s5, s6, hf, n1, n10⟩)
/-- now is one way and the other -/
theorem n_now_sp {k : Nat} (f0 : ∀ i, i < 2 ^ (v 128).toInt.toNat → 0 ≤ n_W v i) (kn : k < (v 128).toInt.toNat) (h0 : -1 ≤ n_sg v k) (h1 : n_sg v k ≤ 1) : n_now v = n_nwW v k true + n_nwW v k false ∧ 0 ≤ n_nwW v k true ∧ 0 ≤ n_nwW v k false := ⟨c_T_sp kn h0 h1, (c_TW_b f0).1, (c_TW_b f0).1⟩
end NAS
end PT33hh
section PT33hi
/-! ===== v11: likely (laid by wip/tools/mk11f.py) ===== -/
/-- the first of the greatest of those that P takes, of the first k; -1: none -/
def c_bst (f : Nat → Int) (P : Nat → Bool) : Nat → Int
  | 0 => -1
  | k + 1 => if P k = true ∧ (c_bst f P k < 0 ∨ f (c_bst f P k).toNat < f k) then (k : Int) else c_bst f P k
theorem c_bst_b {f : Nat → Int} {P : Nat → Bool} : ∀ (k : Nat), -1 ≤ c_bst f P k ∧ c_bst f P k < k := by
  intro k
  induction k with
  | zero => exact ⟨by show (-1 : Int) ≤ -1; omega, by show (-1 : Int) < ((0 : Nat) : Int); omega⟩
  | succ k ih =>
    show -1 ≤ (if P k = true ∧ (c_bst f P k < 0 ∨ f (c_bst f P k).toNat < f k) then (k : Int) else c_bst f P k) ∧ (if P k = true ∧ (c_bst f P k < 0 ∨ f (c_bst f P k).toNat < f k) then (k : Int) else c_bst f P k) < _
    split
    · omega
    · omega
theorem c_bst_c {f f' : Nat → Int} {P P' : Nat → Bool} : ∀ {k : Nat}, (∀ w, w < k → f w = f' w) → (∀ w, w < k → P w = P' w) → c_bst f P k = c_bst f' P' k := by
  intro k
  induction k with
  | zero => intro _ _; rfl
  | succ k ih =>
    intro hf hP
    have e := ih (fun w hw => hf w (by omega)) (fun w hw => hP w (by omega))
    have b := c_bst_b (f := f') (P := P') k
    show (if P k = true ∧ (c_bst f P k < 0 ∨ f (c_bst f P k).toNat < f k) then (k : Int) else c_bst f P k) = (if P' k = true ∧ (c_bst f' P' k < 0 ∨ f' (c_bst f' P' k).toNat < f' k) then (k : Int) else c_bst f' P' k)
    rw [e, hP k (by omega), hf k (by omega)]
    by_cases z : c_bst f' P' k < 0
    · by_cases y : P' k = true
      · rw [if_pos ⟨y, Or.inl z⟩, if_pos ⟨y, Or.inl z⟩]
      · rw [if_neg (fun w => y w.1), if_neg (fun w => y w.1)]
    · rw [hf (c_bst f' P' k).toNat (by omega)]
theorem c_bst_y {f : Nat → Int} {P : Nat → Bool} {k : Nat} (h1 : P k = true) (h2 : c_bst f P k < 0 ∨ f (c_bst f P k).toNat < f k) : c_bst f P (k + 1) = k := if_pos ⟨h1, h2⟩
theorem c_bst_n {f : Nat → Int} {P : Nat → Bool} {k : Nat} (h : ¬ (P k = true ∧ (c_bst f P k < 0 ∨ f (c_bst f P k).toNat < f k))) : c_bst f P (k + 1) = c_bst f P k := if_neg h
def n_bst (v : Nat → Int32) : Int := c_bst (n_W v) (c_ok (n_sg v) (v 128).toInt.toNat) (2 ^ (v 128).toInt.toNat)
noncomputable def n_s47 (us : List Int32) (v : Nat → Int32) : (Nat → Int32) × Int32 := match us with
  | [] => (n_up v 143 (Int32.ofInt 1), if n_now v = 0 then n_m2 else Int32.ofInt (n_bst v))
  | _ => (v, 0)
theorem c_okm {F G : Int32} {n k : Nat} {g : Nat → Int} (hg : c_gb F G n g) (hk : k < 2 ^ n) : k &&& F.toInt.toNat = G.toInt.toNat ↔ c_ok g n k = true := by
  obtain ⟨⟨p1, p2⟩, ⟨p3, p4⟩, p5⟩ := hg
  rw [c_ok_iff]
  constructor
  · intro h j hj
    obtain ⟨u1, u2, u3, u4⟩ := p5 j hj
    have h2 : (k &&& F.toInt.toNat).testBit j = G.toInt.toNat.testBit j := by rw [h]
    rw [Nat.testBit_and, u1, u2] at h2
    refine ⟨fun z => ?_, fun z => ?_⟩
    · rw [decide_eq_true (show 0 ≤ g j by omega), decide_eq_true z, Bool.and_true] at h2
      exact h2
    · rw [decide_eq_true (show 0 ≤ g j by omega), decide_eq_false (show ¬ g j = 1 by omega), Bool.and_true] at h2
      exact h2
  · intro h
    refine Nat.eq_of_testBit_eq (fun j => ?_)
    rw [Nat.testBit_and]
    by_cases hj : j < n
    · obtain ⟨u1, u2, u3, u4⟩ := p5 j hj
      rw [u1, u2]
      by_cases z1 : g j = 1
      · rw [(h j hj).1 z1, decide_eq_true (show 0 ≤ g j by omega), decide_eq_true z1]
        rfl
      · by_cases z0 : g j = 0
        · rw [(h j hj).2 z0, decide_eq_false z1]
          rfl
        · rw [decide_eq_false (show ¬ 0 ≤ g j by omega), decide_eq_false z1, Bool.and_false]
    · rw [n_tb0 p1 p2 (by omega), n_tb0 p3 p4 (by omega), Bool.and_false]
section NLK
variable {X : aX} {C S d : Nat} {K0 : Option Value → aH → Nat → Nat → Prop} {h : aH} {v : Nat → Int32}
theorem c_heav_loop (hr : w_hr z_D h) (hc : n_cV h v) {wy : Int32} (hwy : wy.toInt = ((2 ^ (v 128).toInt.toNat : Nat) : Int)) (hK : ∀ (H : aH) (r : Int32), n_Qs v h H → r.toInt = n_bst v → K0 (some (.int r)) H C S) : ∀ (t : Nat) (G : aH) (bI wI : Int32) (k : Nat), n_Qs v h G → wI.toInt = k → k + t = 2 ^ (v 128).toInt.toNat → bI.toInt = c_bst (n_W v) (c_ok (n_sg v) (v 128).toInt.toNat) k → aOK s_P X d a_m48 11 [some (.ref 3), some (.int bI), some (.int wy), some (.int wI)] [] G C S K0 := by
  intro t
  induction t with
  | zero =>
    intro G bI wI k q hk hm hb
    refine w_go z_hl [11] [] 30 q.1 ?_
    refine ⟨fun _ => fun H hH => hK H bI (n_Qs_y q (y_st (y_rf q.1) hH (by repeat (first | exact w_nil | refine w_cons (Or.inl (y_m rfl)) ?_ | refine w_cons (Or.inr (by assumption)) ?_)) (by repeat (first | exact w_nil | refine w_cons (Or.inl (y_m rfl)) ?_ | refine w_cons (Or.inr (by assumption)) ?_)))) ?_, fun z => ?_⟩
    · rw [hb, show k = 2 ^ (v 128).toInt.toNat by omega]
      rfl
    · have : ¬ (wy.toInt ≤ wI.toInt) := y_cif z
      omega
  | succ t ih =>
    intro G bI wI k q hk hm hb
    obtain ⟨g1, g2, gb⟩ := n_Qs_sn hr hc q
    obtain ⟨nd, wl, -, -, n10, a9, wf, w0, -⟩ := id (n_Qs_ws q)
    have pw : 2 ^ (v 128).toInt.toNat ≤ 2 ^ 10 := n_p2 n10
    have bb := c_bst_b (f := n_W v) (P := c_ok (n_sg v) (v 128).toInt.toNat) k
    have ink : (wI + Int32.ofInt 1).toInt = ((k + 1 : Nat) : Int) := by rw [y_inc (by omega), hk]; rfl
    have okm := c_okm gb (show k < 2 ^ (v 128).toInt.toNat by omega)
    have an := c_and (x := wI) (y := v 138) (n := k) (m := (v 138).toInt.toNat) hk (by have := gb.1.1; omega)
    have cw := y_cl1 hk
    have T51 : ∀ {G : aH} {b' : Int32}, n_Qs v h G → b'.toInt = c_bst (n_W v) (c_ok (n_sg v) (v 128).toInt.toNat) (k + 1) → aOK s_P X d a_m48 51 [some (.ref 3), some (.int b'), some (.int wy), some (.int wI)] [] G C S K0 := by
      intro G b' q hb'
      refine w_go z_hl [11] [] 20 q.1 ?_
      intro H hH
      exact ih H b' _ (k + 1) (n_Qs_y q (y_st (y_rf q.1) hH (by repeat (first | exact w_nil | refine w_cons (Or.inl (y_m rfl)) ?_ | refine w_cons (Or.inr (by assumption)) ?_)) (by repeat (first | exact w_nil | refine w_cons (Or.inl (y_m rfl)) ?_ | refine w_cons (Or.inr (by assumption)) ?_)))) ink (by omega) hb'
    have T29 : ∀ {G : aH}, n_Qs v h G → w_a G 9 = some (0, .inl wl) → c_ok (n_sg v) (v 128).toInt.toNat k = true → aOK s_P X d a_m48 29 [some (.ref 3), some (.int bI), some (.int wy), some (.int wI)] [] G C S K0 := by
      intro G q a9 ok
      refine w_go z_hl [51] [] 40 q.1 ?_
      refine ⟨fun z => fun H hH => ?_, fun z => ?_⟩
      · have z1 : bI.toInt = (Int32.ofInt (-1)).toInt := (y_ci .eq _ _).mp z
        have z2 : bI.toInt = -1 := z1
        exact T51 (n_Qs_y q (y_st (y_rf q.1) hH (by repeat (first | exact w_nil | refine w_cons (Or.inl (y_m rfl)) ?_ | refine w_cons (Or.inr (by assumption)) ?_)) (by repeat (first | exact w_nil | refine w_cons (Or.inl (y_m rfl)) ?_ | refine w_cons (Or.inr (by assumption)) ?_)))) (by rw [c_bst_y ok (Or.inl (by omega))]; exact hk)
      · have z1 : ¬ (bI.toInt = (Int32.ofInt (-1)).toInt) := y_cif z
        have z2 : ¬ (bI.toInt = -1) := z1
        refine ⟨⟨by omega, by omega⟩, fun l hl len lb => ⟨⟨by omega, by omega⟩, ?_⟩⟩
        obtain rfl := y_ai a9 hl
        have e1 : (wl.getD wI.toNatClampNeg 0).toInt = n_W v k := by rw [cw]; exact wf k (by omega)
        have e2 : (wl.getD bI.toNatClampNeg 0).toInt = n_W v (c_bst (n_W v) (c_ok (n_sg v) (v 128).toInt.toNat) k).toNat := by
          rw [show bI.toNatClampNeg = bI.toInt.toNat from rfl, hb]
          exact wf _ (by omega)
        refine ⟨fun y => fun H hH => ?_, fun y => fun H hH => ?_⟩
        · have y1 : (wl.getD wI.toNatClampNeg 0).toInt ≤ (wl.getD bI.toNatClampNeg 0).toInt := (y_ci .le _ _).mp y
          refine T51 (n_Qs_y q (y_st (y_rf q.1) hH (by repeat (first | exact w_nil | refine w_cons (Or.inl (y_m rfl)) ?_ | refine w_cons (Or.inr (by assumption)) ?_)) (by repeat (first | exact w_nil | refine w_cons (Or.inl (y_m rfl)) ?_ | refine w_cons (Or.inr (by assumption)) ?_)))) ?_
          rw [c_bst_n (fun w => by
            rcases w.2 with w | w
            · omega
            · omega)]
          exact hb
        · have y1 : ¬ ((wl.getD wI.toNatClampNeg 0).toInt ≤ (wl.getD bI.toNatClampNeg 0).toInt) := y_cif y
          exact T51 (n_Qs_y q (y_st (y_rf q.1) hH (by repeat (first | exact w_nil | refine w_cons (Or.inl (y_m rfl)) ?_ | refine w_cons (Or.inr (by assumption)) ?_)) (by repeat (first | exact w_nil | refine w_cons (Or.inl (y_m rfl)) ?_ | refine w_cons (Or.inr (by assumption)) ?_)))) (by rw [c_bst_y ok (Or.inr (by omega))]; exact hk)
    refine w_go z_hl [11, 29, 51] [] 40 q.1 ?_
    refine ⟨fun z => ?_, fun _ => ?_⟩
    · have : wy.toInt ≤ wI.toInt := (y_ci .ge _ _).mp z
      omega
    · intro x hx _ _
      obtain rfl := y_fi g1 hx
      intro y hy _ _
      obtain rfl := y_fi g2 hy
      refine ⟨fun z => fun H hH => ?_, fun z => fun H hH => ?_⟩
      · have z1 : (wI &&& v 138).toInt ≠ (v 139).toInt := (y_ci .ne _ _).mp z
        refine T51 (n_Qs_y q (y_st (y_rf q.1) hH (by repeat (first | exact w_nil | refine w_cons (Or.inl (y_m rfl)) ?_ | refine w_cons (Or.inr (by assumption)) ?_)) (by repeat (first | exact w_nil | refine w_cons (Or.inl (y_m rfl)) ?_ | refine w_cons (Or.inr (by assumption)) ?_)))) ?_
        rw [c_bst_n (fun w => z1 ?_)]
        · exact hb
        · have := okm.mpr w.1
          have := gb.2.1.1
          omega
      · have z1 : ¬ ((wI &&& v 138).toInt ≠ (v 139).toInt) := y_cif z
        have z2 : (wI &&& v 138).toInt = (v 139).toInt := Decidable.not_not.mp z1
        have e : y_fr G H [] [] := y_st (y_rf q.1) hH (by repeat (first | exact w_nil | refine w_cons (Or.inl (y_m rfl)) ?_ | refine w_cons (Or.inr (by assumption)) ?_)) (by repeat (first | exact w_nil | refine w_cons (Or.inl (y_m rfl)) ?_ | refine w_cons (Or.inr (by assumption)) ?_))
        exact T29 (n_Qs_y q e) ((y_ae e rfl).trans a9) (okm.mp (by omega))
theorem c_heav {G : aH} (hr : w_hr z_D h) (hc : n_cV h v) (q : n_Qs v h G) (hK : ∀ (H : aH) (r : Int32), n_Qs v h H → r.toInt = n_bst v → K0 (some (.int r)) H C S) : aOK s_P X d a_m48 0 [some (.ref 3), none, none, none] [] G C S K0 := by
  obtain ⟨nd, wl, g0, en, n10, -⟩ := id (n_Qs_ws q)
  have gn : w_f G 128 = some (.int (v 128)) := by
    obtain ⟨lc, lo, wl, fr, q8, -⟩ := q.2.2.2.1
    exact q8.1.1
  have e0 : nd = v 128 := y_fi g0 gn
  rw [e0] at en
  refine w_go z_hl [11] [] 40 q.1 ?_
  intro x hx _ _
  obtain rfl := y_fi gn hx
  intro H hH
  exact c_heav_loop hr hc (c_shlN en n10) hK (2 ^ (v 128).toInt.toNat) H _ _ 0 (n_Qs_y q (y_st (y_rf q.1) hH (by repeat (first | exact w_nil | refine w_cons (Or.inl (y_m rfl)) ?_ | refine w_cons (Or.inr (by assumption)) ?_)) (by repeat (first | exact w_nil | refine w_cons (Or.inl (y_m rfl)) ?_ | refine w_cons (Or.inr (by assumption)) ?_)))) (by decide) (by omega) (show (Int32.ofInt (-1)).toInt = -1 by decide)
theorem c_likely (hr : w_hr z_D h) (hJ : y_JA h) (hc : n_cV h v) (hW : n_Wv v h) (yes : ∀ H, n_Qs v h H → K0 (some (.int (if n_now v = 0 then n_m2 else Int32.ofInt (n_bst v)))) H C S) : aOK s_P X (d + 5) a_m47 0 [some (.ref 2), none, none] [] h C S K0 := by
  have T59 : ∀ {G : aH} {x y : Int32}, n_now v ≠ 0 → y.toInt = n_bst v → n_Qs v h G → aOK s_P X (d + 5) a_m47 59 [some (.ref 2), some (.int x), some (.int y)] [] G C S K0 := by
    intro G x y nz hy q
    refine w_go z_hl [] [] 20 q.1 ?_
    intro H hH
    have z := yes H (n_Qs_y q (y_st (y_rf q.1) hH (by repeat (first | exact w_nil | refine w_cons (Or.inl (y_m rfl)) ?_ | refine w_cons (Or.inr (by assumption)) ?_)) (by repeat (first | exact w_nil | refine w_cons (Or.inl (y_m rfl)) ?_ | refine w_cons (Or.inr (by assumption)) ?_))))
    rw [if_neg nz, ← hy, Int32.ofInt_toInt] at z
    exact z
  have T48 : ∀ {G : aH} {x y : Int32}, n_now v ≠ 0 → y.toInt = n_bst v → n_Qs v h G → aOK s_P X (d + 5) a_m47 48 [some (.ref 2), some (.int x), some (.int y)] [] G C S K0 := by
    intro G x y nz hy q
    refine w_go z_hl [] [42] 30 q.1 ?_
    intro H hH
    refine c_tell1 (d := d + 2) (n_Qs_y q (y_st (y_rf q.1) hH (by repeat (first | exact w_nil | refine w_cons (Or.inl (y_m rfl)) ?_ | refine w_cons (Or.inr (by assumption)) ?_)) (by repeat (first | exact w_nil | refine w_cons (Or.inl (y_m rfl)) ?_ | refine w_cons (Or.inr (by assumption)) ?_)))) (fun H3 q3 => ⟨fun n e => (by cases e), ?_⟩)
    exact T59 nz hy q3
  have T42 : ∀ {G : aH} {x y r : Int32}, n_now v ≠ 0 → y.toInt = n_bst v → n_Qs v h G → aOK s_P X (d + 5) a_m47 42 [some (.ref 2), some (.int x), some (.int y)] [.int r, .ref 153] G C S K0 := by
    intro G x y r nz hy q
    refine w_go z_hl [] [39] 30 q.1 ?_
    intro H hH
    refine c_put1 (d := d + 3) (n_Qs_y q (y_st (y_rf q.1) hH (by repeat (first | exact w_nil | refine w_cons (Or.inl (y_m rfl)) ?_ | refine w_cons (Or.inr (by assumption)) ?_)) (by repeat (first | exact w_nil | refine w_cons (Or.inl (y_m rfl)) ?_ | refine w_cons (Or.inr (by assumption)) ?_)))) (fun H3 q3 => ⟨fun n e => (by cases e), ?_⟩)
    exact T48 nz hy q3
  have T29 : ∀ {G : aH} {x y : Int32}, n_now v ≠ 0 → y.toInt = n_bst v → n_Qs v h G → aOK s_P X (d + 5) a_m47 29 [some (.ref 2), some (.int x), none] [.int y] G C S K0 := by
    intro G x y nz hy q
    obtain ⟨nd, wl, g0, en, n10, a9, -⟩ := id (n_Qs_ws q)
    refine w_go z_hl [] [32] 30 q.1 ?_
    intro H hH
    have e : y_fr G H [] [] := y_st (y_rf q.1) hH (by repeat (first | exact w_nil | refine w_cons (Or.inl (y_m rfl)) ?_ | refine w_cons (Or.inr (by assumption)) ?_)) (by repeat (first | exact w_nil | refine w_cons (Or.inl (y_m rfl)) ?_ | refine w_cons (Or.inr (by assumption)) ?_))
    refine c_weightOf (d := d + 3) (a := y) e.1 ((y_fe e rfl).trans g0) (by omega) (by omega) ((y_ae e rfl).trans a9) (fun _ H3 e3 => ⟨fun n e => (by cases e), ?_⟩) (fun _ H3 e3 => ⟨fun n e => (by cases e), ?_⟩)
    · exact T42 nz hy (n_Qs_y q (y_sq e e3 rfl rfl))
    · exact T42 nz hy (n_Qs_y q (y_sq e e3 rfl rfl))
  have T14 : ∀ {G : aH} {x : Int32}, x.toInt = n_now v → n_Qs v h G → aOK s_P X (d + 5) a_m47 14 [some (.ref 2), none, none] [.int x] G C S K0 := by
    intro G x hx q
    refine w_go z_hl [] [48] 30 q.1 ?_
    refine ⟨fun z => fun H hH => ?_, fun z => fun H hH => ?_⟩
    · have z1 : x.toInt ≠ (0 : Int32).toInt := (y_ci .ne _ _).mp z
      have z2 : x.toInt ≠ 0 := z1
      refine c_heav (d := d + 4) hr hc (n_Qs_y q (y_st (y_rf q.1) hH (by repeat (first | exact w_nil | refine w_cons (Or.inl (y_m rfl)) ?_ | refine w_cons (Or.inr (by assumption)) ?_)) (by repeat (first | exact w_nil | refine w_cons (Or.inl (y_m rfl)) ?_ | refine w_cons (Or.inr (by assumption)) ?_)))) (fun H3 r q3 hr3 => ⟨fun n e => (by cases e), ?_⟩)
      exact T29 (by omega) hr3 q3
    · have z1 : ¬ (x.toInt ≠ (0 : Int32).toInt) := y_cif z
      have z2 : x.toInt = 0 := Decidable.not_not.mp z1
      have w := yes H (n_Qs_y q (y_st (y_rf q.1) hH (by repeat (first | exact w_nil | refine w_cons (Or.inl (y_m rfl)) ?_ | refine w_cons (Or.inr (by assumption)) ?_)) (by repeat (first | exact w_nil | refine w_cons (Or.inl (y_m rfl)) ?_ | refine w_cons (Or.inr (by assumption)) ?_))))
      rw [if_pos (by omega)] at w
      exact w
  have T7 : ∀ {G : aH}, n_Qs v h G → aOK s_P X (d + 5) a_m47 7 [some (.ref 2), none, none] [] G C S K0 := by
    intro G q
    refine w_go z_hl [] [35] 30 q.1 ?_
    intro H hH
    refine c_wNow (d := d + 2) hr hc (n_Qs_y q (y_st (y_rf q.1) hH (by repeat (first | exact w_nil | refine w_cons (Or.inl (y_m rfl)) ?_ | refine w_cons (Or.inr (by assumption)) ?_)) (by repeat (first | exact w_nil | refine w_cons (Or.inl (y_m rfl)) ?_ | refine w_cons (Or.inr (by assumption)) ?_)))) (fun H3 r q3 hr3 => ⟨fun n e => (by cases e), ?_⟩)
    exact T14 hr3 q3
  refine w_go z_hl [] [29] 30 hr ?_
  intro H hH
  have e2 : y_fr h H [] [] := y_st (y_rf hr) hH (by repeat (first | exact w_nil | refine w_cons (Or.inl (y_m rfl)) ?_ | refine w_cons (Or.inr (by assumption)) ?_)) (by repeat (first | exact w_nil | refine w_cons (Or.inl (y_m rfl)) ?_ | refine w_cons (Or.inr (by assumption)) ?_))
  refine c_refreshQ (d := d + 2) (v := v) e2.1 (y_jfr y_JA_x e2 rfl rfl hJ) (n_Wv_p h H (fun k _ => e2.2.1 k List.not_mem_nil) (fun o _ => e2.2.2 o List.not_mem_nil) hW) (fun H3 q3 => ⟨fun n e => (by cases e), ?_⟩)
  exact T7 (n_Qs_l hr e2 q3)
theorem f_likely_loop {nd : Int32} {sa : List Int32} {wl : List Int64} {sum : Int64} {A B : Int32} (hA : A = y_bits (y_pS sa (Int32.ofInt (-1))) nd.toInt.toNat) (hB : B = y_bits (y_pN sa (Int32.ofInt (-1))) nd.toInt.toNat) (hs : sum.toInt = y_ws wl A B (y_ways nd)) (hs1 : 1 ≤ sum.toInt) : ∀ (t : Nat) (h : aH) (bI wI : Int32) (k : Nat) (o5 : Option Value), w_hr z_D h → w_f h 19591 = some (.int nd) → w_a h 160 = some (0, .inl sa) → y_wl h wl → wI.toInt = k → k + t = y_ways nd → -1 ≤ bI.toInt → bI.toInt < 1024 → (bI.toInt < 0 → y_ws wl A B k = 0) → bI.toInt = c_bst (fun w => (wl.getD w 0).toInt) (fun w => y_sel A B (Int32.ofNat w)) k →
    (∀ (r : Int32) (H : aH), y_fr h H [19585, 19587, 19588] [154] → r.toInt = c_bst (fun w => (wl.getD w 0).toInt) (fun w => y_sel A B (Int32.ofNat w)) (y_ways nd) → K0 (some (.int r)) H C S) →
    aOK s_P X (d + 3) a_m199 28 [some (.ref 155), some (.long sum), none, some (.int bI), some (.int wI), o5] [] h C S K0 := by
  intro t
  induction t with
  | zero =>
    intro h bI wI k o5 hr g1 g2 hw hk hkt b0 b1 hb hbs hK
    obtain ⟨c1, c2⟩ := y_ndb hr g1
    have hbp : 0 ≤ bI.toInt := by
      rcases Int.lt_or_le bI.toInt 0 with q | q
      · have := hb q
        rw [show k = y_ways nd by omega, ← hs] at this
        omega
      · exact q
    have T126 : ∀ {G : aH}, y_fr h G [19585, 19587, 19588] [154] → aOK s_P X (d + 3) a_m199 126 [some (.ref 155), some (.long sum), none, some (.int bI), some (.int wI), o5] [] G C S K0 := by
      intro G e
      refine w_go z_hl [] [] 30 e.1 ?_
      intro H hH
      exact hK _ H (y_st e hH (by repeat (first | exact w_nil | refine w_cons (Or.inl (y_m rfl)) ?_ | refine w_cons (Or.inr (by assumption)) ?_)) (by repeat (first | exact w_nil | refine w_cons (Or.inl (y_m rfl)) ?_ | refine w_cons (Or.inr (by assumption)) ?_))) (by rw [hbs, show k = y_ways nd by omega])
    have T117 : ∀ {G : aH}, y_fr h G [19585, 19587, 19588] [154] → aOK s_P X (d + 3) a_m199 117 [some (.ref 155), some (.long sum), none, some (.int bI), some (.int wI), o5] [] G C S K0 := by
      intro G e
      refine w_go z_hl [] [196] 30 e.1 ?_
      refine ⟨rfl, y_zini (by decide) (by decide), fun H hH => ?_⟩
      have e2 := y_st e hH (by repeat (first | exact w_nil | refine w_cons (Or.inl (y_m rfl)) ?_ | refine w_cons (Or.inr (by assumption)) ?_)) (by repeat (first | exact w_nil | refine w_cons (Or.inl (y_m rfl)) ?_ | refine w_cons (Or.inr (by assumption)) ?_))
      refine y_tells e2.1 (hH.2.1 19585 _ rfl) (by decide) (by decide) (fun H2 r2 e3 _ _ => ⟨fun n e => (by cases e), ?_⟩)
      exact T126 (y_sq e2 e3 rfl rfl)
    refine w_go z_hl [28] [194] 30 hr ?_
    intro x hx y1 y2
    obtain rfl := y_fi g1 hx
    obtain ⟨ea, l1, l2⟩ := y_all y1 y2
    refine ⟨fun q => ?_, fun q => ?_⟩
    · refine ⟨⟨by omega, by omega⟩, fun l hl len bb => ?_⟩
      obtain rfl := y_al hw.1 hl
      intro H hH
      have e : y_fr h H [] [] := y_st (y_rf hr) hH (by repeat (first | exact w_nil | refine w_cons (Or.inl (y_m rfl)) ?_ | refine w_cons (Or.inr (by assumption)) ?_)) (by repeat (first | exact w_nil | refine w_cons (Or.inl (y_m rfl)) ?_ | refine w_cons (Or.inr (by assumption)) ?_))
      have hg := y_getD hw.2.1 bI.toNatClampNeg
      refine q_lowest (n := wl.getD bI.toNatClampNeg 0) (m := sum) e.1 (by omega) hs1 (fun u l H2 e3 _ _ _ _ _ _ _ => ⟨fun n e => (by cases e), ?_⟩)
      exact T117 (y_sq (y_mo e rfl rfl) e3 rfl rfl)
    · have : ¬ ((Int32.ofInt 1 <<< (nd &&& 31) - Int32.ofInt 1).toInt < wI.toInt) := y_cif q
      omega
  | succ t ih =>
    intro h bI wI k o5 hr g1 g2 hw hk hkt b0 b1 hb hbs hK
    obtain ⟨c1, c2⟩ := y_ndb hr g1
    obtain ⟨ea, l1, l2⟩ := y_all c1 c2
    obtain ⟨ew, wc⟩ := y_ofNat hk (by omega)
    have hik : (wI + Int32.ofInt 1).toInt = ((k + 1 : Nat) : Int) := by rw [y_inc (by omega), hk]; rfl
    have next : ∀ {H : aH} {b' : Int32} {o : Option Value}, y_fr h H [] [] → -1 ≤ b'.toInt → b'.toInt < 1024 → (b'.toInt < 0 → y_ws wl A B (k + 1) = 0) → b'.toInt = c_bst (fun w => (wl.getD w 0).toInt) (fun w => y_sel A B (Int32.ofNat w)) (k + 1) → aOK s_P X (d + 3) a_m199 28 [some (.ref 155), some (.long sum), none, some (.int b'), some (.int (wI + Int32.ofInt 1)), o] [] H C S K0 := by
      intro H b' o e q0 q1 q2 q3
      exact ih H _ _ (k + 1) _ e.1 ((y_fe e rfl).trans g1) ((y_ae e rfl).trans g2) (y_wl_fr e (fun q => by cases q) hw) hik (by omega) q0 q1 q2 q3 (fun r H' f er => hK r H' (y_sq (y_mo e rfl rfl) f rfl rfl) er)
    have skip : y_sel A B wI = false → bI.toInt < 0 → y_ws wl A B (k + 1) = 0 := by
      intro q1 q2
      show y_ws wl A B k + (if y_sel A B (Int32.ofNat k) then (wl.getD k 0).toInt else 0) = 0
      rw [← ew, q1, hb q2]
      rfl
    have T69n : ∀ {G : aH}, y_fr h G [] [] → y_sel A B wI = false → aOK s_P X (d + 3) a_m199 69 [some (.ref 155), some (.long sum), none, some (.int bI), some (.int wI), o5] [.int (Int32.ofInt 0)] G C S K0 := by
      intro G e hsel
      refine w_go z_hl [28] [] 30 e.1 ?_
      exact ⟨fun _ => fun H hH => next (y_st e hH (by repeat (first | exact w_nil | refine w_cons (Or.inl (y_m rfl)) ?_ | refine w_cons (Or.inr (by assumption)) ?_)) (by repeat (first | exact w_nil | refine w_cons (Or.inl (y_m rfl)) ?_ | refine w_cons (Or.inr (by assumption)) ?_))) b0 b1 (skip hsel) (by rw [c_bst_n (fun w => by rw [← ew, hsel] at w; exact absurd w.1 (by decide))]; exact hbs), fun q => absurd q (by decide)⟩
    have T69y : ∀ {G : aH}, y_fr h G [] [] → y_sel A B wI = true → aOK s_P X (d + 3) a_m199 69 [some (.ref 155), some (.long sum), none, some (.int bI), some (.int wI), o5] [.int (Int32.ofInt 1)] G C S K0 := by
      intro G e hsel
      rw [ew] at hsel
      refine w_go z_hl [28] [] 30 e.1 ?_
      refine ⟨fun q => absurd q (by decide), fun _ => ⟨fun q => fun H hH => ?_, fun q => ?_⟩⟩
      · have hb0 : bI.toInt < (0 : Int32).toInt := (y_ci .lt _ _).mp q
        have hb1 : bI.toInt < 0 := hb0
        exact next (y_st e hH (by repeat (first | exact w_nil | refine w_cons (Or.inl (y_m rfl)) ?_ | refine w_cons (Or.inr (by assumption)) ?_)) (by repeat (first | exact w_nil | refine w_cons (Or.inl (y_m rfl)) ?_ | refine w_cons (Or.inr (by assumption)) ?_))) (by omega) (by omega) (fun q => by omega) (by rw [c_bst_y hsel (Or.inl (by omega))]; exact hk)
      · have hb0 : ¬ (bI.toInt < (0 : Int32).toInt) := y_cif q
        rw [show (0 : Int32).toInt = 0 by decide] at hb0
        refine ⟨⟨by omega, by omega⟩, fun l hl len bb => ⟨⟨by omega, by omega⟩, ?_⟩⟩
        obtain rfl := y_al ((y_ae e rfl).trans hw.1) hl
        have e1 : (wl.getD wI.toNatClampNeg 0).toInt = (wl.getD k 0).toInt := by rw [wc]
        have e2 : (wl.getD bI.toNatClampNeg 0).toInt = (wl.getD (c_bst (fun w => (wl.getD w 0).toInt) (fun w => y_sel A B (Int32.ofNat w)) k).toNat 0).toInt := by
          rw [← hbs]
          rfl
        refine ⟨fun y => fun H hH => ?_, fun y => fun H hH => ?_⟩
        · have y1 : (wl.getD wI.toNatClampNeg 0).toInt ≤ (wl.getD bI.toNatClampNeg 0).toInt := (y_cl .le _ _).mp y
          rw [e1, e2] at y1
          refine next (y_st e hH (by repeat (first | exact w_nil | refine w_cons (Or.inl (y_m rfl)) ?_ | refine w_cons (Or.inr (by assumption)) ?_)) (by repeat (first | exact w_nil | refine w_cons (Or.inl (y_m rfl)) ?_ | refine w_cons (Or.inr (by assumption)) ?_))) b0 b1 (fun q => by omega) ?_
          rw [c_bst_n (fun w => by
            rcases w.2 with w | w
            · omega
            · omega)]
          exact hbs
        · have y1 : ¬ ((wl.getD wI.toNatClampNeg 0).toInt ≤ (wl.getD bI.toNatClampNeg 0).toInt) := y_clf y
          rw [e1, e2] at y1
          exact next (y_st e hH (by repeat (first | exact w_nil | refine w_cons (Or.inl (y_m rfl)) ?_ | refine w_cons (Or.inr (by assumption)) ?_)) (by repeat (first | exact w_nil | refine w_cons (Or.inl (y_m rfl)) ?_ | refine w_cons (Or.inr (by assumption)) ?_))) (by omega) (by omega) (fun q => by omega) (by rw [c_bst_y hsel (Or.inr (by omega))]; exact hk)
    have T60 : ∀ {G : aH}, y_fr h G [] [] → wI &&& A = A → aOK s_P X (d + 3) a_m199 60 [some (.ref 155), some (.long sum), none, some (.int bI), some (.int wI), o5] [.int B, .int wI] G C S K0 := by
      intro G e hwa
      refine w_go z_hl [69] [] 30 e.1 ?_
      refine ⟨fun q => fun H hH => ?_, fun q => fun H hH => ?_⟩
      · have q2 : (wI &&& B).toInt ≠ (0 : Int32).toInt := (y_ci .ne _ _).mp q
        refine T69n (y_st e hH (by repeat (first | exact w_nil | refine w_cons (Or.inl (y_m rfl)) ?_ | refine w_cons (Or.inr (by assumption)) ?_)) (by repeat (first | exact w_nil | refine w_cons (Or.inl (y_m rfl)) ?_ | refine w_cons (Or.inr (by assumption)) ?_))) ?_
        unfold y_sel
        rw [decide_eq_false (p := wI &&& B = 0) (fun e => q2 (by rw [e])), Bool.and_false]
      · have q2 : ¬ ((wI &&& B).toInt ≠ (0 : Int32).toInt) := y_cif q
        refine T69y (y_st e hH (by repeat (first | exact w_nil | refine w_cons (Or.inl (y_m rfl)) ?_ | refine w_cons (Or.inr (by assumption)) ?_)) (by repeat (first | exact w_nil | refine w_cons (Or.inl (y_m rfl)) ?_ | refine w_cons (Or.inr (by assumption)) ?_))) ?_
        unfold y_sel
        rw [decide_eq_true hwa, decide_eq_true (p := wI &&& B = 0) (Int32.toInt_inj.mp (Decidable.not_not.mp q2))]
        rfl
    have T50 : ∀ {G : aH}, y_fr h G [] [] → aOK s_P X (d + 3) a_m199 50 [some (.ref 155), some (.long sum), none, some (.int bI), some (.int wI), o5] [.int A, .int (wI &&& A)] G C S K0 := by
      intro G e
      refine w_go z_hl [69] [192] 30 e.1 ?_
      refine ⟨fun q => fun H hH => ?_, fun q => fun H hH => ?_⟩
      · have q2 : (wI &&& A).toInt ≠ A.toInt := (y_ci .ne _ _).mp q
        refine T69n (y_st e hH (by repeat (first | exact w_nil | refine w_cons (Or.inl (y_m rfl)) ?_ | refine w_cons (Or.inr (by assumption)) ?_)) (by repeat (first | exact w_nil | refine w_cons (Or.inl (y_m rfl)) ?_ | refine w_cons (Or.inr (by assumption)) ?_))) ?_
        unfold y_sel
        rw [decide_eq_false (p := wI &&& A = A) (fun e => q2 (by rw [e])), Bool.false_and]
      · have q2 : ¬ ((wI &&& A).toInt ≠ A.toInt) := y_cif q
        have e2 := y_st e hH (by repeat (first | exact w_nil | refine w_cons (Or.inl (y_m rfl)) ?_ | refine w_cons (Or.inr (by assumption)) ?_)) (by repeat (first | exact w_nil | refine w_cons (Or.inl (y_m rfl)) ?_ | refine w_cons (Or.inr (by assumption)) ?_))
        refine y_seenNot e2.1 ((y_fe e2 rfl).trans g1) ((y_ae e2 rfl).trans g2) (fun H3 f3 => ⟨fun n e => (by cases e), ?_⟩)
        rw [← hB]
        exact T60 (y_sq e2 f3 rfl rfl) (Int32.toInt_inj.mp (Decidable.not_not.mp q2))
    have T44 : ∀ {G : aH}, y_fr h G [] [] → aOK s_P X (d + 3) a_m199 44 [some (.ref 155), some (.long sum), none, some (.int bI), some (.int wI), o5] [.int A, .int wI] G C S K0 := by
      intro G e
      refine w_go z_hl [] [191] 30 e.1 ?_
      intro H hH
      have e2 := y_st e hH (by repeat (first | exact w_nil | refine w_cons (Or.inl (y_m rfl)) ?_ | refine w_cons (Or.inr (by assumption)) ?_)) (by repeat (first | exact w_nil | refine w_cons (Or.inl (y_m rfl)) ?_ | refine w_cons (Or.inr (by assumption)) ?_))
      refine y_seenSo e2.1 ((y_fe e2 rfl).trans g1) ((y_ae e2 rfl).trans g2) (fun H3 f3 => ⟨fun n e => (by cases e), ?_⟩)
      rw [← hA]
      exact T50 (y_sq e2 f3 rfl rfl)
    refine w_go z_hl [28] [191] 30 hr ?_
    intro x hx y1 y2
    obtain rfl := y_fi g1 hx
    refine ⟨fun q => ?_, fun q => ?_⟩
    · have : (Int32.ofInt 1 <<< (nd &&& 31) - Int32.ofInt 1).toInt < wI.toInt := (y_ci .gt _ _).mp q
      omega
    · intro H hH
      have e : y_fr h H [] [] := y_st (y_rf hr) hH (by repeat (first | exact w_nil | refine w_cons (Or.inl (y_m rfl)) ?_ | refine w_cons (Or.inr (by assumption)) ?_)) (by repeat (first | exact w_nil | refine w_cons (Or.inl (y_m rfl)) ?_ | refine w_cons (Or.inr (by assumption)) ?_))
      refine y_seenSo e.1 ((y_fe e rfl).trans g1) ((y_ae e rfl).trans g2) (fun H3 f3 => ⟨fun n e => (by cases e), ?_⟩)
      rw [← hA]
      exact T44 (y_sq e f3 rfl rfl)
theorem f_likely (hr : w_hr z_D h) (hJ : y_J h) (hm : n_mV h v) (yes : ∀ (H : aH), y_fr h H [19584, 19585, 19587, 19588] [154, 163] → y_J H → K0 (some (.int (if n_now v = 0 then n_m2 else Int32.ofInt (n_bst v)))) H C S) : aOK s_P X (d + 4) a_m199 0 [some (.ref 155), none, none, none, none, none] [] h C S K0 := by
  have T13 : ∀ {G0 G : aH} {sa : List Int32} {wl : List Int64} {r : Int64}, y_fr h G0 [19584] [163] → y_J G0 → f_wc G0 v sa wl → y_fr G0 G [] [] → r.toInt = n_now v → aOK s_P X (d + 4) a_m199 13 [some (.ref 155), none, none, none, none, none] [.long r] G C S K0 := by
    intro G0 G sa wl r e0 J0 hw e hr3
    obtain ⟨s1, s2, s3, s4, s5, s6⟩ := id hw
    have E2 : y_nw sa (v 128) wl (Int32.ofInt (-1)) true (Int32.ofInt (-1)) = n_now v := by
      rw [y_nw_T s5 s6 s2 s4]
      exact c_T_c (fun _ _ => rfl) (fun j _ => n_bu_n)
    refine w_go z_hl [28] [] 30 e.1 ?_
    refine ⟨fun q => ?_, fun q => fun H hH => ?_⟩
    · have q2 : r.toInt ≠ (Int64.ofNat 0).toInt := (y_cl .ne _ _).mp q
      rw [show (Int64.ofNat 0).toInt = 0 by decide] at q2
      have bb := y_nw_b (sa := sa) (node := Int32.ofInt (-1)) (so := true) (but := Int32.ofInt (-1)) s1.2.2.2 (by omega) (by omega : (v 128).toInt ≤ 10)
      rw [E2] at bb
      intro H hH
      have f : y_fr G0 H [] [] := y_st e hH (by repeat (first | exact w_nil | refine w_cons (Or.inl (y_m rfl)) ?_ | refine w_cons (Or.inr (by assumption)) ?_)) (by repeat (first | exact w_nil | refine w_cons (Or.inl (y_m rfl)) ?_ | refine w_cons (Or.inr (by assumption)) ?_))
      have f1 : y_fr h H [19584] [163] := y_sq e0 f rfl rfl
      have c1 := y_wc_fr s1 f rfl rfl rfl
      refine f_likely_loop rfl rfl (by rw [hr3, ← E2]; exact y_now_ws) (by omega) (y_ways (v 128)) H _ _ 0 _ f.1 c1.2.1 c1.2.2.1 c1.2.2.2 rfl (by omega) (by decide) (by decide) (fun _ => rfl) (show (Int32.ofInt (-1)).toInt = -1 by decide) (fun r' H5 e5 er => ?_)
      have w := yes H5 (y_sq (y_mo f1 rfl rfl) e5 rfl rfl) (y_J_fr e5 rfl rfl (y_J_fr f rfl rfl J0))
      have eb : n_bst v = r'.toInt := by
        rw [er]
        unfold n_bst
        refine c_bst_c (fun w hw => (s4 w hw).symm) (fun w hw => ?_)
        obtain ⟨A, a1, a2, a3⟩ := y_bits_N (p := y_pS sa (Int32.ofInt (-1))) s6
        obtain ⟨B, b1, b2, b3⟩ := y_bits_N (p := y_pN sa (Int32.ofInt (-1))) s6
        have pw : 2 ^ (v 128).toInt.toNat ≤ 2 ^ 10 := n_p2 s6
        refine Bool.eq_iff_iff.mpr ?_
        rw [y_sel_i a1 b1 (by omega), c_ok_iff]
        constructor
        · intro k j
          refine ⟨fun z => ?_, fun z => ?_⟩
          · rw [a3 j, Bool.and_eq_true, decide_eq_true_eq] at z
            have z2 := (y_pS_i s2 z.1).mp z.2
            rw [n_bu_n] at z2
            exact (k j z.1).1 z2
          · rw [b3 j, Bool.and_eq_true, decide_eq_true_eq] at z
            have z2 := (y_pN_i s2 z.1).mp z.2
            rw [n_bu_n] at z2
            exact (k j z.1).2 z2
        · intro k j hj
          refine ⟨fun z => (k j).1 ?_, fun z => (k j).2 ?_⟩
          · rw [a3 j, Bool.and_eq_true, decide_eq_true_eq]
            exact ⟨hj, (y_pS_i s2 hj).mpr (by rw [n_bu_n]; exact z)⟩
          · rw [b3 j, Bool.and_eq_true, decide_eq_true_eq]
            exact ⟨hj, (y_pN_i s2 hj).mpr (by rw [n_bu_n]; exact z)⟩
      rw [if_neg (by omega), eb, Int32.ofInt_toInt] at w
      exact w
    · have q2 : ¬ (r.toInt ≠ (Int64.ofNat 0).toInt) := y_clf q
      have q3 : r.toInt = 0 := Decidable.not_not.mp q2
      have f : y_fr G0 H [] [] := y_st e hH (by repeat (first | exact w_nil | refine w_cons (Or.inl (y_m rfl)) ?_ | refine w_cons (Or.inr (by assumption)) ?_)) (by repeat (first | exact w_nil | refine w_cons (Or.inl (y_m rfl)) ?_ | refine w_cons (Or.inr (by assumption)) ?_))
      have w := yes H (y_sq (y_mo e0 rfl rfl) f rfl rfl) (y_J_fr f rfl rfl J0)
      rw [if_pos (by omega)] at w
      exact w
  have T9 : ∀ {G0 : aH} {sa : List Int32} {wl : List Int64}, y_fr h G0 [19584] [163] → y_J G0 → f_wc G0 v sa wl → aOK s_P X (d + 4) a_m199 9 [some (.ref 155), none, none, none, none, none] [] G0 C S K0 := by
    intro G0 sa wl e0 J0 hw
    refine w_go z_hl [] [189] 30 e0.1 ?_
    intro H hH
    have f : y_fr G0 H [] [] := y_st (y_rf e0.1) hH (by repeat (first | exact w_nil | refine w_cons (Or.inl (y_m rfl)) ?_ | refine w_cons (Or.inr (by assumption)) ?_)) (by repeat (first | exact w_nil | refine w_cons (Or.inl (y_m rfl)) ?_ | refine w_cons (Or.inr (by assumption)) ?_))
    refine r_now (f_wc_fr hw f rfl rfl rfl) (fun r H2 e3 r0 r8 rv => ⟨fun n e => (by cases e), ?_⟩)
    exact T13 e0 J0 hw (y_sq f e3 rfl rfl) rv
  refine w_go z_hl [] [188] 30 hr ?_
  refine ⟨rfl, y_zini (by decide) (by decide), fun H1 h1 => ?_⟩
  have e1 : y_fr h H1 [19584] [] := y_st (y_mo (y_rf hr) rfl rfl) h1 (by repeat (first | exact w_nil | refine w_cons (Or.inl (y_m rfl)) ?_ | refine w_cons (Or.inr (by assumption)) ?_)) (by repeat (first | exact w_nil | refine w_cons (Or.inl (y_m rfl)) ?_ | refine w_cons (Or.inr (by assumption)) ?_))
  refine r_up e1.1 (y_J_fr e1 rfl rfl hJ) (n_mS_V (n_fk_m e1 rfl) hm) (fun sa wl H2 e3 J3 hw => ⟨fun n e => (by cases e), ?_⟩)
  exact T9 (y_sq (y_mo e1 rfl rfl) e3 rfl rfl) J3 hw
end NLK
theorem n_c47 {X : aX} : n_pc X a_m47 0 false n_s47 := by
  intro us h v C S K0 hl _ hI hc hm hk
  match us, hl with
  | [], _ =>
    refine c_likely (d := 195) hI.1 hI.2.1 hc (n_toW hI.1 hI.2.1.1 hc hm) (fun H e => ?_)
    obtain ⟨r1, r2, r3⟩ := n_Qs_pc hI hc hm e
    exact hk H r1 r2 r3
theorem n_r199 {X : aX} : n_pr X a_m199 0 false n_s47 := by
  intro us h w v C S K0 hl _ hI hc hm hk
  match us, hl with
  | [], _ =>
    refine f_likely (d := 196) hI.1 hI.2.1.1 hm (fun H e qJ => ?_)
    exact hk H ⟨e.1, ⟨qJ, j_say_e e rfl rfl hI.2.1.2.1, j_cost_e e rfl rfl hI.2.1.2.2⟩, t_day_fr e rfl hI.2.2⟩ (n_cS_V (n_fk_c (ex := []) e rfl) hc) (n_mV_3 (n_mS_V (n_fk_m e rfl) hm))
end PT33hi
section PT33i
/-! ===== v5: methods that leave what is held alike (laid by wip/tools/mk33i.py) ===== -/
theorem n_a28 {X : aX} : n_toldI X 200 a_m28 2 1 false := n_ctxW (n := 1) (m := 0) (b := false) (fun v => z_x10_p n_Wv_p n_h9) rfl rfl rfl (by decide +kernel) (by decide +kernel) rfl rfl (by decide +kernel) (by decide +kernel) (by decide +kernel)
theorem n_a33 {X : aX} : n_toldI X 200 a_m33 2 1 false := n_ctxW (n := 1) (m := 0) (b := false) (fun v => z_x18_p n_Wv_p n_h9) rfl rfl rfl (by decide +kernel) (by decide +kernel) rfl rfl (by decide +kernel) (by decide +kernel) (by decide +kernel)
theorem n_a46 {X : aX} : n_toldI X 200 a_m46 2 1 false := n_ctxW (n := 1) (m := 2) (b := false) (fun v => z_x19_p n_Wv_p n_h9) rfl rfl rfl (by decide +kernel) (by decide +kernel) rfl rfl (by decide +kernel) (by decide +kernel) (by decide +kernel)
theorem n_a49 {X : aX} : n_toldI X 200 a_m49 2 2 false := n_ctxW (n := 2) (m := 0) (b := false) (fun v => z_x23_p n_Wv_p n_h9) rfl rfl rfl (by decide +kernel) (by decide +kernel) rfl rfl (by decide +kernel) (by decide +kernel) (by decide +kernel)
theorem n_a52 {X : aX} : n_toldI X 200 a_m52 2 1 false := n_ctxW (n := 1) (m := 3) (b := false) (fun v => z_x28_p n_Wv_p n_h9) rfl rfl rfl (by decide +kernel) (by decide +kernel) rfl rfl (by decide +kernel) (by decide +kernel) (by decide +kernel)
theorem n_a54 {X : aX} : n_toldI X 200 a_m54 2 2 false := n_ctxW (n := 2) (m := 0) (b := false) (fun v => z_x30_p n_Wv_p n_h9) rfl rfl rfl (by decide +kernel) (by decide +kernel) rfl rfl (by decide +kernel) (by decide +kernel) (by decide +kernel)
theorem n_a57 {X : aX} : n_told X 200 a_m57 2 2 false := n_ctx0 (n := 2) (m := 1) (b := false) (z_x31_s (y_jx_l y_JA_x)) rfl rfl rfl (by decide +kernel) (by decide +kernel) rfl rfl (by decide +kernel) (by decide +kernel) (by decide +kernel)
theorem n_a58 {X : aX} : n_toldI X 200 a_m58 2 1 false := n_ctxW (n := 1) (m := 2) (b := false) (fun v => z_x32_p n_Wv_p n_h9) rfl rfl rfl (by decide +kernel) (by decide +kernel) rfl rfl (by decide +kernel) (by decide +kernel) (by decide +kernel)
theorem n_a61 {X : aX} : n_told X 200 a_m61 2 3 false := n_ctx0 (n := 3) (m := 0) (b := false) (z_x35_s (y_jx_l y_JA_x)) rfl rfl rfl (by decide +kernel) (by decide +kernel) rfl rfl (by decide +kernel) (by decide +kernel) (by decide +kernel)
theorem n_a66 {X : aX} : n_toldI X 200 a_m66 2 3 false := n_ctxW (n := 3) (m := 3) (b := false) (fun v => z_x37_p n_Wv_p n_h9) rfl rfl rfl (by decide +kernel) (by decide +kernel) rfl rfl (by decide +kernel) (by decide +kernel) (by decide +kernel)
theorem n_a68 {X : aX} : n_toldI X 200 a_m68 2 1 false := n_ctxW (n := 1) (m := 2) (b := false) (fun v => z_x39_p n_Wv_p n_h9) rfl rfl rfl (by decide +kernel) (by decide +kernel) rfl rfl (by decide +kernel) (by decide +kernel) (by decide +kernel)
theorem n_a71 {X : aX} : n_toldI X 200 a_m71 2 1 false := n_ctxW (n := 1) (m := 6) (b := false) (fun v => z_x40_p n_Wv_p n_h9) rfl rfl rfl (by decide +kernel) (by decide +kernel) rfl rfl (by decide +kernel) (by decide +kernel) (by decide +kernel)
theorem n_a92 {X : aX} : n_toldI X 200 a_m92 2 1 false := n_ctxW (n := 1) (m := 0) (b := false) (fun v => z_x463_p n_Wv_p n_h9) rfl rfl rfl (by decide +kernel) (by decide +kernel) rfl rfl (by decide +kernel) (by decide +kernel) (by decide +kernel)
theorem n_a112 {X : aX} : n_toldI X 200 a_m112 2 2 false := n_ctxW (n := 2) (m := 1) (b := false) (fun v => z_x464_p n_Wv_p n_h9) rfl rfl rfl (by decide +kernel) (by decide +kernel) rfl rfl (by decide +kernel) (by decide +kernel) (by decide +kernel)
theorem n_a113 {X : aX} : n_toldI X 200 a_m113 2 2 false := n_ctxW (n := 2) (m := 0) (b := false) (fun v => z_x465_p n_Wv_p n_h9) rfl rfl rfl (by decide +kernel) (by decide +kernel) rfl rfl (by decide +kernel) (by decide +kernel) (by decide +kernel)
theorem n_a114 {X : aX} : n_toldI X 200 a_m114 2 1 false := n_ctxW (n := 1) (m := 3) (b := false) (fun v => z_x466_p n_Wv_p n_h9) rfl rfl rfl (by decide +kernel) (by decide +kernel) rfl rfl (by decide +kernel) (by decide +kernel) (by decide +kernel)
theorem n_a115 {X : aX} : n_told X 200 a_m115 2 4 false := n_ctx0 (n := 4) (m := 1) (b := false) (z_x469_s (y_jx_l y_JA_x)) rfl rfl rfl (by decide +kernel) (by decide +kernel) rfl rfl (by decide +kernel) (by decide +kernel) (by decide +kernel)
theorem n_a128 {X : aX} : n_toldI X 200 a_m128 2 2 false := n_ctxW (n := 2) (m := 1) (b := false) (fun v => z_x491_p n_Wv_p n_h9) rfl rfl rfl (by decide +kernel) (by decide +kernel) rfl rfl (by decide +kernel) (by decide +kernel) (by decide +kernel)
theorem n_a137 {X : aX} : n_toldI X 200 a_m137 2 2 false := n_ctxW (n := 2) (m := 4) (b := false) (fun v => z_x493_p n_Wv_p n_h9) rfl rfl rfl (by decide +kernel) (by decide +kernel) rfl rfl (by decide +kernel) (by decide +kernel) (by decide +kernel)
theorem n_a139 {X : aX} : n_toldI X 200 a_m139 2 2 false := n_ctxW (n := 2) (m := 5) (b := false) (fun v => z_x496_p n_Wv_p n_h9) rfl rfl rfl (by decide +kernel) (by decide +kernel) rfl rfl (by decide +kernel) (by decide +kernel) (by decide +kernel)
theorem n_a143 {X : aX} : n_told X 200 a_m143 2 4 false := n_ctx0 (n := 4) (m := 0) (b := false) (z_x497_s (y_jx_l y_JA_x)) rfl rfl rfl (by decide +kernel) (by decide +kernel) rfl rfl (by decide +kernel) (by decide +kernel) (by decide +kernel)
theorem n_a145 {X : aX} : n_told X 200 a_m145 2 2 false := n_ctx0 (n := 2) (m := 3) (b := false) (z_x498_s (y_jx_l y_JA_x)) rfl rfl rfl (by decide +kernel) (by decide +kernel) rfl rfl (by decide +kernel) (by decide +kernel) (by decide +kernel)
theorem n_a146 {X : aX} : n_toldI X 200 a_m146 2 3 false := n_ctxW (n := 3) (m := 9) (b := false) (fun v => z_x500_p n_Wv_p n_h9) rfl rfl rfl (by decide +kernel) (by decide +kernel) rfl rfl (by decide +kernel) (by decide +kernel) (by decide +kernel)
theorem n_a149 {X : aX} : n_told X 200 a_m149 2 5 false := n_ctx0 (n := 5) (m := 2) (b := false) (z_x501_s (y_jx_l y_JA_x)) rfl rfl rfl (by decide +kernel) (by decide +kernel) rfl rfl (by decide +kernel) (by decide +kernel) (by decide +kernel)
theorem n_a153 {X : aX} : n_told X 200 a_m153 2 2 false := n_ctx0 (n := 2) (m := 0) (b := false) (z_x502_s (y_jx_l y_JA_x)) rfl rfl rfl (by decide +kernel) (by decide +kernel) rfl rfl (by decide +kernel) (by decide +kernel) (by decide +kernel)
theorem n_a156 {X : aX} : n_told X 200 a_m156 2 2 false := n_ctx0 (n := 2) (m := 3) (b := false) (z_x503_s (y_jx_l y_JA_x)) rfl rfl rfl (by decide +kernel) (by decide +kernel) rfl rfl (by decide +kernel) (by decide +kernel) (by decide +kernel)
theorem n_a159 {X : aX} : n_told X 200 a_m159 2 1 false := n_ctx0 (n := 1) (m := 2) (b := false) (z_x507_s (y_jx_l y_JA_x)) rfl rfl rfl (by decide +kernel) (by decide +kernel) rfl rfl (by decide +kernel) (by decide +kernel) (by decide +kernel)
theorem n_a162 {X : aX} : n_told X 200 a_m162 2 1 false := n_ctx0 (n := 1) (m := 5) (b := false) (z_x508_s (y_jx_l y_JA_x)) rfl rfl rfl (by decide +kernel) (by decide +kernel) rfl rfl (by decide +kernel) (by decide +kernel) (by decide +kernel)
theorem n_a168 {X : aX} : n_told X 200 a_m168 2 1 false := n_ctx0 (n := 1) (m := 0) (b := false) (z_x511_s (y_jx_l y_JA_x)) rfl rfl rfl (by decide +kernel) (by decide +kernel) rfl rfl (by decide +kernel) (by decide +kernel) (by decide +kernel)
theorem n_a183 {X : aX} : n_told X 200 a_m183 155 1 false := by
  intro us h C S K0 hl hb hI hk
  obtain ⟨hr, ⟨hJ, hS, hC⟩, hday⟩ := hI
  match us, hl with
  | [u0], _ => exact p_weight hr hJ (fun r H hf => hk r H ⟨hf.1, ⟨(y_J_fr hf rfl rfl hJ), (j_say_e hf rfl rfl hS), (j_cost_e hf rfl rfl hC)⟩, t_day_fr hf rfl hday⟩ (n_fk_c (ex := []) hf rfl) (n_fk_m hf rfl))
theorem n_a187 {X : aX} : n_told X 200 a_m187 155 1 false := by
  intro us h C S K0 hl hb hI hk
  obtain ⟨hr, ⟨hJ, hS, hC⟩, hday⟩ := hI
  match us, hl with
  | [u0], _ => exact p_chance hr hJ (fun r H hf q0 => hk r H ⟨hf.1, ⟨q0, (j_say_e hf rfl rfl hS), (j_cost_e hf rfl rfl hC)⟩, t_day_fr hf rfl hday⟩ (n_fk_c (ex := []) hf rfl) (n_fk_m hf rfl))
theorem n_a198 {X : aX} : n_told X 200 a_m198 155 1 false := by
  intro us h C S K0 hl hb hI hk
  obtain ⟨hr, ⟨hJ, hS, hC⟩, hday⟩ := hI
  match us, hl with
  | [u0], _ => exact p_odds hr hJ (fun r H hf q0 => hk r H ⟨hf.1, ⟨q0, (j_say_e hf rfl rfl hS), (j_cost_e hf rfl rfl hC)⟩, t_day_fr hf rfl hday⟩ (n_fk_c (ex := []) hf rfl) (n_fk_m hf rfl))
theorem n_a200 {X : aX} : n_told X 200 a_m200 155 2 false := by
  intro us h C S K0 hl hb hI hk
  obtain ⟨hr, ⟨hJ, hS, hC⟩, hday⟩ := hI
  match us, hl with
  | [u0, u1], _ => exact p_moves hr hJ (fun r H hf q0 => hk r H ⟨hf.1, ⟨q0, (j_say_e hf rfl rfl hS), (j_cost_e hf rfl rfl hC)⟩, t_day_fr hf rfl hday⟩ (n_fk_c (ex := []) hf rfl) (n_fk_m hf rfl))
theorem n_a202 {X : aX} : n_told X 200 a_m202 155 1 false := by
  intro us h C S K0 hl hb hI hk
  obtain ⟨hr, ⟨hJ, hS, hC⟩, hday⟩ := hI
  match us, hl with
  | [u0], _ => exact p_most hr hJ (fun r H hf q0 => hk r H ⟨hf.1, ⟨q0, (j_say_e hf rfl rfl hS), (j_cost_e hf rfl rfl hC)⟩, t_day_fr hf rfl hday⟩ (n_fk_c (ex := []) hf rfl) (n_fk_m hf rfl))
theorem n_a204 {X : aX} : n_told X 200 a_m204 155 2 false := by
  intro us h C S K0 hl hb hI hk
  obtain ⟨hr, ⟨hJ, hS, hC⟩, hday⟩ := hI
  match us, hl with
  | [u0, u1], _ => exact p_worth hr hJ (fun r H hf q0 => hk r H ⟨hf.1, ⟨q0, (j_say_e hf rfl rfl hS), (j_cost_e hf rfl rfl hC)⟩, t_day_fr hf rfl hday⟩ (n_fk_c (ex := []) hf rfl) (n_fk_m hf rfl))
theorem n_a206 {X : aX} : n_told X 200 a_m206 155 2 false := by
  intro us h C S K0 hl hb hI hk
  obtain ⟨hr, ⟨hJ, hS, hC⟩, hday⟩ := hI
  match us, hl with
  | [u0, u1], _ => exact p_cost hr hJ hC (fun r H hf q0 => hk r H ⟨hf.1, ⟨(t_J161 hf hJ), (j_say_e hf rfl rfl hS), q0⟩, t_day_fr hf rfl hday⟩ (n_fk_c (ex := []) hf rfl) (n_fk_m hf rfl))
theorem n_a207 {X : aX} : n_told X 200 a_m207 155 1 false := by
  intro us h C S K0 hl hb hI hk
  obtain ⟨hr, ⟨hJ, hS, hC⟩, hday⟩ := hI
  match us, hl with
  | [u0], _ => exact p_need hr hJ hC (fun r H hf q0 => hk r H ⟨hf.1, ⟨q0, (j_say_e hf rfl rfl hS), (j_cost_e hf rfl rfl hC)⟩, t_day_fr hf rfl hday⟩ (n_fk_c (ex := []) hf rfl) (n_fk_m hf rfl))
theorem n_a208 {X : aX} : n_told X 200 a_m208 155 3 false := by
  intro us h C S K0 hl hb hI hk
  obtain ⟨hr, ⟨hJ, hS, hC⟩, hday⟩ := hI
  match us, hl with
  | [u0, u1, u2], _ => exact p_apart hr hJ (fun r H hf q0 => hk r H ⟨hf.1, ⟨q0, (j_say_e hf rfl rfl hS), (j_cost_e hf rfl rfl hC)⟩, t_day_fr hf rfl hday⟩ (n_fk_c (ex := []) hf rfl) (n_fk_m hf rfl))
theorem n_a213 {X : aX} : n_told X 200 a_m213 155 3 false := by
  intro us h C S K0 hl hb hI hk
  obtain ⟨hr, ⟨hJ, hS, hC⟩, hday⟩ := hI
  match us, hl with
  | [u0, u1, u2], _ => exact p_even hr hJ (fun r H hf q0 => hk r H ⟨hf.1, ⟨q0, (j_say_e hf rfl rfl hS), (j_cost_e hf rfl rfl hC)⟩, t_day_fr hf rfl hday⟩ (n_fk_c (ex := []) hf rfl) (n_fk_m hf rfl))
theorem n_a214 {X : aX} : n_told X 200 a_m214 155 1 false := by
  intro us h C S K0 hl hb hI hk
  obtain ⟨hr, ⟨hJ, hS, hC⟩, hday⟩ := hI
  match us, hl with
  | [u0], _ => exact p_joined hr hJ (fun r H hf q0 => hk r H ⟨hf.1, ⟨q0, (j_say_e hf rfl rfl hS), (j_cost_e hf rfl rfl hC)⟩, t_day_fr hf rfl hday⟩ (n_fk_c (ex := []) hf rfl) (n_fk_m hf rfl))
theorem n_a217 {X : aX} : n_told X 200 a_m217 155 1 false := by
  intro us h C S K0 hl hb hI hk
  obtain ⟨hr, ⟨hJ, hS, hC⟩, hday⟩ := hI
  match us, hl with
  | [u0], _ => exact p_bounds hr hJ (fun r H hf q0 => hk r H ⟨hf.1, ⟨q0, (j_say_e hf rfl rfl hS), (j_cost_e hf rfl rfl hC)⟩, t_day_fr hf rfl hday⟩ (n_fk_c (ex := []) hf rfl) (n_fk_m hf rfl))
theorem n_a233 {X : aX} : n_told X 200 a_m233 155 1 false := by
  intro us h C S K0 hl hb hI hk
  obtain ⟨hr, ⟨hJ, hS, hC⟩, hday⟩ := hI
  match us, hl with
  | [u0], _ => exact p_so hr hJ hS (fun r H hf q0 q1 => hk r H ⟨hf.1, ⟨q0, q1, (j_cost_e hf rfl rfl hC)⟩, t_day_fr hf rfl hday⟩ (n_fk_c (ex := []) hf rfl) (n_fk_m hf rfl))
theorem n_a246 {X : aX} : n_told X 200 a_m246 155 2 false := by
  intro us h C S K0 hl hb hI hk
  obtain ⟨hr, ⟨hJ, hS, hC⟩, hday⟩ := hI
  match us, hl with
  | [u0, u1], _ => exact p_term hr hJ hS (fun r H hf q0 q1 => hk r H ⟨hf.1, ⟨q0, q1, (j_cost_e hf rfl rfl hC)⟩, t_day_fr hf rfl hday⟩ (n_fk_c (ex := []) hf rfl) (n_fk_m hf rfl))
theorem n_a247 {X : aX} : n_told X 200 a_m247 155 2 false := by
  intro us h C S K0 hl hb hI hk
  obtain ⟨hr, ⟨hJ, hS, hC⟩, hday⟩ := hI
  match us, hl with
  | [u0, u1], _ => exact p_slip hr hJ hS (fun r H hf q0 q1 => hk r H ⟨hf.1, ⟨q0, q1, (j_cost_e hf rfl rfl hC)⟩, t_day_fr hf rfl hday⟩ (n_fk_c (ex := []) hf rfl) (n_fk_m hf rfl))
theorem n_a248 {X : aX} : n_told X 200 a_m248 155 1 false := by
  intro us h C S K0 hl hb hI hk
  obtain ⟨hr, ⟨hJ, hS, hC⟩, hday⟩ := hI
  match us, hl with
  | [u0], _ => exact p_which hr hJ hS (fun r H hf q0 q1 => hk r H ⟨hf.1, ⟨q0, q1, (j_cost_e hf rfl rfl hC)⟩, t_day_fr hf rfl hday⟩ (n_fk_c (ex := []) hf rfl) (n_fk_m hf rfl))
theorem n_a249 {X : aX} : n_told X 200 a_m249 155 4 false := by
  intro us h C S K0 hl hb hI hk
  obtain ⟨hr, ⟨hJ, hS, hC⟩, hday⟩ := hI
  match us, hl with
  | [u0, u1, u2, u3], _ => exact p_span hr hJ (fun r H hf q0 => hk r H ⟨hf.1, ⟨q0, (j_say_e hf rfl rfl hS), (j_cost_e hf rfl rfl hC)⟩, t_day_fr hf rfl hday⟩ (n_fk_c (ex := []) hf rfl) (n_fk_m hf rfl))
theorem n_a256 {X : aX} : n_told X 200 a_m256 155 2 false := by
  intro us h C S K0 hl hb hI hk
  obtain ⟨hr, ⟨hJ, hS, hC⟩, hday⟩ := hI
  match us, hl with
  | [u0, u1], _ => exact p_hear hr hJ (fun r H hf q0 => hk r H ⟨hf.1, ⟨q0, (j_say_e hf rfl rfl hS), (j_cost_e hf rfl rfl hC)⟩, t_day_fr hf rfl hday⟩ (n_fk_c (ex := []) hf rfl) (n_fk_m hf rfl))
theorem n_a262 {X : aX} : n_told X 200 a_m262 155 2 false := by
  intro us h C S K0 hl hb hI hk
  obtain ⟨hr, ⟨hJ, hS, hC⟩, hday⟩ := hI
  match us, hl with
  | [u0, u1], _ => exact p_errs hr hJ (fun r H hf q0 => hk r H ⟨hf.1, ⟨q0, (j_say_e hf rfl rfl hS), (j_cost_e hf rfl rfl hC)⟩, t_day_fr hf rfl hday⟩ (n_fk_c (ex := []) hf rfl) (n_fk_m hf rfl))
theorem n_a263 {X : aX} : n_told X 200 a_m263 155 2 false := by
  intro us h C S K0 hl hb hI hk
  obtain ⟨hr, ⟨hJ, hS, hC⟩, hday⟩ := hI
  match us, hl with
  | [u0, u1], _ => exact p_order hr hJ (fun r H hf q0 => hk r H ⟨hf.1, ⟨q0, (j_say_e hf rfl rfl hS), (j_cost_e hf rfl rfl hC)⟩, t_day_fr hf rfl hday⟩ (n_fk_c (ex := []) hf rfl) (n_fk_m hf rfl))
theorem n_a265 {X : aX} : n_told X 200 a_m265 155 4 false := by
  intro us h C S K0 hl hb hI hk
  obtain ⟨hr, ⟨hJ, hS, hC⟩, hday⟩ := hI
  match us, hl with
  | [u0, u1, u2, u3], _ => exact p_list hr (fun r H hf => hk r H ⟨hf.1, ⟨(y_J_fr hf rfl rfl hJ), (j_say_e hf rfl rfl hS), (j_cost_e hf rfl rfl hC)⟩, t_day_fr hf rfl hday⟩ (n_fk_c (ex := []) hf rfl) (n_fk_m hf rfl))
theorem n_a267 {X : aX} : n_told X 200 a_m267 155 2 false := by
  intro us h C S K0 hl hb hI hk
  obtain ⟨hr, ⟨hJ, hS, hC⟩, hday⟩ := hI
  match us, hl with
  | [u0, u1], _ => exact p_many hr (fun H hf => hk _ H ⟨hf.1, ⟨(y_J_fr hf rfl rfl hJ), (j_say_e hf rfl rfl hS), (j_cost_e hf rfl rfl hC)⟩, t_day_fr hf rfl hday⟩ (n_fk_c (ex := []) hf rfl) (n_fk_m hf rfl))
theorem n_a268 {X : aX} : n_told X 200 a_m268 155 3 false := by
  intro us h C S K0 hl hb hI hk
  obtain ⟨hr, ⟨hJ, hS, hC⟩, hday⟩ := hI
  match us, hl with
  | [u0, u1, u2], _ => exact p_test hr hJ (fun r H hf q0 => hk r H ⟨hf.1, ⟨q0, (j_say_e hf rfl rfl hS), (j_cost_e hf rfl rfl hC)⟩, t_day_fr hf rfl hday⟩ (n_fk_c (ex := []) hf rfl) (n_fk_m hf rfl))
theorem n_a270 {X : aX} : n_told X 200 a_m270 155 5 false := by
  intro us h C S K0 hl hb hI hk
  obtain ⟨hr, ⟨hJ, hS, hC⟩, hday⟩ := hI
  match us, hl with
  | [u0, u1, u2, u3, u4], _ => exact p_land hr hJ (fun r H hf q0 => hk r H ⟨hf.1, ⟨q0, (j_say_e hf rfl rfl hS), (j_cost_e hf rfl rfl hC)⟩, t_day_fr hf rfl hday⟩ (n_fk_c (ex := []) hf rfl) (n_fk_m hf rfl))
theorem n_a271 {X : aX} : n_told X 200 a_m271 155 2 false := by
  intro us h C S K0 hl hb hI hk
  obtain ⟨hr, ⟨hJ, hS, hC⟩, hday⟩ := hI
  match us, hl with
  | [u0, u1], _ => exact p_mark hr hJ (fun r H hf q0 => hk r H ⟨hf.1, ⟨q0, (j_say_e hf rfl rfl hS), (j_cost_e hf rfl rfl hC)⟩, t_day_fr hf rfl hday⟩ (n_fk_c (ex := []) hf rfl) (n_fk_m hf rfl))
theorem n_a272 {X : aX} : n_told X 200 a_m272 155 2 false := by
  intro us h C S K0 hl hb hI hk
  obtain ⟨hr, ⟨hJ, hS, hC⟩, hday⟩ := hI
  match us, hl with
  | [u0, u1], _ => exact p_rare hr hJ (fun r H hf => hk r H ⟨hf.1, ⟨(y_J_fr hf rfl rfl hJ), (j_say_e hf rfl rfl hS), (j_cost_e hf rfl rfl hC)⟩, t_day_fr hf rfl hday⟩ (n_fk_c (ex := []) hf rfl) (n_fk_m hf rfl))
theorem n_a274 {X : aX} : n_told X 200 a_m274 155 1 false := by
  intro us h C S K0 hl hb hI hk
  obtain ⟨hr, ⟨hJ, hS, hC⟩, hday⟩ := hI
  match us, hl with
  | [u0], _ => exact p_shifts hr (fun r H hf => hk r H ⟨hf.1, ⟨(y_J_fr hf rfl rfl hJ), (j_say_e hf rfl rfl hS), (j_cost_e hf rfl rfl hC)⟩, t_day_fr hf rfl hday⟩ (n_fk_c (ex := []) hf rfl) (n_fk_m hf rfl))
theorem n_a278 {X : aX} : n_told X 200 a_m278 155 1 false := by
  intro us h C S K0 hl hb hI hk
  obtain ⟨hr, ⟨hJ, hS, hC⟩, hday⟩ := hI
  match us, hl with
  | [u0], _ => exact p_enough hr (fun r H hf => hk r H ⟨hf.1, ⟨(y_J_fr hf rfl rfl hJ), (j_say_e hf rfl rfl hS), (j_cost_e hf rfl rfl hC)⟩, t_day_fr hf rfl hday⟩ (n_fk_c (ex := []) hf rfl) (n_fk_m hf rfl))
theorem n_a281 {X : aX} : n_told X 200 a_m281 155 1 false := by
  intro us h C S K0 hl hb hI hk
  obtain ⟨hr, ⟨hJ, hS, hC⟩, hday⟩ := hI
  match us, hl with
  | [u0], _ => exact p_count hr hJ (fun r H hf => hk r H ⟨hf.1, ⟨(y_J_fr hf rfl rfl hJ), (j_say_e hf rfl rfl hS), (j_cost_e hf rfl rfl hC)⟩, t_day_fr hf rfl hday⟩ (n_fk_c (ex := []) hf rfl) (n_fk_m hf rfl))
theorem n_a283 {X : aX} : n_told X 200 a_m283 155 2 false := by
  intro us h C S K0 hl hb hI hk
  obtain ⟨hr, ⟨hJ, hS, hC⟩, hday⟩ := hI
  match us, hl with
  | [u0, u1], _ => exact p_of hr hJ (fun r H hf => hk r H ⟨hf.1, ⟨(y_J_fr hf rfl rfl hJ), (j_say_e hf rfl rfl hS), (j_cost_e hf rfl rfl hC)⟩, t_day_fr hf rfl hday⟩ (n_fk_c (ex := []) hf rfl) (n_fk_m hf rfl))
theorem n_a287 {X : aX} : n_toldL X 200 a_m287 155 1 false := by
  intro us h C S K0 hl hb hI hk
  obtain ⟨hr, ⟨hJ, hS, hC⟩, hday⟩ := hI
  match us, hl with
  | [u0], _ => exact p_row hr (fun r H hf => hk r H ⟨hf.1, ⟨(y_J_fr hf rfl rfl hJ), (j_say_e hf rfl rfl hS), (j_cost_e hf rfl rfl hC)⟩, t_day_fr hf rfl hday⟩ (n_fk_c (ex := []) hf rfl) (n_fk_m hf rfl))
theorem n_I_out {h H : aH} (e : y_fr h H [] [195]) (q : n_I h) : n_I H := n_same_I (n_fk_c (ex := []) e rfl) (n_fk_m e rfl) (t_I_out e q.1) q
theorem n_I_app {H l : aH} (q : n_I H) : n_I (H ++ l) := by
  have hr := q.1.1
  have hlen : 195 < H.length := by
    obtain ⟨e, h1, -⟩ := hr.1 195 _ rfl
    exact (List.getElem?_eq_some_iff.mp h1).1
  have hg : ∀ o, o < 196 → (H ++ l)[o]? = H[o]? := fun o ho => List.getElem?_append_left (by omega)
  have hf : ∀ k, k < 196 * 128 → w_f (H ++ l) k = w_f H k := by
    intro k hk
    unfold w_f
    rw [hg _ (by omega)]
  have ha : ∀ o, o < 196 → w_a (H ++ l) o = w_a H o := by
    intro o ho
    unfold w_a
    rw [hg _ ho]
  refine n_same_I ⟨fun k hk => hf k ?_, fun o ho => ha o ?_⟩ ⟨fun p hp => hf p.2 ?_, fun o ho => ha o ?_, hf 19600 (by decide)⟩ (t_I_app q.1) q
  · have : ∀ k ∈ nC, k < 196 * 128 := by decide
    exact this k hk
  · have : ∀ o ∈ nCA, o < 196 := by decide
    exact this o ho
  · have : ∀ p ∈ nM, p.2 < 196 * 128 := by decide
    exact this p hp
  · have : ∀ o ∈ nMA, o < 196 := by decide
    exact this o ho
theorem n_S169 {X : aX} : n_S X n_I 169 2 := by
  refine ⟨a_m169, rfl, rfl, rfl, fun us h C S K0 hl hI hk => ?_⟩
  match us, hl with
  | [a, b], _ =>
    have T8 : ∀ {G : aH} {r : Int32}, y_fr h G [] [] → aOK s_P X 201 a_m169 8 [some (.ref 2), some (.int a), some (.int b), some (.ref 197), none] [.int r, .int (Int32.ofInt 0), .ref 197] G C S K0 := by
      intro G r e
      refine w_go z_hl [] [] 30 e.1 ?_
      exact ⟨⟨by decide, by decide⟩, y_l64 _, fun l hl len bb => fun H hH => hk _ H C S (n_I_out (y_st (y_mo e rfl rfl) hH (by repeat (first | exact w_nil | refine w_cons (Or.inl (y_m rfl)) ?_ | refine w_cons (Or.inr (by assumption)) ?_)) (by repeat (first | exact w_nil | refine w_cons (Or.inl (y_m rfl)) ?_ | refine w_cons (Or.inr (by assumption)) ?_))) hI) (by omega) (by omega)⟩
    show aOK s_P X 201 a_m169 0 [some (.ref 2), some (.int a), some (.int b), some (.ref 197), none] [] h C S K0
    refine aOK_op rfl rfl ?_
    refine aOK_op rfl rfl ?_
    refine aOK_op rfl rfl ?_
    refine aOK_op rfl rfl ?_
    refine aOK_op rfl rfl ?_
    have hinv : a_inv s_P (.invokevirtual 7) (18, 170, 11, 1305159) [.int b, .int a, .ref 2, .int (Int32.ofInt 0), .ref 197] h = some (a_m170, [.ref 2, .int a, .int b], [.int (Int32.ofInt 0), .ref 197]) := by
      have hrc := l_recv hI.1.1 (r0 := 2) (ci := 11) rfl
      show (if a_recv h (.ref 2) 11 = true ∧ _ ∧ _ then some _ else none) = _
      rw [if_pos ⟨hrc, Nat.le_of_ble_eq_true rfl, Nat.le_of_ble_eq_true rfl⟩]
      rfl
    refine aOK_call rfl (by cases X <;> rfl) rfl hinv ?_
    show aOK s_P X (198 + 2) a_m170 0 [some (.ref 2), some (.int a), some (.int b)] [] h C S _
    refine c_of hI.1.1 (fun r H e => Or.inr ⟨fun n q => (by cases q), ?_⟩) (fun H e => Or.inl ⟨⟨0, rfl⟩, rfl, hk _ _ _ _ (n_I_app (n_I_out (y_mo e rfl rfl) hI)) (by omega) (by omega)⟩)
    exact T8 e
theorem n_S171 {X : aX} : n_S X n_I 171 1 := by
  refine ⟨a_m171, rfl, rfl, rfl, fun us h C S K0 hl hI hk => ?_⟩
  match us, hl with
  | [a], _ =>
    have T7 : ∀ {G : aH} {r : Int64}, y_fr h G [] [] → aOK s_P X 201 a_m171 7 [some (.ref 2), some (.int a), some (.ref 197), none] [.long r, .int (Int32.ofInt 0), .ref 197] G C S K0 := by
      intro G r e
      refine w_go z_hl [] [] 30 e.1 ?_
      exact ⟨⟨by decide, by decide⟩, y_l64 _, fun l hl len bb => fun H hH => hk _ H C S (n_I_out (y_st (y_mo e rfl rfl) hH (by repeat (first | exact w_nil | refine w_cons (Or.inl (y_m rfl)) ?_ | refine w_cons (Or.inr (by assumption)) ?_)) (by repeat (first | exact w_nil | refine w_cons (Or.inl (y_m rfl)) ?_ | refine w_cons (Or.inr (by assumption)) ?_))) hI) (by omega) (by omega)⟩
    show aOK s_P X 201 a_m171 0 [some (.ref 2), some (.int a), some (.ref 197), none] [] h C S K0
    refine aOK_op rfl rfl ?_
    refine aOK_op rfl rfl ?_
    refine aOK_op rfl rfl ?_
    refine aOK_op rfl rfl ?_
    have hinv : a_inv s_P (.invokevirtual 15) (18, 172, 11, 1105233) [.int a, .ref 2, .int (Int32.ofInt 0), .ref 197] h = some (a_m172, [.ref 2, .int a], [.int (Int32.ofInt 0), .ref 197]) := by
      have hrc := l_recv hI.1.1 (r0 := 2) (ci := 11) rfl
      show (if a_recv h (.ref 2) 11 = true ∧ _ ∧ _ then some _ else none) = _
      rw [if_pos ⟨hrc, Nat.le_of_ble_eq_true rfl, Nat.le_of_ble_eq_true rfl⟩]
      rfl
    refine aOK_call rfl (by cases X <;> rfl) rfl hinv ?_
    show aOK s_P X 200 a_m172 0 [some (.ref 2), some (.int a)] [] h C S _
    refine c_row hI.1.1 (fun r H e => Or.inr ⟨fun n q => (by cases q), ?_⟩) (fun H e => Or.inl ⟨⟨0, rfl⟩, rfl, hk _ _ _ _ (n_I_app (n_I_out (y_mo e rfl rfl) hI)) (by omega) (by omega)⟩)
    exact T7 e
noncomputable def n_st (j : Nat) (us : List Int32) (v : Nat → Int32) : (Nat → Int32) × Int32 := if j = 47 then n_s47 us v else if j = 17 then n_s17 us v else if j = 12 then n_s12 us v else if j = 21 then n_s21 us v else if j = 24 then n_s24 us v else if j = 74 then n_s74 us v else if j = 76 then n_s76 us v else if j = 77 then n_s77 us v else if j = 127 then n_s127 us v else if j = 157 then n_s157 us v else if j = 159 then n_s159 us v else if j = 163 then n_s163 us v else n_s165 us v
def n_Md (j : Nat) (us : List Int32) (g : Int32) (H : aH) : Prop := t_I H ∧ ∃ v, n_cV H (n_st j us v).1 ∧ n_mV H v ∧ (j ≠ 77 → g = (n_st j us v).2)
section NL
variable {X : aX} {j n ty kd pr : Nat} {b : Bool} {M : aM}
theorem n_of1 {r0 : Nat} (h : n_told X 200 M r0 n b) (hM : s_P[j]? = some M) (ha : M.2.2.2.2.1 = n) (hl : Nat.ble (n + 1) M.2.2.1 = true) : n_G X n_I n_Md (j, r0, n, b, 1, 0, 0) :=
  ⟨M, hM, ha, hl, fun us h0 C S K0 h1 h2 h3 => h us h0 C S K0 h1 h2 h3.1.1 (fun x H hI c m => h3.2 _ H (n_same_I c m hI h3.1) (Or.inr ⟨(show (1 : Nat) ≠ 2 by decide), x, rfl⟩))⟩
theorem n_of1I {r0 : Nat} (h : n_toldI X 200 M r0 n b) (hM : s_P[j]? = some M) (ha : M.2.2.2.2.1 = n) (hl : Nat.ble (n + 1) M.2.2.1 = true) : n_G X n_I n_Md (j, r0, n, b, 1, 0, 0) :=
  ⟨M, hM, ha, hl, fun us h0 C S K0 h1 h2 h3 => h us h0 C S K0 h1 h2 h3.1 (fun x H hI => h3.2 _ H hI (Or.inr ⟨(show (1 : Nat) ≠ 2 by decide), x, rfl⟩))⟩
theorem n_of2 {r0 : Nat} (h : n_toldL X 200 M r0 n b) (hM : s_P[j]? = some M) (ha : M.2.2.2.2.1 = n) (hl : Nat.ble (n + 1) M.2.2.1 = true) : n_G X n_I n_Md (j, r0, n, b, 2, 0, 0) :=
  ⟨M, hM, ha, hl, fun us h0 C S K0 h1 h2 h3 => h us h0 C S K0 h1 h2 h3.1.1 (fun x H hI c m => h3.2 _ H (n_same_I c m hI h3.1) (Or.inl ⟨rfl, x, rfl⟩))⟩
theorem n_ofc (h : n_pc X M n b (n_st j)) (hM : s_P[j]? = some M) (ha : M.2.2.2.2.1 = n) (hl : Nat.ble (n + 1) M.2.2.1 = true) : n_G X n_I n_Md (j, 2, n, b, ty, 1, 0) :=
  ⟨M, hM, ha, hl, fun us h0 C S K0 h1 h2 h3 => by
    obtain ⟨⟨hI, v, c, m⟩, hk⟩ := h3
    exact h us h0 v C S K0 h1 h2 hI c m (fun H i1 c1 m1 => hk _ H ⟨i1, v, c1, m1, fun _ => rfl⟩)⟩
theorem n_ofr {j' : Nat} (hj : j ≠ 77) (h : n_pr X M n b (n_st j)) (hM : s_P[j']? = some M) (ha : M.2.2.2.2.1 = n) (hl : Nat.ble (n + 1) M.2.2.1 = true) : n_G X n_I n_Md (j', 155, n, b, ty, 2, j) :=
  ⟨M, hM, ha, hl, fun us h0 C S K0 h1 h2 h3 => by
    obtain ⟨g, ⟨hI, v, c, m, hg⟩, hk⟩ := h3
    exact h us h0 _ v C S K0 h1 h2 hI c m (fun H i1 c1 m1 => hk _ H ⟨i1, _, c1, m1⟩ (fun _ => (hg hj).symm))⟩
theorem n_ofcS (h : n_pcS X M n b n_s77) (hM : s_P[77]? = some M) (ha : M.2.2.2.2.1 = n) (hl : Nat.ble (n + 1) M.2.2.1 = true) : n_G X n_I n_Md (77, 2, n, b, 1, 1, 0) :=
  ⟨M, hM, ha, hl, fun us h0 C S K0 h1 h2 h3 => by
    obtain ⟨⟨hI, v, c, m⟩, hk⟩ := h3
    exact h us h0 v C S K0 h1 h2 hI c m (fun x H i1 c1 m1 => hk x H ⟨i1, v, c1, m1, fun q => absurd rfl q⟩)⟩
theorem n_ofrS {j' : Nat} (h : n_prS X M n b n_s77) (hM : s_P[j']? = some M) (ha : M.2.2.2.2.1 = n) (hl : Nat.ble (n + 1) M.2.2.1 = true) : n_G X n_I n_Md (j', 155, n, b, 1, 2, 77) :=
  ⟨M, hM, ha, hl, fun us h0 C S K0 h1 h2 h3 => by
    obtain ⟨g, ⟨hI, v, c, m, -⟩, hk⟩ := h3
    exact h us h0 _ v C S K0 h1 h2 hI c m (fun x H i1 c1 m1 => hk x H ⟨i1, _, c1, m1⟩ (fun q => absurd (show (1 : Nat) = 3 from q) (by decide)))⟩
end NL
end PT33i
section PT33j
/-! ===== v5: the law of p9: its loop (laid by wip/tools/mkloop5.py) ===== -/
def n_tb : nT := [(12, 2, 2, false, 1, 1, 0), (17, 2, 3, false, 1, 1, 0), (21, 2, 2, false, 1, 1, 0), (24, 2, 2, false, 1, 1, 0), (28, 2, 1, false, 1, 0, 0), (33, 2, 1, false, 1, 0, 0), (46, 2, 1, false, 1, 0, 0), (47, 2, 0, false, 3, 1, 0), (49, 2, 2, false, 1, 0, 0), (52, 2, 1, false, 1, 0, 0), (54, 2, 2, false, 1, 0, 0), (57, 2, 2, false, 1, 0, 0), (58, 2, 1, false, 1, 0, 0), (61, 2, 3, false, 1, 0, 0), (66, 2, 3, false, 1, 0, 0), (68, 2, 1, false, 1, 0, 0), (71, 2, 1, false, 1, 0, 0), (74, 2, 1, false, 1, 1, 0), (76, 2, 1, false, 1, 1, 0), (77, 2, 0, false, 1, 1, 0), (92, 2, 1, false, 1, 0, 0), (112, 2, 2, false, 1, 0, 0), (113, 2, 2, false, 1, 0, 0), (114, 2, 1, false, 1, 0, 0), (115, 2, 4, false, 1, 0, 0), (119, 2, 2, false, 1, 0, 0), (125, 2, 1, false, 1, 0, 0), (127, 2, 2, false, 1, 1, 0), (128, 2, 2, false, 1, 0, 0), (137, 2, 2, false, 1, 0, 0), (139, 2, 2, false, 1, 0, 0), (143, 2, 4, false, 1, 0, 0), (145, 2, 2, false, 1, 0, 0), (146, 2, 3, false, 1, 0, 0), (149, 2, 5, false, 1, 0, 0), (153, 2, 2, false, 1, 0, 0), (156, 2, 2, false, 1, 0, 0), (157, 2, 3, true, 1, 1, 0), (159, 2, 1, false, 1, 0, 0), (162, 2, 1, false, 1, 0, 0), (163, 2, 1, false, 1, 1, 0), (165, 2, 1, false, 1, 1, 0), (168, 2, 1, false, 1, 0, 0), (173, 155, 2, false, 1, 2, 12), (177, 155, 3, false, 1, 2, 17), (180, 155, 2, false, 1, 2, 21), (181, 155, 2, false, 1, 2, 24), (183, 155, 1, false, 1, 0, 0), (187, 155, 1, false, 1, 0, 0), (198, 155, 1, false, 1, 0, 0), (199, 155, 0, false, 3, 2, 47), (200, 155, 2, false, 1, 0, 0), (202, 155, 1, false, 1, 0, 0), (204, 155, 2, false, 1, 0, 0), (206, 155, 2, false, 1, 0, 0), (207, 155, 1, false, 1, 0, 0), (208, 155, 3, false, 1, 0, 0), (213, 155, 3, false, 1, 0, 0), (214, 155, 1, false, 1, 0, 0), (217, 155, 1, false, 1, 0, 0), (219, 155, 1, false, 1, 2, 74), (220, 155, 1, false, 1, 2, 76), (221, 155, 0, false, 1, 2, 77), (233, 155, 1, false, 1, 0, 0), (246, 155, 2, false, 1, 0, 0), (247, 155, 2, false, 1, 0, 0), (248, 155, 1, false, 1, 0, 0), (249, 155, 4, false, 1, 0, 0), (250, 155, 2, false, 1, 0, 0), (254, 155, 1, false, 1, 0, 0), (255, 155, 2, false, 1, 2, 127), (256, 155, 2, false, 1, 0, 0), (262, 155, 2, false, 1, 0, 0), (263, 155, 2, false, 1, 0, 0), (265, 155, 4, false, 1, 0, 0), (267, 155, 2, false, 1, 0, 0), (268, 155, 3, false, 1, 0, 0), (270, 155, 5, false, 1, 0, 0), (271, 155, 2, false, 1, 0, 0), (272, 155, 2, false, 1, 0, 0), (273, 155, 3, true, 1, 2, 157), (274, 155, 1, false, 1, 0, 0), (278, 155, 1, false, 1, 0, 0), (279, 155, 1, false, 1, 2, 163), (280, 155, 1, false, 1, 2, 165), (281, 155, 1, false, 1, 0, 0), (283, 155, 2, false, 1, 0, 0), (287, 155, 1, false, 2, 0, 0)]
section NJ
variable {X : aX}
def n_tbx0 : nT := [(12, 2, 2, false, 1, 1, 0), (17, 2, 3, false, 1, 1, 0), (21, 2, 2, false, 1, 1, 0), (24, 2, 2, false, 1, 1, 0), (28, 2, 1, false, 1, 0, 0), (33, 2, 1, false, 1, 0, 0), (46, 2, 1, false, 1, 0, 0), (47, 2, 0, false, 3, 1, 0), (49, 2, 2, false, 1, 0, 0), (52, 2, 1, false, 1, 0, 0), (54, 2, 2, false, 1, 0, 0), (57, 2, 2, false, 1, 0, 0), (58, 2, 1, false, 1, 0, 0), (61, 2, 3, false, 1, 0, 0), (66, 2, 3, false, 1, 0, 0), (68, 2, 1, false, 1, 0, 0), (71, 2, 1, false, 1, 0, 0), (74, 2, 1, false, 1, 1, 0), (76, 2, 1, false, 1, 1, 0), (77, 2, 0, false, 1, 1, 0), (92, 2, 1, false, 1, 0, 0), (112, 2, 2, false, 1, 0, 0)]
theorem n_tbx0_G : ∀ e ∈ n_tbx0, n_G X n_I n_Md e := List.forall_mem_cons.mpr ⟨(n_ofc (n_c12) rfl rfl rfl), List.forall_mem_cons.mpr ⟨(n_ofc (n_c17) rfl rfl rfl), List.forall_mem_cons.mpr ⟨(n_ofc (n_c21) rfl rfl rfl), List.forall_mem_cons.mpr ⟨(n_ofc (n_c24) rfl rfl rfl), List.forall_mem_cons.mpr ⟨(n_of1I n_a28 rfl rfl rfl), List.forall_mem_cons.mpr ⟨(n_of1I n_a33 rfl rfl rfl), List.forall_mem_cons.mpr ⟨(n_of1I n_a46 rfl rfl rfl), List.forall_mem_cons.mpr ⟨(n_ofc (n_c47) rfl rfl rfl), List.forall_mem_cons.mpr ⟨(n_of1I n_a49 rfl rfl rfl), List.forall_mem_cons.mpr ⟨(n_of1I n_a52 rfl rfl rfl), List.forall_mem_cons.mpr ⟨(n_of1I n_a54 rfl rfl rfl), List.forall_mem_cons.mpr ⟨(n_of1 n_a57 rfl rfl rfl), List.forall_mem_cons.mpr ⟨(n_of1I n_a58 rfl rfl rfl), List.forall_mem_cons.mpr ⟨(n_of1 n_a61 rfl rfl rfl), List.forall_mem_cons.mpr ⟨(n_of1I n_a66 rfl rfl rfl), List.forall_mem_cons.mpr ⟨(n_of1I n_a68 rfl rfl rfl), List.forall_mem_cons.mpr ⟨(n_of1I n_a71 rfl rfl rfl), List.forall_mem_cons.mpr ⟨(n_ofc (n_c74) rfl rfl rfl), List.forall_mem_cons.mpr ⟨(n_ofc (n_c76) rfl rfl rfl), List.forall_mem_cons.mpr ⟨(n_ofcS n_c77 rfl rfl rfl), List.forall_mem_cons.mpr ⟨(n_of1I n_a92 rfl rfl rfl), List.forall_mem_cons.mpr ⟨(n_of1I n_a112 rfl rfl rfl), fun _ h => absurd h List.not_mem_nil⟩⟩⟩⟩⟩⟩⟩⟩⟩⟩⟩⟩⟩⟩⟩⟩⟩⟩⟩⟩⟩⟩
def n_tbx1 : nT := [(113, 2, 2, false, 1, 0, 0), (114, 2, 1, false, 1, 0, 0), (115, 2, 4, false, 1, 0, 0), (119, 2, 2, false, 1, 0, 0), (125, 2, 1, false, 1, 0, 0), (127, 2, 2, false, 1, 1, 0), (128, 2, 2, false, 1, 0, 0), (137, 2, 2, false, 1, 0, 0), (139, 2, 2, false, 1, 0, 0), (143, 2, 4, false, 1, 0, 0), (145, 2, 2, false, 1, 0, 0), (146, 2, 3, false, 1, 0, 0), (149, 2, 5, false, 1, 0, 0), (153, 2, 2, false, 1, 0, 0), (156, 2, 2, false, 1, 0, 0), (157, 2, 3, true, 1, 1, 0), (159, 2, 1, false, 1, 0, 0), (162, 2, 1, false, 1, 0, 0), (163, 2, 1, false, 1, 1, 0), (165, 2, 1, false, 1, 1, 0), (168, 2, 1, false, 1, 0, 0), (173, 155, 2, false, 1, 2, 12)]
theorem n_tbx1_G : ∀ e ∈ n_tbx1, n_G X n_I n_Md e := List.forall_mem_cons.mpr ⟨(n_of1I n_a113 rfl rfl rfl), List.forall_mem_cons.mpr ⟨(n_of1I n_a114 rfl rfl rfl), List.forall_mem_cons.mpr ⟨(n_of1 n_a115 rfl rfl rfl), List.forall_mem_cons.mpr ⟨(n_of1I n_a119 rfl rfl rfl), List.forall_mem_cons.mpr ⟨(n_of1I n_a125 rfl rfl rfl), List.forall_mem_cons.mpr ⟨(n_ofc (n_c127) rfl rfl rfl), List.forall_mem_cons.mpr ⟨(n_of1I n_a128 rfl rfl rfl), List.forall_mem_cons.mpr ⟨(n_of1I n_a137 rfl rfl rfl), List.forall_mem_cons.mpr ⟨(n_of1I n_a139 rfl rfl rfl), List.forall_mem_cons.mpr ⟨(n_of1 n_a143 rfl rfl rfl), List.forall_mem_cons.mpr ⟨(n_of1 n_a145 rfl rfl rfl), List.forall_mem_cons.mpr ⟨(n_of1I n_a146 rfl rfl rfl), List.forall_mem_cons.mpr ⟨(n_of1 n_a149 rfl rfl rfl), List.forall_mem_cons.mpr ⟨(n_of1 n_a153 rfl rfl rfl), List.forall_mem_cons.mpr ⟨(n_of1 n_a156 rfl rfl rfl), List.forall_mem_cons.mpr ⟨(n_ofc (n_c157) rfl rfl rfl), List.forall_mem_cons.mpr ⟨(n_of1 n_a159 rfl rfl rfl), List.forall_mem_cons.mpr ⟨(n_of1 n_a162 rfl rfl rfl), List.forall_mem_cons.mpr ⟨(n_ofc (n_c163) rfl rfl rfl), List.forall_mem_cons.mpr ⟨(n_ofc (n_c165) rfl rfl rfl), List.forall_mem_cons.mpr ⟨(n_of1 n_a168 rfl rfl rfl), List.forall_mem_cons.mpr ⟨(n_ofr (by decide) (n_r173) rfl rfl rfl), fun _ h => absurd h List.not_mem_nil⟩⟩⟩⟩⟩⟩⟩⟩⟩⟩⟩⟩⟩⟩⟩⟩⟩⟩⟩⟩⟩⟩
def n_tbx2 : nT := [(177, 155, 3, false, 1, 2, 17), (180, 155, 2, false, 1, 2, 21), (181, 155, 2, false, 1, 2, 24), (183, 155, 1, false, 1, 0, 0), (187, 155, 1, false, 1, 0, 0), (198, 155, 1, false, 1, 0, 0), (199, 155, 0, false, 3, 2, 47), (200, 155, 2, false, 1, 0, 0), (202, 155, 1, false, 1, 0, 0), (204, 155, 2, false, 1, 0, 0), (206, 155, 2, false, 1, 0, 0), (207, 155, 1, false, 1, 0, 0), (208, 155, 3, false, 1, 0, 0), (213, 155, 3, false, 1, 0, 0), (214, 155, 1, false, 1, 0, 0), (217, 155, 1, false, 1, 0, 0), (219, 155, 1, false, 1, 2, 74), (220, 155, 1, false, 1, 2, 76), (221, 155, 0, false, 1, 2, 77), (233, 155, 1, false, 1, 0, 0), (246, 155, 2, false, 1, 0, 0), (247, 155, 2, false, 1, 0, 0)]
theorem n_tbx2_G : ∀ e ∈ n_tbx2, n_G X n_I n_Md e := List.forall_mem_cons.mpr ⟨(n_ofr (by decide) (n_r177) rfl rfl rfl), List.forall_mem_cons.mpr ⟨(n_ofr (by decide) (n_r180) rfl rfl rfl), List.forall_mem_cons.mpr ⟨(n_ofr (by decide) (n_r181) rfl rfl rfl), List.forall_mem_cons.mpr ⟨(n_of1 n_a183 rfl rfl rfl), List.forall_mem_cons.mpr ⟨(n_of1 n_a187 rfl rfl rfl), List.forall_mem_cons.mpr ⟨(n_of1 n_a198 rfl rfl rfl), List.forall_mem_cons.mpr ⟨(n_ofr (by decide) (n_r199) rfl rfl rfl), List.forall_mem_cons.mpr ⟨(n_of1 n_a200 rfl rfl rfl), List.forall_mem_cons.mpr ⟨(n_of1 n_a202 rfl rfl rfl), List.forall_mem_cons.mpr ⟨(n_of1 n_a204 rfl rfl rfl), List.forall_mem_cons.mpr ⟨(n_of1 n_a206 rfl rfl rfl), List.forall_mem_cons.mpr ⟨(n_of1 n_a207 rfl rfl rfl), List.forall_mem_cons.mpr ⟨(n_of1 n_a208 rfl rfl rfl), List.forall_mem_cons.mpr ⟨(n_of1 n_a213 rfl rfl rfl), List.forall_mem_cons.mpr ⟨(n_of1 n_a214 rfl rfl rfl), List.forall_mem_cons.mpr ⟨(n_of1 n_a217 rfl rfl rfl), List.forall_mem_cons.mpr ⟨(n_ofr (by decide) (n_r219) rfl rfl rfl), List.forall_mem_cons.mpr ⟨(n_ofr (by decide) (n_r220) rfl rfl rfl), List.forall_mem_cons.mpr ⟨(n_ofrS n_r221 rfl rfl rfl), List.forall_mem_cons.mpr ⟨(n_of1 n_a233 rfl rfl rfl), List.forall_mem_cons.mpr ⟨(n_of1 n_a246 rfl rfl rfl), List.forall_mem_cons.mpr ⟨(n_of1 n_a247 rfl rfl rfl), fun _ h => absurd h List.not_mem_nil⟩⟩⟩⟩⟩⟩⟩⟩⟩⟩⟩⟩⟩⟩⟩⟩⟩⟩⟩⟩⟩⟩
def n_tbx3 : nT := [(248, 155, 1, false, 1, 0, 0), (249, 155, 4, false, 1, 0, 0), (250, 155, 2, false, 1, 0, 0), (254, 155, 1, false, 1, 0, 0), (255, 155, 2, false, 1, 2, 127), (256, 155, 2, false, 1, 0, 0), (262, 155, 2, false, 1, 0, 0), (263, 155, 2, false, 1, 0, 0), (265, 155, 4, false, 1, 0, 0), (267, 155, 2, false, 1, 0, 0), (268, 155, 3, false, 1, 0, 0), (270, 155, 5, false, 1, 0, 0), (271, 155, 2, false, 1, 0, 0), (272, 155, 2, false, 1, 0, 0), (273, 155, 3, true, 1, 2, 157), (274, 155, 1, false, 1, 0, 0), (278, 155, 1, false, 1, 0, 0), (279, 155, 1, false, 1, 2, 163), (280, 155, 1, false, 1, 2, 165), (281, 155, 1, false, 1, 0, 0), (283, 155, 2, false, 1, 0, 0), (287, 155, 1, false, 2, 0, 0)]
theorem n_tbx3_G : ∀ e ∈ n_tbx3, n_G X n_I n_Md e := List.forall_mem_cons.mpr ⟨(n_of1 n_a248 rfl rfl rfl), List.forall_mem_cons.mpr ⟨(n_of1 n_a249 rfl rfl rfl), List.forall_mem_cons.mpr ⟨(n_of1 n_a250 rfl rfl rfl), List.forall_mem_cons.mpr ⟨(n_of1 n_a254 rfl rfl rfl), List.forall_mem_cons.mpr ⟨(n_ofr (by decide) (n_r255) rfl rfl rfl), List.forall_mem_cons.mpr ⟨(n_of1 n_a256 rfl rfl rfl), List.forall_mem_cons.mpr ⟨(n_of1 n_a262 rfl rfl rfl), List.forall_mem_cons.mpr ⟨(n_of1 n_a263 rfl rfl rfl), List.forall_mem_cons.mpr ⟨(n_of1 n_a265 rfl rfl rfl), List.forall_mem_cons.mpr ⟨(n_of1 n_a267 rfl rfl rfl), List.forall_mem_cons.mpr ⟨(n_of1 n_a268 rfl rfl rfl), List.forall_mem_cons.mpr ⟨(n_of1 n_a270 rfl rfl rfl), List.forall_mem_cons.mpr ⟨(n_of1 n_a271 rfl rfl rfl), List.forall_mem_cons.mpr ⟨(n_of1 n_a272 rfl rfl rfl), List.forall_mem_cons.mpr ⟨(n_ofr (by decide) (n_r273) rfl rfl rfl), List.forall_mem_cons.mpr ⟨(n_of1 n_a274 rfl rfl rfl), List.forall_mem_cons.mpr ⟨(n_of1 n_a278 rfl rfl rfl), List.forall_mem_cons.mpr ⟨(n_ofr (by decide) (n_r279) rfl rfl rfl), List.forall_mem_cons.mpr ⟨(n_ofr (by decide) (n_r280) rfl rfl rfl), List.forall_mem_cons.mpr ⟨(n_of1 n_a281 rfl rfl rfl), List.forall_mem_cons.mpr ⟨(n_of1 n_a283 rfl rfl rfl), List.forall_mem_cons.mpr ⟨(n_of2 n_a287 rfl rfl rfl), fun _ h => absurd h List.not_mem_nil⟩⟩⟩⟩⟩⟩⟩⟩⟩⟩⟩⟩⟩⟩⟩⟩⟩⟩⟩⟩⟩⟩
theorem n_tb_e : n_tb = n_tbx0 ++ (n_tbx1 ++ (n_tbx2 ++ (n_tbx3))) := rfl
theorem n_tb_T : ∀ e ∈ n_tb, n_G X n_I n_Md e := by
  intro e h
  rw [n_tb_e] at h
  exact (List.mem_append.mp h).elim (fun h => n_tbx0_G e h) (fun h => (List.mem_append.mp h).elim (fun h => n_tbx1_G e h) (fun h => (List.mem_append.mp h).elim (fun h => n_tbx2_G e h) (fun h => n_tbx3_G e h)))
def l_offs : List Int := [196, 233, 282, 319, 356, 381, 406, 431, 444, 481, 506, 543, 580, 605, 654, 703, 728, 753, 778, 803, 816, 841, 878, 915, 940, 1001, 1038, 1063, 1100, 1137, 1174, 1211, 1272, 1309, 1358, 1431, 1468, 1505, 1602, 1627, 1652, 1677, 1702, 1727, 1767]
set_option maxRecDepth 100000 in
theorem l_chk : l_offs.all (fun o => decide (0 ≤ o) && n_run n_tb 400 1 [] none (l_to (40 + o).toNat a_cL) []) = true := by decide +kernel
theorem l_sufL : l_suf a_cL := ⟨[], rfl⟩
theorem l_at {t : Nat} {e : Nat × aI} {r : List (Nat × aI)} (h : l_to t a_cL = e :: r) : a_mL.2.2.2.2.2.lookup e.1 = some e.2 := (l_look (h ▸ l_suf_to l_sufL)).1
set_option maxRecDepth 100000 in
theorem l_1835 : l_to 1835 a_cL = (1835, .iinc 4 6, 3, 0, 0, 0, 0) :: l_to 1838 a_cL := rfl
set_option maxRecDepth 100000 in
theorem l_1838 : l_to 1838 a_cL = (1838, .goto (-1815), 3, 0, 23, 0, 0) :: l_to 1841 a_cL := rfl
set_option maxRecDepth 100000 in
theorem l_1841 : l_to 1841 a_cL = (1841, .iconst 1, 1, 0, 0, 0, 0) :: l_to 1842 a_cL := rfl
set_option maxRecDepth 100000 in
theorem l_1842 : l_to 1842 a_cL = [(1842, .ireturn, 1, 0, 0, 0, 0)] := rfl
theorem l_k1835 : a_mL.2.2.2.2.2.lookup 1835 = some (.iinc 4 6, 3, 0, 0, 0, 0) := by
  have h := l_at (e := (1835, .iinc 4 6, 3, 0, 0, 0, 0)) l_1835
  exact h
theorem l_k1838 : a_mL.2.2.2.2.2.lookup 1838 = some (.goto (-1815), 3, 0, 23, 0, 0) := by
  have h := l_at (e := (1838, .goto (-1815), 3, 0, 23, 0, 0)) l_1838
  exact h
theorem l_k1841 : a_mL.2.2.2.2.2.lookup 1841 = some (.iconst 1, 1, 0, 0, 0, 0) := by
  have h := l_at (e := (1841, .iconst 1, 1, 0, 0, 0, 0)) l_1841
  exact h
theorem l_k1842 : a_mL.2.2.2.2.2.lookup 1842 = some (.ireturn, 1, 0, 0, 0, 0) := by
  have h := l_at (e := (1842, .ireturn, 1, 0, 0, 0, 0)) l_1842
  exact h
end NJ
section LP
variable {xs : Nat → Int32} {L : Nat} {CB SB : Nat}
def l_fin (CB SB : Nat) (v : Option Value) (_ : aH) (C S : Nat) : Prop := v = some (.int 1) ∧ C ≤ CB ∧ S ≤ SB
theorem l_and63 (x : Int32) : 0 ≤ (x &&& 63).toInt ∧ (x &&& 63).toInt ≤ 63 := by
  have h : (x &&& 63).toBitVec.toNat ≤ 63 := by
    show (x.toBitVec &&& (63 : Int32).toBitVec).toNat ≤ 63
    rw [BitVec.toNat_and]
    exact Nat.and_le_right
  have e : (x &&& 63).toInt = (x &&& 63).toBitVec.toInt := rfl
  rw [e, BitVec.toInt_eq_toNat_cond, if_pos (by omega)]
  omega
theorem l_Lsub (hL : L ≤ 3072) : (Int32.ofNat L - (Int8.ofInt 6).toInt32).toInt = (L : Int) - 6 := by
  have e1 : (Int32.ofNat L).toInt = L := Int32.toInt_ofNat_of_lt (by omega)
  rw [Int32.toInt_sub, e1, show ((Int8.ofInt 6).toInt32).toInt = 6 by decide, Int.bmod_eq_of_le (by omega) (by omega)]
theorem l_out (a b c : Option Value) {iI : Int32} {H : aH} {C S : Nat} (hC : C ≤ CB) (hS : S ≤ SB) : aOK s_P (some (L, xs)) 202 a_mL 1841 (l_ls iI a b c) [] H C S (l_fin CB SB) := by
  refine aOK_op l_k1841 (show _ = some (1842, l_ls iI a b c, [.int 1], H, 0, 0) from rfl) ?_
  exact aOK_ret l_k1842 rfl (show _ = some (some (.int 1)) from rfl) (fun n q => by cases q) ⟨rfl, hC, hS⟩
theorem l_loop (hL : L ≤ 3072) : ∀ (n i : Nat) (iI : Int32), iI.toInt = i → i ≤ L + 6 → L < i + 6 * (n + 1) → ∀ (a b c : Option Value) (H : aH) (C S : Nat), n_I H → C + n ≤ CB → S + 6 * n ≤ SB → aOK s_P (some (L, xs)) 202 a_mL 23 (l_ls iI a b c) [] H C S (l_fin CB SB) := by
  intro n
  have top : ∀ (i : Nat) (iI : Int32) (a b c : Option Value) (H : aH) (C S : Nat), iI.toInt = i → (L < i + 6 → aOK s_P (some (L, xs)) 202 a_mL 1841 (l_ls iI a b c) [] H C S (l_fin CB SB)) → (i + 6 ≤ L → aOK s_P (some (L, xs)) 202 a_mL 33 (l_ls iI a b c) [] H C S (l_fin CB SB)) → aOK s_P (some (L, xs)) 202 a_mL 23 (l_ls iI a b c) [] H C S (l_fin CB SB) := by
    intro i iI a b c H C S hi h1 h2
    refine aOK_op rfl (show _ = some (25, l_ls iI a b c, [.int iI], H, 0, 0) from rfl) ?_
    refine aOK_op rfl (show _ = some (26, l_ls iI a b c, [.ref 0, .int iI], H, 0, 0) from rfl) ?_
    refine aOK_op rfl (show _ = some (27, l_ls iI a b c, [.int (Int32.ofNat L), .int iI], H, 0, 0) from rfl) ?_
    refine aOK_op rfl (show _ = some (29, l_ls iI a b c, [.int (Int8.ofInt 6).toInt32, .int (Int32.ofNat L), .int iI], H, 0, 0) from rfl) ?_
    refine aOK_op rfl (show _ = some (30, l_ls iI a b c, [.int (Int32.ofNat L - (Int8.ofInt 6).toInt32), .int iI], H, 0, 0) from rfl) ?_
    refine aOK_op rfl (show _ = some (if a_cnd .gt iI (Int32.ofNat L - (Int8.ofInt 6).toInt32) then 1841 else 33, l_ls iI a b c, [], H, 0, 0) from rfl) ?_
    cases q : a_cnd .gt iI (Int32.ofNat L - (Int8.ofInt 6).toInt32) with
    | true =>
      have g : (Int32.ofNat L - (Int8.ofInt 6).toInt32).toInt < iI.toInt := (y_ci .gt _ _).mp q
      rw [l_Lsub hL, hi] at g
      exact h1 (by omega)
    | false =>
      have g : ¬ ((Int32.ofNat L - (Int8.ofInt 6).toInt32).toInt < iI.toInt) := y_cif q
      rw [l_Lsub hL, hi] at g
      exact h2 (by omega)
  induction n with
  | zero =>
    intro i iI hi hb hn a b c H C S hI hC hS
    exact top i iI a b c H C S hi (fun _ => l_out a b c (by omega) (by omega)) (fun q => by omega)
  | succ n ih =>
    intro i iI hi hb hn a b c H C S hI hC hS
    refine top i iI a b c H C S hi (fun _ => l_out a b c (by omega) (by omega)) (fun h6 => ?_)
    have hend : ∀ (a b c : Option Value) (H : aH) (C' S' : Nat), n_I H → C' ≤ C + 1 → S' ≤ S + 6 → aOK s_P (some (L, xs)) 202 a_mL 1835 (l_ls iI a b c) [] H C' S' (l_fin CB SB) := by
      intro a b c H C' S' hI' hC' hS'
      refine aOK_op l_k1835 (show _ = some (1838, l_ls (iI + Int32.ofInt 6) a b c, [], H, 0, 0) from rfl) ?_
      refine aOK_op l_k1838 (show _ = some (23, l_ls (iI + Int32.ofInt 6) a b c, [], H, 0, 0) from rfl) ?_
      exact ih (i + 6) _ (y_addS _ hi (show (Int32.ofInt 6).toInt = (6 : Nat) by decide) rfl (by omega)) (by omega) (by omega) a b c H C' S' hI' (by omega) (by omega)
    refine aOK_op rfl (show _ = some (34, l_ls iI a b c, [.ref 0], H, 0, 0) from rfl) ?_
    refine aOK_op rfl (show _ = some (36, l_ls iI a b c, [.int iI, .ref 0], H, 0, 0) from rfl) ?_
    refine aOK_op rfl (l_scr (n := i) hi (by omega)) ?_
    refine aOK_op rfl (show _ = some (39, l_ls iI a b c, [.int (Int8.ofInt 63).toInt32, .int (xs i)], H, 0, 0) from rfl) ?_
    refine aOK_op rfl (show _ = some (40, l_ls iI a b c, [.int (xs i &&& (Int8.ofInt 63).toInt32)], H, 0, 0) from rfl) ?_
    have h63 : 0 ≤ (xs i &&& (Int8.ofInt 63).toInt32).toInt := by
      have : (Int8.ofInt 63).toInt32 = 63 := by decide
      rw [this]
      exact (l_and63 (xs i)).1
    generalize (xs i &&& (Int8.ofInt 63).toInt32) = x at h63
    by_cases q : x.toInt < 0 ∨ 44 < x.toInt
    · exact y_tsw_d (t := 1835) rfl q (by decide) (hend a b c H C S hI (by omega) (by omega))
    · have hx : ∃ v : Nat, x.toInt = v ∧ v < 45 := ⟨x.toInt.toNat, by omega, by omega⟩
      obtain ⟨v, hv, v45⟩ := hx
      have ho : ∃ o, l_offs[v]? = some o := ⟨_, List.getElem?_eq_getElem (show v < l_offs.length from v45)⟩
      obtain ⟨o, ho⟩ := ho
      have hc := List.all_eq_true.mp l_chk o (List.mem_of_getElem? ho)
      rw [Bool.and_eq_true, decide_eq_true_eq] at hc
      refine y_tsw_i (t := (40 + o).toNat) (o := o) rfl q ?_ ?_ ?_
      · rw [hv]
        show l_offs.toArray[((v : Int) - 0).toNat]? = some o
        rw [show ((v : Int) - 0).toNat = v by omega, List.getElem?_toArray]
        exact ho
      · show (if 0 ≤ ((40 : Nat) : Int) + o then some (((40 : Nat) : Int) + o).toNat else none) = _
        rw [if_pos (by omega)]
        rfl
      · exact n_run_ok (CB := C + 1) (SB := S + 6) (Md := n_Md) (by omega) hL hi (fun H q => q.1.1) (fun _ _ _ H q => q.1.1) n_tb_T n_S169 n_S171 hend 400 1 [] none _ [] hc.2 (l_suf_to l_sufL) (fun j z q => (by cases q)) _ (fun e r hr => l_to_hd hr) 0 [] trivial a b c H C S hI (by omega) (by omega)
end LP
end PT33j
