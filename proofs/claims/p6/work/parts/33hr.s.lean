/-! ===== v10: weight (laid by wip/tools/mk10f.py) ===== -/
theorem y_wt_F {F F' : Nat → Nat → Int} {w : Nat} : ∀ {k : Nat}, (∀ v, v < k → F' v w = F v w) → y_wt F' w k = y_wt F w k
  | 0, _ => rfl
  | k + 1, h => by
    show y_wt F' w k * F' k w = y_wt F w k * F k w
    rw [y_wt_F (fun v hv => h v (by omega)), h k (by omega)]
theorem y_W_fo {nd : Int32} {le de ta fo fo' : List Int32} {w k : Nat} (h : ∀ v, v < k → y_N fo' v = y_N fo v) : y_W nd le de ta fo' w k = y_W nd le de ta fo w k := y_wt_F (fun v hv => by
  unfold y_fa
  rw [h v hv])
theorem y_l2i {x : Int64} (h0 : 0 ≤ x.toInt) (h1 : x.toInt ≤ 2147483647) : x.toInt32.toInt = x.toInt := by
  rw [Int64.toInt_toInt32]
  exact Int.bmod_eq_of_le (by omega) (by omega)
abbrev n_wtV (a nd : Int32) : Prop := 0 ≤ a.toInt ∧ a.toInt < (y_ways nd : Int)
noncomputable def n_s28 (us : List Int32) (v : Nat → Int32) : (Nat → Int32) × Int32 := match us with
  | [a] => (n_up v 143 (Int32.ofInt 1), if n_wtV a (v 128) then Int32.ofInt (y_W (v 128) (n_ls v 701000 10) (n_ls v 702000 10) (n_ls v 700000 80) (n_ls v 704000 10) a.toInt.toNat (v 128).toInt.toNat) else Int32.ofInt (-1))
  | _ => (v, 0)
section NWT
variable {X : aX} {C S d : Nat} {K0 : Option Value → aH → Nat → Nat → Prop}
theorem c_weightOf {h : aH} (hr : w_hr z_D h) {a nd : Int32} {wl : List Int32} (g0 : w_f h 128 = some (.int nd)) (h0 : 0 ≤ nd.toInt) (h10 : nd.toInt ≤ 10) (a9 : w_a h 9 = some (0, .inl wl)) (yes : n_wtV a nd → ∀ H, y_fr h H [] [] → K0 (some (.int (wl.getD a.toInt.toNat 0))) H C S) (no : ¬ n_wtV a nd → ∀ H, y_fr h H [] [] → K0 (some (.int (Int32.ofInt (-1)))) H C S) : aOK s_P X (d + 1) a_m32 0 [some (.ref 3), some (.int a)] [] h C S K0 := by
  have T5 : ∀ {G : aH}, n_wtV a nd → y_fr h G [] [] → aOK s_P X (d + 1) a_m32 5 [some (.ref 3), some (.int a)] [.int (y_01 true)] G C S K0 := by
    intro G q e
    obtain ⟨v1, v2⟩ := id q
    have wle : y_ways nd ≤ 1024 := (y_all h0 h10).2.2
    refine w_go z_hl [] [] 40 e.1 ?_
    refine ⟨fun q => absurd q (by decide), fun _ => ⟨⟨by omega, by omega⟩, fun l hl len bb => fun H hH => ?_⟩⟩
    obtain rfl := y_ai ((y_ae e rfl).trans a9) hl
    exact yes q H (y_st e hH (by repeat (first | exact w_nil | refine w_cons (Or.inl (y_m rfl)) ?_ | refine w_cons (Or.inr (by assumption)) ?_)) (by repeat (first | exact w_nil | refine w_cons (Or.inl (y_m rfl)) ?_ | refine w_cons (Or.inr (by assumption)) ?_)))
  have T5n : ∀ {G : aH}, ¬ n_wtV a nd → y_fr h G [] [] → aOK s_P X (d + 1) a_m32 5 [some (.ref 3), some (.int a)] [.int (y_01 false)] G C S K0 := by
    intro G nv e
    refine w_go z_hl [] [] 40 e.1 ?_
    exact ⟨fun _ => fun H hH => no nv H (y_st e hH (by repeat (first | exact w_nil | refine w_cons (Or.inl (y_m rfl)) ?_ | refine w_cons (Or.inr (by assumption)) ?_)) (by repeat (first | exact w_nil | refine w_cons (Or.inl (y_m rfl)) ?_ | refine w_cons (Or.inr (by assumption)) ?_))), fun q => absurd q (by decide)⟩
  refine w_go z_hl [] [14] 30 hr ?_
  intro H hH
  have e : y_fr h H [] [] := y_st (y_rf hr) hH (by repeat (first | exact w_nil | refine w_cons (Or.inl (y_m rfl)) ?_ | refine w_cons (Or.inr (by assumption)) ?_)) (by repeat (first | exact w_nil | refine w_cons (Or.inl (y_m rfl)) ?_ | refine w_cons (Or.inr (by assumption)) ?_))
  refine c_hasAll (v := a) e.1 ((y_fe e rfl).trans g0) h0 h10 (fun H2 h2 v1 v2 => ⟨fun n e => (by cases e), ?_⟩) (fun H2 h2 nv => ⟨fun n e => (by cases e), ?_⟩)
  · exact T5 ⟨v1, v2⟩ (y_sq e h2 rfl rfl)
  · exact T5n nv (y_sq e h2 rfl rfl)
theorem c_weight {h : aH} (hr : w_hr z_D h) {a nd F G fr : Int32} {le lc lo de ta fo wl : List Int32} (hn : c_net h nd F G le lc lo de ta fo) (hf : ∀ k : Nat, (k : Int) < nd.toInt → -1 ≤ y_N fo k ∧ y_N fo k ≤ 1) (gf : w_f h 143 = some (.int fr)) (a9 : w_a h 9 = some (0, .inl wl)) (l9 : wl.length = 1024) (hw : fr.toInt ≠ 0 → c_wk nd le de ta fo nd.toInt.toNat wl) (hK : ∀ (H : aH) (wl' : List Int32) (r : Int32), y_fr h H [143] [9] → w_f H 143 = some (.int (Int32.ofInt 1)) → w_a H 9 = some (0, .inl wl') → c_wk nd le de ta fo nd.toInt.toNat wl' → (n_wtV a nd → r = wl'.getD a.toInt.toNat 0) → (¬ n_wtV a nd → r = Int32.ofInt (-1)) → K0 (some (.int r)) H C S) : aOK s_P X (d + 3) a_m28 0 [some (.ref 2), some (.int a)] [] h C S K0 := by
  have b0 := hn.2.2.1
  have g0 := hn.1.1
  have T15 : ∀ {J : aH} {wl' : List Int32} {r : Int32}, y_fr h J [143] [9] → w_f J 143 = some (.int (Int32.ofInt 1)) → w_a J 9 = some (0, .inl wl') → c_wk nd le de ta fo nd.toInt.toNat wl' → (n_wtV a nd → r = wl'.getD a.toInt.toNat 0) → (¬ n_wtV a nd → r = Int32.ofInt (-1)) → aOK s_P X (d + 3) a_m28 15 [some (.ref 2), some (.int a)] [.int r] J C S K0 := by
    intro J wl' r e u1 u2 u3 y n
    refine w_go z_hl [] [] 20 e.1 ?_
    intro H hH
    have f : y_fr J H [] [] := y_st (y_rf e.1) hH (by repeat (first | exact w_nil | refine w_cons (Or.inl (y_m rfl)) ?_ | refine w_cons (Or.inr (by assumption)) ?_)) (by repeat (first | exact w_nil | refine w_cons (Or.inl (y_m rfl)) ?_ | refine w_cons (Or.inr (by assumption)) ?_))
    exact hK H wl' r (y_sq e f rfl rfl) ((y_fe f rfl).trans u1) ((y_ae f rfl).trans u2) u3 y n
  have T7 : ∀ {J : aH} {wl' : List Int32}, y_fr h J [143] [9] → w_f J 143 = some (.int (Int32.ofInt 1)) → w_a J 9 = some (0, .inl wl') → c_wk nd le de ta fo nd.toInt.toNat wl' → aOK s_P X (d + 3) a_m28 7 [some (.ref 2), some (.int a)] [] J C S K0 := by
    intro J wl' e u1 u2 u3
    refine w_go z_hl [] [32] 30 e.1 ?_
    intro H hH
    have f : y_fr J H [] [] := y_st (y_rf e.1) hH (by repeat (first | exact w_nil | refine w_cons (Or.inl (y_m rfl)) ?_ | refine w_cons (Or.inr (by assumption)) ?_)) (by repeat (first | exact w_nil | refine w_cons (Or.inl (y_m rfl)) ?_ | refine w_cons (Or.inr (by assumption)) ?_))
    have e2 : y_fr h H [143] [9] := y_sq e f rfl rfl
    refine c_weightOf (d := d + 1) (a := a) e2.1 ((y_fe e2 rfl).trans g0) b0.1 b0.2 ((y_ae f rfl).trans u2) (fun q H3 h3 => ⟨fun n e => (by cases e), ?_⟩) (fun q H3 h3 => ⟨fun n e => (by cases e), ?_⟩)
    · exact T15 (y_sq e2 h3 rfl rfl) ((y_fe h3 rfl).trans ((y_fe f rfl).trans u1)) ((y_ae h3 rfl).trans ((y_ae f rfl).trans u2)) u3 (fun _ => rfl) (fun w => absurd q w)
    · exact T15 (y_sq e2 h3 rfl rfl) ((y_fe h3 rfl).trans ((y_fe f rfl).trans u1)) ((y_ae h3 rfl).trans ((y_ae f rfl).trans u2)) u3 (fun w => absurd w q) (fun _ => rfl)
  refine w_go z_hl [] [29] 30 hr ?_
  intro H hH
  have e : y_fr h H [] [] := y_st (y_rf hr) hH (by repeat (first | exact w_nil | refine w_cons (Or.inl (y_m rfl)) ?_ | refine w_cons (Or.inr (by assumption)) ?_)) (by repeat (first | exact w_nil | refine w_cons (Or.inl (y_m rfl)) ?_ | refine w_cons (Or.inr (by assumption)) ?_))
  refine c_refresh (d := d) e.1 (c_net_y hn e rfl rfl) hf ((y_fe e rfl).trans gf) ((y_ae e rfl).trans a9) l9 hw (fun H2 wl' f u1 u2 u3 => ⟨fun n e => (by cases e), ?_⟩)
  exact T7 (y_sq (y_mo e rfl rfl) f rfl rfl) u1 u2 u3
theorem f_weight {h : aH} (hr : w_hr z_D h) (hJ : y_J h) {a nd : Int32} {le de ta fo : List Int32} (m1 : w_f h 19591 = some (.int nd)) (m2 : w_a h 156 = some (0, .inl le)) (m3 : w_a h 157 = some (0, .inl de)) (m4 : w_a h 158 = some (0, .inl ta)) (m5 : w_a h 159 = some (0, .inl fo)) (hk : ∀ (r : Int32) (H : aH), y_fr h H [19584] [] → (n_wtV a nd → r.toInt = y_W nd le de ta fo a.toInt.toNat nd.toInt.toNat) → (¬ n_wtV a nd → r = Int32.ofInt (-1)) → K0 (some (.int r)) H C S) : aOK s_P X (d + 2) a_m183 0 [some (.ref 155), some (.int a)] [] h C S K0 := by
  obtain ⟨nd0, le0, de0, ta0, n1, n2, n3, n4, c1, c2, c3, c4, c5⟩ := id hJ.1
  obtain rfl := y_fi m1 n1
  obtain rfl := y_ai m2 n2
  obtain rfl := y_ai m3 n3
  obtain rfl := y_ai m4 n4
  obtain ⟨b1, b2⟩ := y_ndb hr n1
  obtain ⟨ea, l1, l2⟩ := y_all b1 b2
  have net : y_net h nd le de ta fo := ⟨n1, n2, n3, n4, m5, c1, c2, c3, c4⟩
  have T18 : ∀ {G : aH} {x : Int64}, n_wtV a nd → x.toInt = y_W nd le de ta fo a.toInt.toNat nd.toInt.toNat → y_fr h G [19584] [] → aOK s_P X (d + 2) a_m183 18 [some (.ref 155), some (.int a)] [.long x] G C S K0 := by
    intro G x q hx e
    have hta : ∀ x ∈ ta, 0 ≤ x.toInt := by
      obtain ⟨l, g1, g2, g3⟩ := w_arrI hr (o := 158) (t := 0) (n := 80) (lo := 0) (hi := 10000000) (by decide) rfl
      have e := (w_a_at g1).symm.trans n4
      cases e
      exact fun x hx => (g3 x hx).1
    have wb := y_W_b net b2 hta (wy := a.toInt.toNat) (k := nd.toInt.toNat) (by omega)
    refine w_go z_hl [] [] 30 e.1 ?_
    exact fun H hH => hk _ H (y_st e hH (by repeat (first | exact w_nil | refine w_cons (Or.inl (y_m rfl)) ?_ | refine w_cons (Or.inr (by assumption)) ?_)) (by repeat (first | exact w_nil | refine w_cons (Or.inl (y_m rfl)) ?_ | refine w_cons (Or.inr (by assumption)) ?_))) (fun _ => by rw [y_l2i (by omega) (by omega)]; exact hx) (fun w => absurd q w)
  have T10 : ∀ {G : aH}, n_wtV a nd → y_fr h G [19584] [] → aOK s_P X (d + 2) a_m183 10 [some (.ref 155), some (.int a)] [.int (y_01 true)] G C S K0 := by
    intro G q e
    obtain ⟨v1, v2⟩ := id q
    refine w_go z_hl [] [184] 30 e.1 ?_
    refine ⟨fun q => absurd q (by decide), fun _ => fun H hH => ?_⟩
    have e2 := y_st e hH (by repeat (first | exact w_nil | refine w_cons (Or.inl (y_m rfl)) ?_ | refine w_cons (Or.inr (by assumption)) ?_)) (by repeat (first | exact w_nil | refine w_cons (Or.inl (y_m rfl)) ?_ | refine w_cons (Or.inr (by assumption)) ?_))
    refine y_weightOf (wy := a.toInt.toNat) (by omega) (by omega) e2.1 (y_net_fr2 e2 rfl rfl net) b1 (fun r H2 e3 hr3 => ⟨fun n e => (by cases e), ?_⟩)
    exact T18 q hr3 (y_sq e2 e3 rfl rfl)
  have T10n : ∀ {G : aH}, ¬ n_wtV a nd → y_fr h G [19584] [] → aOK s_P X (d + 2) a_m183 10 [some (.ref 155), some (.int a)] [.int (y_01 false)] G C S K0 := by
    intro G q e
    refine w_go z_hl [] [] 30 e.1 ?_
    exact ⟨fun _ => fun H hH => hk _ H (y_st e hH (by repeat (first | exact w_nil | refine w_cons (Or.inl (y_m rfl)) ?_ | refine w_cons (Or.inr (by assumption)) ?_)) (by repeat (first | exact w_nil | refine w_cons (Or.inl (y_m rfl)) ?_ | refine w_cons (Or.inr (by assumption)) ?_))) (fun w => absurd w q) (fun _ => rfl), fun q => absurd q (by decide)⟩
  refine w_go z_hl [] [174] 30 hr ?_
  refine ⟨rfl, y_zini (by decide) (by decide), fun H hH => ?_⟩
  have e : y_fr h H [19584] [] := y_st (y_mo (y_rf hr) rfl rfl) hH (by repeat (first | exact w_nil | refine w_cons (Or.inl (y_m rfl)) ?_ | refine w_cons (Or.inr (by assumption)) ?_)) (by repeat (first | exact w_nil | refine w_cons (Or.inl (y_m rfl)) ?_ | refine w_cons (Or.inr (by assumption)) ?_))
  refine y_isSet (v := a) e.1 ((y_fe e rfl).trans n1) b1 b2 (fun H3 h3 => ⟨fun n e => (by cases e), ?_⟩)
  cases hset : decide (0 ≤ a.toInt ∧ a.toInt < (y_ways nd : Int)) with
  | true => exact T10 (of_decide_eq_true hset) (y_sq e h3 rfl rfl)
  | false => exact T10n (of_decide_eq_false hset) (y_sq e h3 rfl rfl)
end NWT
theorem n_c28 {X : aX} : n_pc X a_m28 1 false n_s28 := by
  intro us h v C S K0 hl _ hI hc hm hk
  match us, hl with
  | [a], _ =>
    have f0 := hc.1 128 (by decide)
    have b0 := n_bd (lo := 0) (hi := 10) hI.1 f0 rfl
    obtain ⟨lc, lo, wl, fr, q8, q9, q10, q11, q12, q13⟩ := n_toW hI.1 hI.2.1.1 hc hm
    refine c_weight (d := 197) (a := a) hI.1 q8 q9 q10 q11 q12 q13 (fun H wl' r e u1 u2 u3 y n => ?_)
    have er : r = (n_s28 [a] v).2 := by
      by_cases q : n_wtV a (v 128)
      · rw [show (n_s28 [a] v).2 = Int32.ofInt (y_W (v 128) (n_ls v 701000 10) (n_ls v 702000 10) (n_ls v 700000 80) (n_ls v 704000 10) a.toInt.toNat (v 128).toInt.toNat) from if_pos q, y q]
        have q2 : a.toInt < ((2 ^ (v 128).toInt.toNat : Nat) : Int) := q.2
        have q1 := q.1
        have wb := c_W_b q8.2.2 (k := (v 128).toInt.toNat) (w := a.toInt.toNat) (by omega)
        refine Int32.toInt_inj.mp ?_
        rw [u3.2 _ (by omega), Int32.toInt_ofInt, show (Int32.size : Nat) = 4294967296 from rfl]
        exact (Int.bmod_eq_of_le (by omega) (by omega)).symm
      · rw [show (n_s28 [a] v).2 = Int32.ofInt (-1) from if_neg q]
        exact n q
    rw [er]
    obtain ⟨fr', hc'⟩ := n_ofW e.1 hc (fun k hk' e3 => e.2.1 k (fun w => e3 (List.mem_singleton.mp w))) (fun o _ e9 => e.2.2 o (fun w => e9 (List.mem_singleton.mp w))) ⟨lc, lo, wl', _, c_net_y q8 e rfl rfl, q9, u1, u2, u3.1, fun _ => u3⟩
    have e1 : n_up v 143 fr' 143 = Int32.ofInt 1 := y_fi (hc'.1 143 (by decide)) u1
    have e2 : fr' = Int32.ofInt 1 := e1
    rw [e2] at hc'
    exact hk H ⟨e.1, y_jfr y_JA_x e rfl rfl hI.2.1, t_day_frc e rfl hI.2.2⟩ hc' (n_mS_V (n_fm_ok e rfl) hm)
theorem n_r183 {X : aX} : n_pr X a_m183 1 false n_s28 := by
  intro us h w v C S K0 hl _ hI hc hm hk
  match us, hl with
  | [a], _ =>
    have g0 : w_f h 19591 = some (.int (v 128)) := hm.1 (128, 19591) (by decide)
    have b0 := n_bd (lo := 0) (hi := 10) hI.1 g0 rfl
    obtain ⟨fo, o1, o2, o3⟩ := id hm.2.1.2.2.2.2.2.2.1
    refine f_weight (d := 198) (a := a) hI.1 hI.2.1.1 g0 hm.2.1.2.2.1 hm.2.1.2.2.2.1 hm.2.1.2.2.2.2.1 o1 (fun r H e y n => ?_)
    have er : r = (n_s28 [a] v).2 := by
      by_cases q : n_wtV a (v 128)
      · rw [show (n_s28 [a] v).2 = Int32.ofInt (y_W (v 128) (n_ls v 701000 10) (n_ls v 702000 10) (n_ls v 700000 80) (n_ls v 704000 10) a.toInt.toNat (v 128).toInt.toNat) from if_pos q]
        have ew : y_W (v 128) (n_ls v 701000 10) (n_ls v 702000 10) (n_ls v 700000 80) (n_ls v 704000 10) a.toInt.toNat (v 128).toInt.toNat = y_W (v 128) (n_ls v 701000 10) (n_ls v 702000 10) (n_ls v 700000 80) fo a.toInt.toNat (v 128).toInt.toNat := y_W_fo (fun u hu => by
          unfold y_N
          rw [n_ls_at (by omega), o3 u (by omega)])
        have yr := y q
        refine Int32.toInt_inj.mp ?_
        rw [ew, ← yr, Int32.ofInt_toInt]
      · rw [show (n_s28 [a] v).2 = Int32.ofInt (-1) from if_neg q]
        exact n q
    rw [er]
    exact hk H ⟨e.1, ⟨y_J_fr e rfl rfl hI.2.1.1, j_say_e e rfl rfl hI.2.1.2.1, j_cost_e e rfl rfl hI.2.1.2.2⟩, t_day_fr e rfl hI.2.2⟩ (n_cS_V (n_fk_c (ex := []) e rfl) hc) (n_mV_3 (n_mS_V (n_fk_m e rfl) hm))
