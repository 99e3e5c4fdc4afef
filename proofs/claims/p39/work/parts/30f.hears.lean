/-! ===== v3: the reference's hearing ===== -/
def y_od (H : aH) : Prop := ∃ u l : Int64, w_f H 19630 = some (.long u) ∧ w_f H 19631 = some (.long l) ∧ 0 ≤ u.toInt ∧ 1 ≤ l.toInt
theorem y_od_fr {h H : aH} {fs as : List Nat} (q : y_od h) (e : y_fr h H fs as) (h1 : fs.elem 19630 = false) (h2 : fs.elem 19631 = false) : y_od H := by
  obtain ⟨u, l, q1, q2, q3⟩ := q
  exact ⟨u, l, (y_fe e h1).trans q1, (y_fe e h2).trans q2, q3⟩
theorem i_orM (a x : Int32) : (a ||| x) ||| a = a ||| x := by
  calc (a ||| x) ||| a = (a ||| a) ||| x := by ac_rfl
    _ = a ||| x := by rw [i_orI]
theorem y_or10 {x y : Int32} (x0 : 0 ≤ x.toInt) (x1 : x.toInt ≤ 1023) (y0 : 0 ≤ y.toInt) (y1 : y.toInt ≤ 1023) : 0 ≤ (x ||| y).toInt ∧ (x ||| y).toInt ≤ 1023 := by
  have := z_t_or (x := x) (y := y) (a := (0, 1023)) (b := (0, 1023)) ⟨x0, x1⟩ ⟨y0, y1⟩ (by decide)
  exact ⟨this.1, Int.le_trans this.2 (by decide)⟩
theorem y_bit10 {v : Int32} (h1 : 0 ≤ v.toInt) (h2 : v.toInt ≤ 9) : 0 ≤ (Int32.ofInt 1 <<< (v &&& 31)).toInt ∧ (Int32.ofInt 1 <<< (v &&& 31)).toInt ≤ 1023 := by
  rcases y_small h1 (by omega : v.toInt ≤ 10) with rfl | rfl | rfl | rfl | rfl | rfl | rfl | rfl | rfl | rfl | rfl
  all_goals first | decide | exact absurd h2 (by decide)
section WG
variable {X : aX} {C S d : Nat} {K0 : Option Value → aH → Nat → Nat → Prop} {h : aH} {nd : Int32} {sa : List Int32} {wl : List Int64}
theorem y_habit (hr : w_hr z_D h) {hd b : Int32} (h0 : 0 ≤ hd.toInt) (h5 : hd.toInt ≤ 5) (hK : ∀ (c : Bool) (H : aH), y_fr h H [] [] → K0 (some (.int (y_01 c))) H C S) : aOK s_P X d a_m260 0 [some (.ref 155), some (.int hd), some (.int b)] [] h C S K0 := by
  refine w_go z_hl [] [] 30 hr ?_
  refine ⟨⟨by omega, by omega⟩, fun l hl len bb => ⟨fun _ => ⟨by decide, fun H hH => hK false H (y_st (y_rf hr) hH (by repeat (first | exact w_nil | refine w_cons (Or.inl (y_m rfl)) ?_ | refine w_cons (Or.inr (by assumption)) ?_)) (by repeat (first | exact w_nil | refine w_cons (Or.inl (y_m rfl)) ?_ | refine w_cons (Or.inr (by assumption)) ?_)))⟩, fun _ => ⟨by decide, fun H hH => hK true H (y_st (y_rf hr) hH (by repeat (first | exact w_nil | refine w_cons (Or.inl (y_m rfl)) ?_ | refine w_cons (Or.inr (by assumption)) ?_)) (by repeat (first | exact w_nil | refine w_cons (Or.inl (y_m rfl)) ?_ | refine w_cons (Or.inr (by assumption)) ?_)))⟩⟩⟩
set_option maxRecDepth 20000 in
theorem y_hearsOne (s : y_wc h nd sa wl) (od : y_od h) {hd cl th : Int32} (h0 : 0 ≤ hd.toInt) (h5 : hd.toInt ≤ 5) (t0 : 0 ≤ th.toInt) (t9 : th.toInt ≤ 9) (hK : ∀ (x : Int32) (H : aH), y_fr h H [19587, 19588, 19589, 19630, 19631, 19632, 19633] [] → y_od H → K0 (some (.int x)) H C S) : aOK s_P X (d + 3) a_m261 0 [some (.ref 155), some (.int hd), some (.int cl), some (.int th), none, none, none, none, none, none, none, none, none, none, none, none, none, none, none, none, none, none, none, none, none, none, none, none, none, none] [] h C S K0 := by
  obtain ⟨nb0, nb10⟩ := y_ndb s.1 s.2.1
  generalize hbt : Int32.ofInt 1 <<< (th &&& 31) = bt
  have hb10 : 0 ≤ bt.toInt ∧ bt.toInt ≤ 1023 := by rw [← hbt]; exact y_bit10 t0 t9
  have T388 : ∀ {G : aH} {as : Bool} {o6 o7 o8 o10 o12 o14 o16 o18 o20 o22 o24 o26 o28 : Option Value} {u l : Int64}, y_fr h G [19587, 19588, 19589, 19630, 19631, 19632, 19633] [] → w_f G 19587 = some (.long u) → w_f G 19588 = some (.long l) → 0 ≤ u.toInt → 1 ≤ l.toInt → aOK s_P X (d + 3) a_m261 388 [some (.ref 155), some (.int hd), some (.int cl), some (.int th), some (.int bt), some (.int (y_01 as)), o6, o7, o8, none, o10, none, o12, none, o14, none, o16, none, o18, none, o20, none, o22, none, o24, none, o26, none, o28, none] [] G C S K0 := by
    intro G as o6 o7 o8 o10 o12 o14 o16 o18 o20 o22 o24 o26 o28 u l e f1 f2 u0 l1
    refine w_go z_hl [] [] 60 e.1 ?_
    intro x hx _ _
    obtain rfl := y_fl f1 hx
    refine ⟨rfl, y_zin u0 (y_l64 u).2, ?_⟩
    intro y hy _ _
    obtain rfl := y_fl f2 hy
    refine ⟨rfl, y_zin (by omega) (y_l64 l).2, ?_⟩
    intro a ha a0 a1
    have a0' : 0 ≤ a.toInt := a0
    have a1' : a.toInt ≤ 1023 := a1
    have fin : ∀ {H : aH} {v1 v2 : Value} {hf : wF}, w_rel z_D G hf [] H → hf.lookup 19630 = some (.long u) → hf.lookup 19631 = some (.long l) → y_fr h H [19587, 19588, 19589, 19630, 19631, 19632, 19633] [] → K0 (some (.int (Int32.ofInt 0))) H C S := fun hH l1' l2' e2 => hK _ _ e2 ⟨u, l, hH.2.1 19630 _ l1', hH.2.1 19631 _ l2', u0, l1⟩
    have bz : 0 ≤ (Int32.ofInt 0).toInt ∧ (Int32.ofInt 0).toInt ≤ 1023 := by decide
    cases as with
    | true =>
      have r1 := y_or10 a0' a1' hb10.1 hb10.2
      refine ⟨fun q => absurd q (by decide), fun _ => ⟨rfl, y_zini r1.1 r1.2, ?_⟩⟩
      intro b hb b0 b1
      have b0' : 0 ≤ b.toInt := b0
      have b1' : b.toInt ≤ 1023 := b1
      have r2 := y_or10 b0' b1' bz.1 bz.2
      refine ⟨fun q => absurd q (by decide), fun _ => ⟨rfl, y_zini r2.1 r2.2, fun H hH => ?_⟩⟩
      exact fin (v1 := .int a) (v2 := .int b) hH rfl rfl (y_st e hH (by repeat (first | exact w_nil | refine w_cons (Or.inl (y_m rfl)) ?_ | refine w_cons (Or.inr (by assumption)) ?_)) (by repeat (first | exact w_nil | refine w_cons (Or.inl (y_m rfl)) ?_ | refine w_cons (Or.inr (by assumption)) ?_)))
    | false =>
      have r1 := y_or10 a0' a1' bz.1 bz.2
      refine ⟨fun _ => ⟨rfl, y_zini r1.1 r1.2, ?_⟩, fun q => absurd q (by decide)⟩
      intro b hb b0 b1
      have b0' : 0 ≤ b.toInt := b0
      have b1' : b.toInt ≤ 1023 := b1
      have r2 := y_or10 b0' b1' hb10.1 hb10.2
      refine ⟨fun _ => ⟨rfl, y_zini r2.1 r2.2, fun H hH => ?_⟩, fun q => absurd q (by decide)⟩
      exact fin (v1 := .int a) (v2 := .int b) hH rfl rfl (y_st e hH (by repeat (first | exact w_nil | refine w_cons (Or.inl (y_m rfl)) ?_ | refine w_cons (Or.inr (by assumption)) ?_)) (by repeat (first | exact w_nil | refine w_cons (Or.inl (y_m rfl)) ?_ | refine w_cons (Or.inr (by assumption)) ?_)))
  have T378 : ∀ {G : aH} {as : Bool} {w wo : Int32} {oc on p q nv pu pl n dd bu bl u l : Int64}, y_fr h G [19587, 19588, 19589, 19630, 19631, 19632, 19633] [] → y_od G → w_f G 19587 = some (.long u) → w_f G 19588 = some (.long l) → 0 ≤ u.toInt → 1 ≤ l.toInt → aOK s_P X (d + 3) a_m261 378 [some (.ref 155), some (.int hd), some (.int cl), some (.int th), some (.int bt), some (.int (y_01 as)), some (.int w), some (.int wo), some (.long oc), none, some (.long on), none, some (.long p), none, some (.long q), none, some (.long nv), none, some (.long pu), none, some (.long pl), none, some (.long n), none, some (.long dd), none, some (.long bu), none, some (.long bl), none] [] G C S K0 := by
    intro G as w wo oc on p q nv pu pl n dd bu bl u l e od2 f1 f2 u0 l1
    refine w_go z_hl [388] [] 40 e.1 ?_
    intro x hx _ _
    refine ⟨fun _ => fun H hH => ?_, fun _ => fun H hH => ?_⟩
    · have f : y_fr G H [] [] := y_st (y_rf e.1) hH (by repeat (first | exact w_nil | refine w_cons (Or.inl (y_m rfl)) ?_ | refine w_cons (Or.inr (by assumption)) ?_)) (by repeat (first | exact w_nil | refine w_cons (Or.inl (y_m rfl)) ?_ | refine w_cons (Or.inr (by assumption)) ?_))
      exact T388 (y_sq e f rfl rfl) ((y_fe f rfl).trans f1) ((y_fe f rfl).trans f2) u0 l1
    · have f : y_fr G H [] [] := y_st (y_rf e.1) hH (by repeat (first | exact w_nil | refine w_cons (Or.inl (y_m rfl)) ?_ | refine w_cons (Or.inr (by assumption)) ?_)) (by repeat (first | exact w_nil | refine w_cons (Or.inl (y_m rfl)) ?_ | refine w_cons (Or.inr (by assumption)) ?_))
      exact hK _ H (y_sq e f rfl rfl) (y_od_fr od2 f rfl rfl)
  have T346 : ∀ {G : aH} {as : Bool} {w wo : Int32} {oc on p q nv pu pl n dd u l : Int64}, y_fr h G [19587, 19588, 19589, 19630, 19631, 19632, 19633] [] → y_od G → w_f G 19587 = some (.long u) → w_f G 19588 = some (.long l) → 0 ≤ u.toInt → 1 ≤ l.toInt → 0 ≤ n.toInt → 1 ≤ dd.toInt → aOK s_P X (d + 3) a_m261 346 [some (.ref 155), some (.int hd), some (.int cl), some (.int th), some (.int bt), some (.int (y_01 as)), some (.int w), some (.int wo), some (.long oc), none, some (.long on), none, some (.long p), none, some (.long q), none, some (.long nv), none, some (.long pu), none, some (.long pl), none, some (.long n), none, some (.long dd), none, none, none, none, none] [] G C S K0 := by
    intro G as w wo oc on p q nv pu pl n dd u l e od2 f1 f2 u0 l1 n0 d1
    refine w_go z_hl [] [215] 40 e.1 ?_
    intro x hx _ _
    obtain rfl := y_fl f1 hx
    intro y hy _ _
    obtain rfl := y_fl f2 hy
    refine ⟨rfl, y_zin (y_l64 n).1 (y_l64 n).2, rfl, y_zin (by show 0 ≤ dd.toInt; omega) (y_l64 dd).2, fun H hH => ?_⟩
    have f : y_fr G H [19587, 19588] [] := y_st (y_mo (y_rf e.1) rfl rfl) hH (by repeat (first | exact w_nil | refine w_cons (Or.inl (y_m rfl)) ?_ | refine w_cons (Or.inr (by assumption)) ?_)) (by repeat (first | exact w_nil | refine w_cons (Or.inl (y_m rfl)) ?_ | refine w_cons (Or.inr (by assumption)) ?_))
    have e2 : y_fr h H [19587, 19588, 19589, 19630, 19631, 19632, 19633] [] := y_sq e f rfl rfl
    refine y_times (n := u) (m := l) e2.1 u0 l1 (hH.2.1 19587 _ rfl) (hH.2.1 19588 _ rfl) n0 d1 (fun u' l' H2 a0 b0 a1 b1 g1 g2 e3 => ⟨fun n e => (by cases e), ?_⟩)
    exact T378 (y_sq e2 e3 rfl rfl) (y_od_fr (y_od_fr od2 f rfl rfl) e3 rfl rfl) g1 g2 a0 b0
  have T294 : ∀ {G : aH} {as : Bool} {w wo : Int32} {oc on p q nv pu pl u l : Int64}, y_fr h G [19587, 19588, 19589, 19630, 19631, 19632, 19633] [] → y_od G → w_f G 19587 = some (.long u) → w_f G 19588 = some (.long l) → 0 ≤ u.toInt → 1 ≤ l.toInt → 0 ≤ on.toInt → 0 ≤ nv.toInt → aOK s_P X (d + 3) a_m261 294 [some (.ref 155), some (.int hd), some (.int cl), some (.int th), some (.int bt), some (.int (y_01 as)), some (.int w), some (.int wo), some (.long oc), none, some (.long on), none, some (.long p), none, some (.long q), none, some (.long nv), none, some (.long pu), none, some (.long pl), none, none, none, none, none, none, none, none, none] [] G C S K0 := by
    intro G as w wo oc on p q nv pu pl u l e od2 f1 f2 u0 l1 on0 nv0
    refine w_go z_hl [] [194] 40 e.1 ?_
    intro x hx _ _
    have fin : ∀ {H : aH} {v : Int32}, y_fr G H [] [] → K0 (some (.int v)) H C S := fun f => hK _ _ (y_sq e f rfl rfl) (y_od_fr od2 f rfl rfl)
    have f0 : y_fr G G [] [] := y_rf e.1
    refine ⟨fun _ => ⟨fun q => ?_, fun _ => ?_⟩, fun _ => fun H hH => fin (y_st f0 hH (by repeat (first | exact w_nil | refine w_cons (Or.inl (y_m rfl)) ?_ | refine w_cons (Or.inr (by assumption)) ?_)) (by repeat (first | exact w_nil | refine w_cons (Or.inl (y_m rfl)) ?_ | refine w_cons (Or.inr (by assumption)) ?_)))⟩
    · have q2 : nv.toInt ≠ (Int64.ofNat 0).toInt := (y_cl .ne _ _).mp q
      rw [show (Int64.ofNat 0).toInt = 0 by decide] at q2
      intro y hy _ _
      obtain rfl := y_fl f1 hy
      intro z hz _ _
      obtain rfl := y_fl f2 hz
      intro H hH
      have f : y_fr G H [] [] := y_st f0 hH (by repeat (first | exact w_nil | refine w_cons (Or.inl (y_m rfl)) ?_ | refine w_cons (Or.inr (by assumption)) ?_)) (by repeat (first | exact w_nil | refine w_cons (Or.inl (y_m rfl)) ?_ | refine w_cons (Or.inr (by assumption)) ?_))
      refine q_lowest (n := on) (m := nv) f.1 (by omega) (by omega) (fun u' l' H2 e3 g1 g2 g3 g4 g5 g6 g7 => ⟨fun n e => (by cases e), ?_⟩)
      exact T346 (y_sq (y_sq e f rfl rfl) e3 rfl rfl) (y_od_fr (y_od_fr od2 f rfl rfl) e3 rfl rfl) g1 g2 (g7 on0) g3 u0 l1
    · intro y hy _ _
      exact ⟨fun _ => fun H hH => fin (y_st f0 hH (by repeat (first | exact w_nil | refine w_cons (Or.inl (y_m rfl)) ?_ | refine w_cons (Or.inr (by assumption)) ?_)) (by repeat (first | exact w_nil | refine w_cons (Or.inl (y_m rfl)) ?_ | refine w_cons (Or.inr (by assumption)) ?_))), fun _ => fun H hH => fin (y_st f0 hH (by repeat (first | exact w_nil | refine w_cons (Or.inl (y_m rfl)) ?_ | refine w_cons (Or.inr (by assumption)) ?_)) (by repeat (first | exact w_nil | refine w_cons (Or.inl (y_m rfl)) ?_ | refine w_cons (Or.inr (by assumption)) ?_)))⟩
  have T258 : ∀ {G : aH} {as : Bool} {w wo : Int32} {oc on p q nv u l : Int64}, y_fr h G [19587, 19588, 19589, 19630, 19631, 19632, 19633] [] → y_od G → w_f G 19587 = some (.long u) → w_f G 19588 = some (.long l) → 0 ≤ u.toInt → 1 ≤ l.toInt → 0 ≤ on.toInt → 0 ≤ nv.toInt → aOK s_P X (d + 3) a_m261 258 [some (.ref 155), some (.int hd), some (.int cl), some (.int th), some (.int bt), some (.int (y_01 as)), some (.int w), some (.int wo), some (.long oc), none, some (.long on), none, some (.long p), none, some (.long q), none, some (.long nv), none, none, none, none, none, none, none, none, none, none, none, none, none] [] G C S K0 := by
    intro G as w wo oc on p q nv u l e od2 f1 f2 u0 l1 on0 nv0
    obtain ⟨ou, ol, o1, o2, o3, o4⟩ := id od2
    refine w_go z_hl [] [215] 40 e.1 ?_
    intro x hx _ _
    obtain rfl := y_fl f1 hx
    intro y hy _ _
    obtain rfl := y_fl f2 hy
    intro z hz _ _
    obtain rfl := y_fl o1 hz
    refine ⟨rfl, y_zin (y_l64 ou).1 (y_l64 ou).2, ?_⟩
    intro v hv _ _
    obtain rfl := y_fl o2 hv
    refine ⟨rfl, y_zin (by show 0 ≤ ol.toInt; omega) (y_l64 ol).2, fun H hH => ?_⟩
    have f : y_fr G H [19587, 19588] [] := y_st (y_mo (y_rf e.1) rfl rfl) hH (by repeat (first | exact w_nil | refine w_cons (Or.inl (y_m rfl)) ?_ | refine w_cons (Or.inr (by assumption)) ?_)) (by repeat (first | exact w_nil | refine w_cons (Or.inl (y_m rfl)) ?_ | refine w_cons (Or.inr (by assumption)) ?_))
    have e2 : y_fr h H [19587, 19588, 19589, 19630, 19631, 19632, 19633] [] := y_sq e f rfl rfl
    refine y_times (n := u) (m := l) e2.1 u0 l1 (hH.2.1 19587 _ rfl) (hH.2.1 19588 _ rfl) o3 o4 (fun u' l' H2 a0 b0 a1 b1 g1 g2 e3 => ⟨fun n e => (by cases e), ?_⟩)
    exact T294 (y_sq e2 e3 rfl rfl) (y_od_fr (y_od_fr od2 f rfl rfl) e3 rfl rfl) g1 g2 a0 b0 on0 nv0
  have T247 : ∀ {G : aH} {as : Bool} {w wo : Int32} {oc on p q nv u l : Int64}, y_fr h G [19587, 19588, 19589, 19630, 19631, 19632, 19633] [] → w_f G 19587 = some (.long u) → w_f G 19588 = some (.long l) → 0 ≤ u.toInt → 1 ≤ l.toInt → aOK s_P X (d + 3) a_m261 247 [some (.ref 155), some (.int hd), some (.int cl), some (.int th), some (.int bt), some (.int (y_01 as)), some (.int w), some (.int wo), some (.long oc), none, some (.long on), none, some (.long p), none, some (.long q), none, some (.long nv), none, none, none, none, none, none, none, none, none, none, none, none, none] [] G C S K0 := by
    intro G as w wo oc on p q nv u l e f1 f2 u0 l1
    refine w_go z_hl [388] [] 40 e.1 ?_
    intro H hH
    have f : y_fr G H [] [] := y_st (y_rf e.1) hH (by repeat (first | exact w_nil | refine w_cons (Or.inl (y_m rfl)) ?_ | refine w_cons (Or.inr (by assumption)) ?_)) (by repeat (first | exact w_nil | refine w_cons (Or.inl (y_m rfl)) ?_ | refine w_cons (Or.inr (by assumption)) ?_))
    exact T388 (y_sq e f rfl rfl) ((y_fe f rfl).trans f1) ((y_fe f rfl).trans f2) u0 l1
  have T224 : ∀ {G : aH} {as c : Bool} {w wo : Int32} {oc on p q nv : Int64}, y_fr h G [19587, 19588, 19589, 19630, 19631, 19632, 19633] [] → y_od G → 1 ≤ oc.toInt → 0 ≤ on.toInt → on.toInt ≤ 100000000 → 0 ≤ p.toInt → 0 ≤ nv.toInt → nv.toInt ≤ on.toInt → aOK s_P X (d + 3) a_m261 224 [some (.ref 155), some (.int hd), some (.int cl), some (.int th), some (.int bt), some (.int (y_01 as)), some (.int w), some (.int wo), some (.long oc), none, some (.long on), none, some (.long p), none, some (.long q), none, some (.long nv), none, none, none, none, none, none, none, none, none, none, none, none, none] [.int (y_01 c)] G C S K0 := by
    intro G as c w wo oc on p q nv e od2 oc1 on0 on8 p0 nv0 nvo
    have sb : (on - nv).toInt = on.toInt - nv.toInt := y_lsub (by omega) (by omega)
    have f0 : y_fr G G [] [] := y_rf e.1
    refine w_go z_hl [] [194] 40 e.1 ?_
    refine ⟨fun _ => fun H hH => ?_, fun _ => ⟨fun q => fun H hH => ?_, fun _ => fun H hH => hK _ H (y_sq e (y_st f0 hH (by repeat (first | exact w_nil | refine w_cons (Or.inl (y_m rfl)) ?_ | refine w_cons (Or.inr (by assumption)) ?_)) (by repeat (first | exact w_nil | refine w_cons (Or.inl (y_m rfl)) ?_ | refine w_cons (Or.inr (by assumption)) ?_))) rfl rfl) (y_od_fr od2 (y_st f0 hH (by repeat (first | exact w_nil | refine w_cons (Or.inl (y_m rfl)) ?_ | refine w_cons (Or.inr (by assumption)) ?_)) (by repeat (first | exact w_nil | refine w_cons (Or.inl (y_m rfl)) ?_ | refine w_cons (Or.inr (by assumption)) ?_))) rfl rfl)⟩⟩
    · have f : y_fr G H [] [] := y_st f0 hH (by repeat (first | exact w_nil | refine w_cons (Or.inl (y_m rfl)) ?_ | refine w_cons (Or.inr (by assumption)) ?_)) (by repeat (first | exact w_nil | refine w_cons (Or.inl (y_m rfl)) ?_ | refine w_cons (Or.inr (by assumption)) ?_))
      refine q_lowest (n := p) (m := oc) f.1 (by omega) oc1 (fun u' l' H2 e3 g1 g2 g3 g4 g5 g6 g7 => ⟨fun n e => (by cases e), ?_⟩)
      exact T258 (y_sq (y_sq e f rfl rfl) e3 rfl rfl) (y_od_fr (y_od_fr od2 f rfl rfl) e3 rfl rfl) g1 g2 (g7 p0) g3 on0 nv0
    · have q2 : nv.toInt ≠ (Int64.ofNat 0).toInt := (y_cl .ne _ _).mp q
      rw [show (Int64.ofNat 0).toInt = 0 by decide] at q2
      have f : y_fr G H [] [] := y_st f0 hH (by repeat (first | exact w_nil | refine w_cons (Or.inl (y_m rfl)) ?_ | refine w_cons (Or.inr (by assumption)) ?_)) (by repeat (first | exact w_nil | refine w_cons (Or.inl (y_m rfl)) ?_ | refine w_cons (Or.inr (by assumption)) ?_))
      refine q_lowest (n := on - nv) (m := nv) f.1 (by omega) (by omega) (fun u' l' H2 e3 g1 g2 g3 g4 g5 g6 g7 => ⟨fun n e => (by cases e), ?_⟩)
      exact T247 (y_sq (y_sq e f rfl rfl) e3 rfl rfl) g1 g2 (g7 (by omega)) g3
  have T216 : ∀ {G : aH} {as : Bool} {w wo : Int32} {oc on p q nv : Int64}, y_fr h G [19587, 19588, 19589, 19630, 19631, 19632, 19633] [] → y_od G → 1 ≤ oc.toInt → 0 ≤ on.toInt → on.toInt ≤ 100000000 → 0 ≤ p.toInt → 0 ≤ nv.toInt → nv.toInt ≤ on.toInt → aOK s_P X (d + 3) a_m261 216 [some (.ref 155), some (.int hd), some (.int cl), some (.int th), some (.int bt), some (.int (y_01 as)), some (.int w), some (.int wo), some (.long oc), none, some (.long on), none, some (.long p), none, some (.long q), none, none, none, none, none, none, none, none, none, none, none, none, none, none, none] [.long nv] G C S K0 := by
    intro G as w wo oc on p q nv e od2 oc1 on0 on8 p0 nv0 nvo
    refine w_go z_hl [] [260] 40 e.1 ?_
    intro H hH
    have f : y_fr G H [] [] := y_st (y_rf e.1) hH (by repeat (first | exact w_nil | refine w_cons (Or.inl (y_m rfl)) ?_ | refine w_cons (Or.inr (by assumption)) ?_)) (by repeat (first | exact w_nil | refine w_cons (Or.inl (y_m rfl)) ?_ | refine w_cons (Or.inr (by assumption)) ?_))
    refine y_habit f.1 h0 h5 (fun c H2 e3 => ⟨fun n e => (by cases e), ?_⟩)
    exact T224 (y_sq (y_sq e f rfl rfl) e3 rfl rfl) (y_od_fr (y_od_fr od2 f rfl rfl) e3 rfl rfl) oc1 on0 on8 p0 nv0 nvo
  have T187 : ∀ {G : aH} {as c : Bool} {w wo : Int32} {oc on p q : Int64}, y_fr h G [19587, 19588, 19589, 19630, 19631, 19632, 19633] [] → y_od G → 1 ≤ oc.toInt → 0 ≤ on.toInt → on.toInt ≤ 100000000 → 0 ≤ p.toInt → 0 ≤ q.toInt → q.toInt ≤ on.toInt → aOK s_P X (d + 3) a_m261 187 [some (.ref 155), some (.int hd), some (.int cl), some (.int th), some (.int bt), some (.int (y_01 as)), some (.int w), some (.int wo), some (.long oc), none, some (.long on), none, some (.long p), none, some (.long q), none, none, none, none, none, none, none, none, none, none, none, none, none, none, none] [.int (y_01 c)] G C S K0 := by
    intro G as c w wo oc on p q e od2 oc1 on0 on8 p0 q0 qo
    have f0 : y_fr G G [] [] := y_rf e.1
    refine w_go z_hl [216] [] 40 e.1 ?_
    refine ⟨fun _ => fun H hH => T216 (y_sq e (y_st f0 hH (by repeat (first | exact w_nil | refine w_cons (Or.inl (y_m rfl)) ?_ | refine w_cons (Or.inr (by assumption)) ?_)) (by repeat (first | exact w_nil | refine w_cons (Or.inl (y_m rfl)) ?_ | refine w_cons (Or.inr (by assumption)) ?_))) rfl rfl) (y_od_fr od2 (y_st f0 hH (by repeat (first | exact w_nil | refine w_cons (Or.inl (y_m rfl)) ?_ | refine w_cons (Or.inr (by assumption)) ?_)) (by repeat (first | exact w_nil | refine w_cons (Or.inl (y_m rfl)) ?_ | refine w_cons (Or.inr (by assumption)) ?_))) rfl rfl) oc1 on0 on8 p0 q0 qo, fun _ => ⟨⟨by omega, by omega⟩, fun l hl len bb => ⟨fun _ => fun H hH => T216 (y_sq e (y_st f0 hH (by repeat (first | exact w_nil | refine w_cons (Or.inl (y_m rfl)) ?_ | refine w_cons (Or.inr (by assumption)) ?_)) (by repeat (first | exact w_nil | refine w_cons (Or.inl (y_m rfl)) ?_ | refine w_cons (Or.inr (by assumption)) ?_))) rfl rfl) (y_od_fr od2 (y_st f0 hH (by repeat (first | exact w_nil | refine w_cons (Or.inl (y_m rfl)) ?_ | refine w_cons (Or.inr (by assumption)) ?_)) (by repeat (first | exact w_nil | refine w_cons (Or.inl (y_m rfl)) ?_ | refine w_cons (Or.inr (by assumption)) ?_))) rfl rfl) oc1 on0 on8 p0 q0 qo, fun _ => fun H hH => T216 (y_sq e (y_st f0 hH (by repeat (first | exact w_nil | refine w_cons (Or.inl (y_m rfl)) ?_ | refine w_cons (Or.inr (by assumption)) ?_)) (by repeat (first | exact w_nil | refine w_cons (Or.inl (y_m rfl)) ?_ | refine w_cons (Or.inr (by assumption)) ?_))) rfl rfl) (y_od_fr od2 (y_st f0 hH (by repeat (first | exact w_nil | refine w_cons (Or.inl (y_m rfl)) ?_ | refine w_cons (Or.inr (by assumption)) ?_)) (by repeat (first | exact w_nil | refine w_cons (Or.inl (y_m rfl)) ?_ | refine w_cons (Or.inr (by assumption)) ?_))) rfl rfl) oc1 on0 on8 p0 (by decide) on0⟩⟩⟩
  have T178 : ∀ {G : aH} {as : Bool} {w wo : Int32} {oc on p q : Int64}, y_fr h G [19587, 19588, 19589, 19630, 19631, 19632, 19633] [] → y_od G → 1 ≤ oc.toInt → 0 ≤ on.toInt → on.toInt ≤ 100000000 → 0 ≤ p.toInt → 0 ≤ q.toInt → q.toInt ≤ on.toInt → aOK s_P X (d + 3) a_m261 178 [some (.ref 155), some (.int hd), some (.int cl), some (.int th), some (.int bt), some (.int (y_01 as)), some (.int w), some (.int wo), some (.long oc), none, some (.long on), none, some (.long p), none, none, none, none, none, none, none, none, none, none, none, none, none, none, none, none, none] [.long q] G C S K0 := by
    intro G as w wo oc on p q e od2 oc1 on0 on8 p0 q0 qo
    refine w_go z_hl [] [260] 40 e.1 ?_
    intro H hH
    have f : y_fr G H [] [] := y_st (y_rf e.1) hH (by repeat (first | exact w_nil | refine w_cons (Or.inl (y_m rfl)) ?_ | refine w_cons (Or.inr (by assumption)) ?_)) (by repeat (first | exact w_nil | refine w_cons (Or.inl (y_m rfl)) ?_ | refine w_cons (Or.inr (by assumption)) ?_))
    refine y_habit f.1 h0 h5 (fun c H2 e3 => ⟨fun n e => (by cases e), ?_⟩)
    exact T187 (y_sq (y_sq e f rfl rfl) e3 rfl rfl) (y_od_fr (y_od_fr od2 f rfl rfl) e3 rfl rfl) oc1 on0 on8 p0 q0 qo
  have T175 : ∀ {G : aH} {as : Bool} {w wo x y : Int32} {oc on p : Int64}, y_fr h G [19587, 19588, 19589, 19630, 19631, 19632, 19633] [] → y_od G → 1 ≤ oc.toInt → on.toInt = y_ws wl w (wo ||| Int32.ofInt 1 <<< (cl &&& 31)) (y_ways nd) → 0 ≤ p.toInt → aOK s_P X (d + 3) a_m261 175 [some (.ref 155), some (.int hd), some (.int cl), some (.int th), some (.int bt), some (.int (y_01 as)), some (.int w), some (.int wo), some (.long oc), none, some (.long on), none, some (.long p), none, none, none, none, none, none, none, none, none, none, none, none, none, none, none, none, none] [.int ((wo ||| Int32.ofInt 1 <<< (cl &&& 31)) ||| y), .int (w ||| x), .ref 155] G C S K0 := by
    intro G as w wo x y oc on p e od2 oc1 hon p0
    refine w_go z_hl [] [193] 40 e.1 ?_
    intro H hH
    have f : y_fr G H [] [] := y_st (y_rf e.1) hH (by repeat (first | exact w_nil | refine w_cons (Or.inl (y_m rfl)) ?_ | refine w_cons (Or.inr (by assumption)) ?_)) (by repeat (first | exact w_nil | refine w_cons (Or.inl (y_m rfl)) ?_ | refine w_cons (Or.inr (by assumption)) ?_))
    have e2 := y_sq e f rfl rfl
    have s2 := y_wc_fr s e2 rfl rfl rfl
    refine aOK_deep (d := d + 1) (by omega) (y_weighs s2.1 s2.2.1 s2.2.2.2 (fun r H2 e3 hr => ⟨fun n e => (by cases e), ?_⟩))
    have bb := y_ws_b s.2.2.2.2.1 (a := w ||| x) (b := (wo ||| Int32.ofInt 1 <<< (cl &&& 31)) ||| y) (y_ways nd)
    have bo := y_ws_b s.2.2.2.2.1 (a := w) (b := wo ||| Int32.ofInt 1 <<< (cl &&& 31)) (y_ways nd)
    have t := y_tot_m s.2.2.2.2.1 (y_all nb0 nb10).2.2
    have tw := s.2.2.2.2.2
    have mm := y_ws_m s.2.2.2.2.1 (i_orM w x) (i_orM (wo ||| Int32.ofInt 1 <<< (cl &&& 31)) y) (y_ways nd)
    exact T178 (y_sq e2 e3 rfl rfl) (y_od_fr (y_od_fr od2 f rfl rfl) e3 rfl rfl) oc1 (by omega) (by omega) p0 (by omega) (by omega)
  have T140 : ∀ {G : aH} {as : Bool} {w wo : Int32} {oc on p : Int64}, y_fr h G [19587, 19588, 19589, 19630, 19631, 19632, 19633] [] → y_od G → 1 ≤ oc.toInt → on.toInt = y_ws wl w (wo ||| Int32.ofInt 1 <<< (cl &&& 31)) (y_ways nd) → 0 ≤ p.toInt → aOK s_P X (d + 3) a_m261 140 [some (.ref 155), some (.int hd), some (.int cl), some (.int th), some (.int bt), some (.int (y_01 as)), some (.int w), some (.int wo), some (.long oc), none, some (.long on), none, none, none, none, none, none, none, none, none, none, none, none, none, none, none, none, none, none, none] [.long p] G C S K0 := by
    intro G as w wo oc on p e od2 oc1 hon p0
    have f0 : y_fr G G [] [] := y_rf e.1
    refine w_go z_hl [175] [] 40 e.1 ?_
    cases as with
    | true => exact ⟨fun q => absurd q (by decide), fun _ => ⟨fun q => absurd q (by decide), fun _ => fun H hH => T175 (as := true) (y_sq e (y_st f0 hH (by repeat (first | exact w_nil | refine w_cons (Or.inl (y_m rfl)) ?_ | refine w_cons (Or.inr (by assumption)) ?_)) (by repeat (first | exact w_nil | refine w_cons (Or.inl (y_m rfl)) ?_ | refine w_cons (Or.inr (by assumption)) ?_))) rfl rfl) (y_od_fr od2 (y_st f0 hH (by repeat (first | exact w_nil | refine w_cons (Or.inl (y_m rfl)) ?_ | refine w_cons (Or.inr (by assumption)) ?_)) (by repeat (first | exact w_nil | refine w_cons (Or.inl (y_m rfl)) ?_ | refine w_cons (Or.inr (by assumption)) ?_))) rfl rfl) oc1 hon p0⟩⟩
    | false => exact ⟨fun _ => ⟨fun _ => fun H hH => T175 (as := false) (y_sq e (y_st f0 hH (by repeat (first | exact w_nil | refine w_cons (Or.inl (y_m rfl)) ?_ | refine w_cons (Or.inr (by assumption)) ?_)) (by repeat (first | exact w_nil | refine w_cons (Or.inl (y_m rfl)) ?_ | refine w_cons (Or.inr (by assumption)) ?_))) rfl rfl) (y_od_fr od2 (y_st f0 hH (by repeat (first | exact w_nil | refine w_cons (Or.inl (y_m rfl)) ?_ | refine w_cons (Or.inr (by assumption)) ?_)) (by repeat (first | exact w_nil | refine w_cons (Or.inl (y_m rfl)) ?_ | refine w_cons (Or.inr (by assumption)) ?_))) rfl rfl) oc1 hon p0, fun q => absurd q (by decide)⟩, fun q => absurd q (by decide)⟩
  have T137 : ∀ {G : aH} {as : Bool} {w wo x y : Int32} {oc on : Int64}, y_fr h G [19587, 19588, 19589, 19630, 19631, 19632, 19633] [] → y_od G → 1 ≤ oc.toInt → on.toInt = y_ws wl w (wo ||| Int32.ofInt 1 <<< (cl &&& 31)) (y_ways nd) → aOK s_P X (d + 3) a_m261 137 [some (.ref 155), some (.int hd), some (.int cl), some (.int th), some (.int bt), some (.int (y_01 as)), some (.int w), some (.int wo), some (.long oc), none, some (.long on), none, none, none, none, none, none, none, none, none, none, none, none, none, none, none, none, none, none, none] [.int y, .int x, .ref 155] G C S K0 := by
    intro G as w wo x y oc on e od2 oc1 hon
    refine w_go z_hl [] [193] 40 e.1 ?_
    intro H hH
    have f : y_fr G H [] [] := y_st (y_rf e.1) hH (by repeat (first | exact w_nil | refine w_cons (Or.inl (y_m rfl)) ?_ | refine w_cons (Or.inr (by assumption)) ?_)) (by repeat (first | exact w_nil | refine w_cons (Or.inl (y_m rfl)) ?_ | refine w_cons (Or.inr (by assumption)) ?_))
    have e2 := y_sq e f rfl rfl
    refine aOK_deep (d := d + 1) (by omega) (q_weighs (y_wc_fr s e2 rfl rfl rfl) (fun r H2 e3 r0 r8 => ⟨fun n e => (by cases e), ?_⟩))
    exact T140 (y_sq e2 e3 rfl rfl) (y_od_fr (y_od_fr od2 f rfl rfl) e3 rfl rfl) oc1 hon r0
  have T86 : ∀ {G : aH} {as : Bool} {w wo : Int32} {oc on : Int64}, y_fr h G [19587, 19588, 19589, 19630, 19631, 19632, 19633] [] → y_od G → 0 ≤ oc.toInt → on.toInt = y_ws wl w (wo ||| Int32.ofInt 1 <<< (cl &&& 31)) (y_ways nd) → aOK s_P X (d + 3) a_m261 86 [some (.ref 155), some (.int hd), some (.int cl), some (.int th), some (.int bt), some (.int (y_01 as)), some (.int w), some (.int wo), some (.long oc), none, none, none, none, none, none, none, none, none, none, none, none, none, none, none, none, none, none, none, none, none] [.long on] G C S K0 := by
    intro G as w wo oc on e od2 oc0 hon
    have f0 : y_fr G G [] [] := y_rf e.1
    have fin : ∀ {H : aH} {v : Int32}, y_fr G H [] [] → K0 (some (.int v)) H C S := fun f => hK _ _ (y_sq e f rfl rfl) (y_od_fr od2 f rfl rfl)
    refine w_go z_hl [137] [] 60 e.1 ?_
    refine ⟨fun _ => fun H hH => fin (y_st f0 hH (by repeat (first | exact w_nil | refine w_cons (Or.inl (y_m rfl)) ?_ | refine w_cons (Or.inr (by assumption)) ?_)) (by repeat (first | exact w_nil | refine w_cons (Or.inl (y_m rfl)) ?_ | refine w_cons (Or.inr (by assumption)) ?_))), fun q => ⟨fun _ => ?_, fun _ => fun H hH => fin (y_st f0 hH (by repeat (first | exact w_nil | refine w_cons (Or.inl (y_m rfl)) ?_ | refine w_cons (Or.inr (by assumption)) ?_)) (by repeat (first | exact w_nil | refine w_cons (Or.inl (y_m rfl)) ?_ | refine w_cons (Or.inr (by assumption)) ?_)))⟩⟩
    have q2 : ¬ (oc.toInt = (Int64.ofNat 0).toInt) := y_clf q
    rw [show (Int64.ofNat 0).toInt = 0 by decide] at q2
    cases as with
    | true => exact ⟨fun q => absurd q (by decide), fun _ => ⟨fun q => absurd q (by decide), fun _ => fun H hH => T137 (as := true) (y_sq e (y_st f0 hH (by repeat (first | exact w_nil | refine w_cons (Or.inl (y_m rfl)) ?_ | refine w_cons (Or.inr (by assumption)) ?_)) (by repeat (first | exact w_nil | refine w_cons (Or.inl (y_m rfl)) ?_ | refine w_cons (Or.inr (by assumption)) ?_))) rfl rfl) (y_od_fr od2 (y_st f0 hH (by repeat (first | exact w_nil | refine w_cons (Or.inl (y_m rfl)) ?_ | refine w_cons (Or.inr (by assumption)) ?_)) (by repeat (first | exact w_nil | refine w_cons (Or.inl (y_m rfl)) ?_ | refine w_cons (Or.inr (by assumption)) ?_))) rfl rfl) (by omega) hon⟩⟩
    | false => exact ⟨fun _ => ⟨fun _ => fun H hH => T137 (as := false) (y_sq e (y_st f0 hH (by repeat (first | exact w_nil | refine w_cons (Or.inl (y_m rfl)) ?_ | refine w_cons (Or.inr (by assumption)) ?_)) (by repeat (first | exact w_nil | refine w_cons (Or.inl (y_m rfl)) ?_ | refine w_cons (Or.inr (by assumption)) ?_))) rfl rfl) (y_od_fr od2 (y_st f0 hH (by repeat (first | exact w_nil | refine w_cons (Or.inl (y_m rfl)) ?_ | refine w_cons (Or.inr (by assumption)) ?_)) (by repeat (first | exact w_nil | refine w_cons (Or.inl (y_m rfl)) ?_ | refine w_cons (Or.inr (by assumption)) ?_))) rfl rfl) (by omega) hon, fun q => absurd q (by decide)⟩, fun q => absurd q (by decide)⟩
  have T72 : ∀ {G : aH} {as : Bool} {w wo : Int32} {oc : Int64}, y_fr h G [19587, 19588, 19589, 19630, 19631, 19632, 19633] [] → y_od G → 0 ≤ oc.toInt → aOK s_P X (d + 3) a_m261 72 [some (.ref 155), some (.int hd), some (.int cl), some (.int th), some (.int bt), some (.int (y_01 as)), some (.int w), some (.int wo), none, none, none, none, none, none, none, none, none, none, none, none, none, none, none, none, none, none, none, none, none, none] [.long oc] G C S K0 := by
    intro G as w wo oc e od2 oc0
    refine w_go z_hl [] [193] 40 e.1 ?_
    intro H hH
    have f : y_fr G H [] [] := y_st (y_rf e.1) hH (by repeat (first | exact w_nil | refine w_cons (Or.inl (y_m rfl)) ?_ | refine w_cons (Or.inr (by assumption)) ?_)) (by repeat (first | exact w_nil | refine w_cons (Or.inl (y_m rfl)) ?_ | refine w_cons (Or.inr (by assumption)) ?_))
    have e2 := y_sq e f rfl rfl
    have s2 := y_wc_fr s e2 rfl rfl rfl
    refine aOK_deep (d := d + 1) (by omega) (y_weighs s2.1 s2.2.1 s2.2.2.2 (fun r H2 e3 hr => ⟨fun n e => (by cases e), ?_⟩))
    exact T86 (y_sq e2 e3 rfl rfl) (y_od_fr (y_od_fr od2 f rfl rfl) e3 rfl rfl) oc0 hr
  have T58 : ∀ {G : aH} {as : Bool} {w wo : Int32}, y_fr h G [19587, 19588, 19589, 19630, 19631, 19632, 19633] [] → y_od G → aOK s_P X (d + 3) a_m261 58 [some (.ref 155), some (.int hd), some (.int cl), some (.int th), some (.int bt), some (.int (y_01 as)), some (.int w), none, none, none, none, none, none, none, none, none, none, none, none, none, none, none, none, none, none, none, none, none, none, none] [.int wo] G C S K0 := by
    intro G as w wo e od2
    refine w_go z_hl [] [193] 40 e.1 ?_
    intro H hH
    have f : y_fr G H [] [] := y_st (y_rf e.1) hH (by repeat (first | exact w_nil | refine w_cons (Or.inl (y_m rfl)) ?_ | refine w_cons (Or.inr (by assumption)) ?_)) (by repeat (first | exact w_nil | refine w_cons (Or.inl (y_m rfl)) ?_ | refine w_cons (Or.inr (by assumption)) ?_))
    have e2 := y_sq e f rfl rfl
    refine aOK_deep (d := d + 1) (by omega) (q_weighs (y_wc_fr s e2 rfl rfl rfl) (fun r H2 e3 r0 r8 => ⟨fun n e => (by cases e), ?_⟩))
    exact T72 (y_sq e2 e3 rfl rfl) (y_od_fr (y_od_fr od2 f rfl rfl) e3 rfl rfl) r0
  have T47 : ∀ {G : aH} {as c : Bool} {w : Int32}, y_fr h G [19587, 19588, 19589, 19630, 19631, 19632, 19633] [] → y_od G → aOK s_P X (d + 3) a_m261 47 [some (.ref 155), some (.int hd), some (.int cl), some (.int th), some (.int bt), some (.int (y_01 as)), some (.int w), none, none, none, none, none, none, none, none, none, none, none, none, none, none, none, none, none, none, none, none, none, none, none] [.int (y_01 c)] G C S K0 := by
    intro G as c w e od2
    have f0 : y_fr G G [] [] := y_rf e.1
    refine w_go z_hl [58] [] 40 e.1 ?_
    refine ⟨fun _ => ?_, fun _ => fun H hH => T58 (y_sq e (y_st f0 hH (by repeat (first | exact w_nil | refine w_cons (Or.inl (y_m rfl)) ?_ | refine w_cons (Or.inr (by assumption)) ?_)) (by repeat (first | exact w_nil | refine w_cons (Or.inl (y_m rfl)) ?_ | refine w_cons (Or.inr (by assumption)) ?_))) rfl rfl) (y_od_fr od2 (y_st f0 hH (by repeat (first | exact w_nil | refine w_cons (Or.inl (y_m rfl)) ?_ | refine w_cons (Or.inr (by assumption)) ?_)) (by repeat (first | exact w_nil | refine w_cons (Or.inl (y_m rfl)) ?_ | refine w_cons (Or.inr (by assumption)) ?_))) rfl rfl)⟩
    intro x hx _ _
    exact fun H hH => T58 (y_sq e (y_st f0 hH (by repeat (first | exact w_nil | refine w_cons (Or.inl (y_m rfl)) ?_ | refine w_cons (Or.inr (by assumption)) ?_)) (by repeat (first | exact w_nil | refine w_cons (Or.inl (y_m rfl)) ?_ | refine w_cons (Or.inr (by assumption)) ?_))) rfl rfl) (y_od_fr od2 (y_st f0 hH (by repeat (first | exact w_nil | refine w_cons (Or.inl (y_m rfl)) ?_ | refine w_cons (Or.inr (by assumption)) ?_)) (by repeat (first | exact w_nil | refine w_cons (Or.inl (y_m rfl)) ?_ | refine w_cons (Or.inr (by assumption)) ?_))) rfl rfl)
  have T39 : ∀ {G : aH} {as : Bool} {w : Int32}, y_fr h G [19587, 19588, 19589, 19630, 19631, 19632, 19633] [] → y_od G → aOK s_P X (d + 3) a_m261 39 [some (.ref 155), some (.int hd), some (.int cl), some (.int th), some (.int bt), some (.int (y_01 as)), none, none, none, none, none, none, none, none, none, none, none, none, none, none, none, none, none, none, none, none, none, none, none, none] [.int w] G C S K0 := by
    intro G as w e od2
    refine w_go z_hl [] [260] 40 e.1 ?_
    intro H hH
    have f : y_fr G H [] [] := y_st (y_rf e.1) hH (by repeat (first | exact w_nil | refine w_cons (Or.inl (y_m rfl)) ?_ | refine w_cons (Or.inr (by assumption)) ?_)) (by repeat (first | exact w_nil | refine w_cons (Or.inl (y_m rfl)) ?_ | refine w_cons (Or.inr (by assumption)) ?_))
    refine y_habit f.1 h0 h5 (fun c H2 e3 => ⟨fun n e => (by cases e), ?_⟩)
    exact T47 (y_sq (y_sq e f rfl rfl) e3 rfl rfl) (y_od_fr (y_od_fr od2 f rfl rfl) e3 rfl rfl)
  have T28 : ∀ {G : aH} {as c : Bool}, y_fr h G [19587, 19588, 19589, 19630, 19631, 19632, 19633] [] → y_od G → aOK s_P X (d + 3) a_m261 28 [some (.ref 155), some (.int hd), some (.int cl), some (.int th), some (.int bt), some (.int (y_01 as)), none, none, none, none, none, none, none, none, none, none, none, none, none, none, none, none, none, none, none, none, none, none, none, none] [.int (y_01 c)] G C S K0 := by
    intro G as c e od2
    have f0 : y_fr G G [] [] := y_rf e.1
    refine w_go z_hl [39] [] 40 e.1 ?_
    refine ⟨fun _ => ?_, fun _ => fun H hH => T39 (y_sq e (y_st f0 hH (by repeat (first | exact w_nil | refine w_cons (Or.inl (y_m rfl)) ?_ | refine w_cons (Or.inr (by assumption)) ?_)) (by repeat (first | exact w_nil | refine w_cons (Or.inl (y_m rfl)) ?_ | refine w_cons (Or.inr (by assumption)) ?_))) rfl rfl) (y_od_fr od2 (y_st f0 hH (by repeat (first | exact w_nil | refine w_cons (Or.inl (y_m rfl)) ?_ | refine w_cons (Or.inr (by assumption)) ?_)) (by repeat (first | exact w_nil | refine w_cons (Or.inl (y_m rfl)) ?_ | refine w_cons (Or.inr (by assumption)) ?_))) rfl rfl)⟩
    intro x hx _ _
    exact fun H hH => T39 (y_sq e (y_st f0 hH (by repeat (first | exact w_nil | refine w_cons (Or.inl (y_m rfl)) ?_ | refine w_cons (Or.inr (by assumption)) ?_)) (by repeat (first | exact w_nil | refine w_cons (Or.inl (y_m rfl)) ?_ | refine w_cons (Or.inr (by assumption)) ?_))) rfl rfl) (y_od_fr od2 (y_st f0 hH (by repeat (first | exact w_nil | refine w_cons (Or.inl (y_m rfl)) ?_ | refine w_cons (Or.inr (by assumption)) ?_)) (by repeat (first | exact w_nil | refine w_cons (Or.inl (y_m rfl)) ?_ | refine w_cons (Or.inr (by assumption)) ?_))) rfl rfl)
  have T20 : ∀ {G : aH} {as : Bool}, y_fr h G [19587, 19588, 19589, 19630, 19631, 19632, 19633] [] → y_od G → aOK s_P X (d + 3) a_m261 20 [some (.ref 155), some (.int hd), some (.int cl), some (.int th), some (.int bt), none, none, none, none, none, none, none, none, none, none, none, none, none, none, none, none, none, none, none, none, none, none, none, none, none] [.int (y_01 as)] G C S K0 := by
    intro G as e od2
    refine w_go z_hl [] [260] 40 e.1 ?_
    intro H hH
    have f : y_fr G H [] [] := y_st (y_rf e.1) hH (by repeat (first | exact w_nil | refine w_cons (Or.inl (y_m rfl)) ?_ | refine w_cons (Or.inr (by assumption)) ?_)) (by repeat (first | exact w_nil | refine w_cons (Or.inl (y_m rfl)) ?_ | refine w_cons (Or.inr (by assumption)) ?_))
    refine y_habit f.1 h0 h5 (fun c H2 e3 => ⟨fun n e => (by cases e), ?_⟩)
    exact T28 (y_sq (y_sq e f rfl rfl) e3 rfl rfl) (y_od_fr (y_od_fr od2 f rfl rfl) e3 rfl rfl)
  have e0 : y_fr h h [19587, 19588, 19589, 19630, 19631, 19632, 19633] [] := y_mo (y_rf s.1) rfl rfl
  have f0 : y_fr h h [] [] := y_rf s.1
  refine w_go z_hl [20] [] 40 s.1 ?_
  refine ⟨⟨by omega, by omega⟩, fun l hl len bb => ⟨fun _ => fun H hH => ?_, fun _ => fun H hH => ?_⟩⟩
  · have := T20 (as := false) (y_st e0 hH (by repeat (first | exact w_nil | refine w_cons (Or.inl (y_m rfl)) ?_ | refine w_cons (Or.inr (by assumption)) ?_)) (by repeat (first | exact w_nil | refine w_cons (Or.inl (y_m rfl)) ?_ | refine w_cons (Or.inr (by assumption)) ?_))) (y_od_fr od (y_st f0 hH (by repeat (first | exact w_nil | refine w_cons (Or.inl (y_m rfl)) ?_ | refine w_cons (Or.inr (by assumption)) ?_)) (by repeat (first | exact w_nil | refine w_cons (Or.inl (y_m rfl)) ?_ | refine w_cons (Or.inr (by assumption)) ?_))) rfl rfl)
    rw [← hbt] at this
    exact this
  · have := T20 (as := true) (y_st e0 hH (by repeat (first | exact w_nil | refine w_cons (Or.inl (y_m rfl)) ?_ | refine w_cons (Or.inr (by assumption)) ?_)) (by repeat (first | exact w_nil | refine w_cons (Or.inl (y_m rfl)) ?_ | refine w_cons (Or.inr (by assumption)) ?_))) (y_od_fr od (y_st f0 hH (by repeat (first | exact w_nil | refine w_cons (Or.inl (y_m rfl)) ?_ | refine w_cons (Or.inr (by assumption)) ?_)) (by repeat (first | exact w_nil | refine w_cons (Or.inl (y_m rfl)) ?_ | refine w_cons (Or.inr (by assumption)) ?_))) rfl rfl)
    rw [← hbt] at this
    exact this
end WG
