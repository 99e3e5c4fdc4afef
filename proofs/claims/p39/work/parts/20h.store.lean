/-! ===== v2: stores, and all instructions on the heap ===== -/
section ZQ
variable {J : aH → Prop} {D : Nat → Option zC} {ρ : zR} {f : zF} {ov : zV} {H H0 : aH} {ms : List Nat}
theorem z_hp_set (hlen : z_len0 J D) (hs : z_sat ρ f) (hv : z_ovk ρ ov) {r : List zO} (hn : z_nn ρ r) (hr : z_hr J D ρ ov H) (hf : z_frm D ms H0 H) {o : Nat} {a : Nat × Nat × Int × Int} (hD : D o = some (.inl a)) (hm : ms.elem (o * 128) = true) (hj : z_jc.elem (o * 128) = false) {e' : Nat × aA} (he : z_cell ρ ov o (.inl a) (.inl e')) : z_hpR J D ms ρ H0 H (r, ov, f, ρ.length) (z_st ρ r) (H.set o (.inl e')) := ⟨[], by simp, by rw [List.append_nil]; exact hs, by rw [List.append_nil]; exact hn, by rw [List.append_nil]; exact hv, by rw [List.append_nil]; exact z_hr_arr hlen hr hD hj he, z_frm_arr hf hD (List.elem_iff.mp hm) _, by rw [List.append_nil]⟩
theorem z_mem_set {α : Type} {l : List α} {j : Nat} {x y : α} (h : y ∈ l.set j x) : y ∈ l ∨ y = x := List.mem_or_eq_of_mem_set h
theorem z_ast_ok (hlen : z_len0 J D) (hs : z_sat ρ f) (hv : z_ovk ρ ov) {st : List zO} (hn : z_nn ρ st) (hr : z_hr J D ρ ov H) (hf : z_frm D ms H0 H) {t : Nat} {q : zH} (h : z_ast D ms f ρ.length ov t st = some q) : ∃ st' H', a_ast t (z_st ρ st) H = some (st', H', 0, 0) ∧ z_hpR J D ms ρ H0 H q st' H' := by
  unfold z_ast at h
  split at h
  · rename_i v j o r
    have hnr : z_nn ρ r := fun x hx => hn x (List.mem_cons_of_mem _ (List.mem_cons_of_mem _ (List.mem_cons_of_mem _ hx)))
    split at h
    · rename_i t' n lo hi hD
      split at h
      · rename_i hc
        obtain ⟨rfl, ht, hj, hvv, hk, hm, hjc⟩ := hc
        cases h
        obtain ⟨x, vx, b1, b2⟩ := z_bt_ok hs hj
        obtain ⟨z, vz, c1, c2⟩ := z_bt_ok hs hvv
        obtain ⟨i1, i2, -⟩ := z_idx (n := n) b1 b2
        have hnar : a_nar t' z = z := by
          rcases hk with rfl | ⟨rfl, hk⟩ | ⟨rfl, hk⟩
          · rfl
          · obtain ⟨z', vz', d1, d2⟩ := z_bt_ok hs hk
            rw [vz] at vz'
            cases vz'
            rcases z_nar2 d1 d2 with rfl | rfl <;> decide
          · obtain ⟨z', vz', d1, d2⟩ := z_bt_ok hs hk
            rw [vz] at vz'
            cases vz'
            show vp_nar .char z = z
            rw [vp_nar_char, z_nar3 d1 d2]
        obtain ⟨e, he, hce⟩ := hr.1 o _ hD
        unfold z_cell at hce
        dsimp only at hce
        rw [if_neg ht] at hce
        obtain ⟨h4, l, e1, e2, e3⟩ := hce
        subst e1
        have hst : z_st ρ (v :: j :: .inl (.ref (o + 2)) :: r) = .int z :: .int x :: .ref (o + 2) :: z_st ρ r := by
          show z_v ρ v :: z_v ρ j :: _ = _
          rw [vx, vz]; rfl
        rw [hst]
        refine ⟨_, _, ?_, z_hp_set hlen hs hv hnr hr hf hD hm hjc (e' := (t', .inl (l.set x.toNatClampNeg z))) ?_⟩
        · show (match H[o]? with
            | some (.inl (t2, .inl l)) => if t2 = t' then (if x < 0 ∨ l.length ≤ x.toNatClampNeg then none else some (z_st ρ r, H.set o (.inl (t2, .inl (l.set x.toNatClampNeg (a_nar t' z)))), 0, 0)) else none
            | _ => none) = _
          rw [he]
          dsimp only
          rw [if_pos rfl, if_neg (by rw [e2]; exact i1), hnar]
        · unfold z_cell
          dsimp only
          rw [if_neg ht]
          refine ⟨h4, _, rfl, by rw [List.length_set]; exact e2, fun y hy => ?_⟩
          rcases z_mem_set hy with q | rfl
          · exact e3 y q
          · exact ⟨c1, c2⟩
      · cases h
    · cases h
  · cases h
theorem z_last_ok (hlen : z_len0 J D) (hs : z_sat ρ f) (hv : z_ovk ρ ov) {st : List zO} (hn : z_nn ρ st) (hr : z_hr J D ρ ov H) (hf : z_frm D ms H0 H) {q : zH} (h : z_last D ms f ρ.length ov st = some q) : ∃ st' H', a_last (z_st ρ st) H = some (st', H', 0, 0) ∧ z_hpR J D ms ρ H0 H q st' H' := by
  unfold z_last at h
  split at h
  · rename_i v j o r
    have hnr : z_nn ρ r := fun x hx => hn x (List.mem_cons_of_mem _ (List.mem_cons_of_mem _ (List.mem_cons_of_mem _ hx)))
    split at h
    · rename_i t' n lo hi y hD hvv
      split at h
      · rename_i hc
        obtain ⟨rfl, hj, g1, g2, hm, hjc⟩ := hc
        cases h
        obtain ⟨x, vx, b1, b2⟩ := z_bt_ok hs hj
        obtain ⟨z, vz, -, c1, c2⟩ := z_lb_el hs hvv
        obtain ⟨i1, i2, -⟩ := z_idx (n := n) b1 b2
        obtain ⟨e, he, hce⟩ := hr.1 o _ hD
        unfold z_cell at hce
        dsimp only at hce
        rw [if_pos rfl] at hce
        obtain ⟨l, e1, e2, e3⟩ := hce
        subst e1
        have hst : z_st ρ (v :: j :: .inl (.ref (o + 2)) :: r) = .long z :: .int x :: .ref (o + 2) :: z_st ρ r := by
          show z_v ρ v :: z_v ρ j :: _ = _
          rw [vx, vz]; rfl
        rw [hst]
        refine ⟨_, _, ?_, z_hp_set hlen hs hv hnr hr hf hD hm hjc (e' := (1, .inr (.inl (l.set x.toNatClampNeg z)))) ?_⟩
        · show (match H[o]? with
            | some (.inl (t2, .inr (.inl l))) => if t2 = 1 then (if x < 0 ∨ l.length ≤ x.toNatClampNeg then none else some (z_st ρ r, H.set o (.inl (t2, .inr (.inl (l.set x.toNatClampNeg z)))), 0, 0)) else none
            | _ => none) = _
          rw [he]
          dsimp only
          rw [if_pos rfl, if_neg (by rw [e2]; exact i1)]
        · unfold z_cell
          dsimp only
          rw [if_pos rfl]
          refine ⟨_, rfl, by rw [List.length_set]; exact e2, fun y hy => ?_⟩
          rcases z_mem_set hy with q | rfl
          · exact e3 y q
          · omega
      · cases h
    · cases h
  · cases h
theorem z_len_ok (hs : z_sat ρ f) (hv : z_ovk ρ ov) {st : List zO} (hn : z_nn ρ st) (hr : z_hr J D ρ ov H) (hf : z_frm D ms H0 H) {q : zH} (h : z_len D f ρ.length ov st = some q) : ∃ st' H', a_len (z_st ρ st) H = some (st', H', 0, 0) ∧ z_hpR J D ms ρ H0 H q st' H' := by
  unfold z_len at h
  split at h
  · rename_i o r
    have hnr : ∀ n : Int32, z_nn ρ (.inl (.int n) :: r) := fun n x hx => by
      rcases List.mem_cons.mp hx with rfl | hx
      · exact fun q => by cases q
      · exact hn x (List.mem_cons_of_mem _ hx)
    split at h
    · rename_i t n lo hi hD
      cases h
      obtain ⟨e, he, hce⟩ := hr.1 o _ hD
      refine ⟨_, _, ?_, z_hp_old hs hv (hnr (Int32.ofNat n)) hr hf⟩
      show (match H[o]? with
        | some (.inl (t', .inl l)) => if t' < a_tys.length then some (Value.int (Int32.ofNat l.length) :: z_st ρ r, H, 0, 0) else none
        | some (.inl (t', .inr (.inl l))) => if t' < a_tys.length then some (Value.int (Int32.ofNat l.length) :: z_st ρ r, H, 0, 0) else none
        | some (.inl (t', .inr (.inr l))) => if t' < a_tys.length then some (Value.int (Int32.ofNat l.length) :: z_st ρ r, H, 0, 0) else none
        | _ => none) = _
      rw [he]
      unfold z_cell at hce
      dsimp only at hce
      by_cases ht : t = 1
      · rw [if_pos ht] at hce
        obtain ⟨l, e1, e2, e3⟩ := hce
        subst e1
        dsimp only
        rw [if_pos (by rw [ht]; decide), e2]; rfl
      · rw [if_neg ht] at hce
        obtain ⟨h4, l, e1, e2, e3⟩ := hce
        subst e1
        dsimp only
        rw [if_pos (by show t < 7; omega), e2]; rfl
    · cases h
  · rename_i r
    cases h
    have hnr : z_nn ρ (.inl (.int (Int32.ofNat a_so.length)) :: r) := fun x hx => by
      rcases List.mem_cons.mp hx with rfl | hx
      · exact fun q => by cases q
      · exact hn x (List.mem_cons_of_mem _ hx)
    exact ⟨_, _, rfl, z_hp_old hs hv hnr hr hf⟩
  · cases h
theorem z_cpy_ok (hlen : z_len0 J D) (hs : z_sat ρ f) (hv : z_ovk ρ ov) {st : List zO} (hn : z_nn ρ st) (hr : z_hr J D ρ ov H) (hf : z_frm D ms H0 H) {q : zH} (h : z_cpy D ms f ρ.length ov st = some q) : ∃ st' H', (if a_wd ((z_st ρ st).drop 5) ≤ 8 then a_copy (z_st ρ st) H else none) = some (st', H', 0, 0) ∧ z_hpR J D ms ρ H0 H q st' H' := by
  unfold z_cpy at h
  split at h
  · rename_i n dp d sp o
    split at h
    · rename_i t m lo hi t' m' lo' hi' bn bd bs hDo hDd hn' hdp hsp
      split at h
      · rename_i hc
        obtain ⟨rfl, hk, n0, d0, s0, g1, g2, g3, g4, hm, hjc⟩ := hc
        cases h
        obtain ⟨xn, vn, -, n1, n2⟩ := z_ib_ex hs hn'
        obtain ⟨xd, vd, -, d1, d2⟩ := z_ib_ex hs hdp
        obtain ⟨xs, vs, -, s1, s2⟩ := z_ib_ex hs hsp
        have ht1 : t ≠ 1 := by omega
        obtain ⟨e, he, hce⟩ := hr.1 o _ hDo
        obtain ⟨e', he', hce'⟩ := hr.1 d _ hDd
        unfold z_cell at hce hce'
        dsimp only at hce hce'
        rw [if_neg ht1] at hce hce'
        obtain ⟨h4, l, e1, e2, e3⟩ := hce
        obtain ⟨h4', l', e1', e2', e3'⟩ := hce'
        subst e1 e1'
        have cn : (xn.toNatClampNeg : Int) = xn.toInt := by have : xn.toNatClampNeg = xn.toInt.toNat := rfl; omega
        have cd : (xd.toNatClampNeg : Int) = xd.toInt := by have : xd.toNatClampNeg = xd.toInt.toNat := rfl; omega
        have cs : (xs.toNatClampNeg : Int) = xs.toInt := by have : xs.toNatClampNeg = xs.toInt.toNat := rfl; omega
        have hst : z_st ρ [n, dp, .inl (.ref (d + 2)), sp, .inl (.ref (o + 2))] = [.int xn, .int xd, .ref (d + 2), .int xs, .ref (o + 2)] := by
          show [z_v ρ n, z_v ρ dp, _, z_v ρ sp, _] = _
          rw [vn, vd, vs]; rfl
        rw [hst]
        have nneg : ∀ {x : Int32}, 0 ≤ x.toInt → ¬ x < 0 := fun hx q => by
          have := Int32.lt_iff_toInt_lt.mp q
          have e0 : (0 : Int32).toInt = 0 := rfl
          omega
        have hfit : t = 0 ∨ (List.range xn.toNatClampNeg).all (fun i => fits .char (.int (l.getD (xs.toNatClampNeg + i) 0))) = true := by
          rcases hk with hk | ⟨-, k1, k2⟩
          · exact Or.inl hk
          · refine Or.inr (List.all_eq_true.mpr (fun i hi' => ?_))
            have hlt := List.mem_range.mp hi'
            have hm := e3 _ (z_gd (0 : Int32) (show xs.toNatClampNeg + i < l.length by omega))
            show ((decide (0 ≤ l.getD (xs.toNatClampNeg + i) 0)) && (decide (l.getD (xs.toNatClampNeg + i) 0 ≤ 65535))) = true
            have e5 : (65535 : Int32).toInt = 65535 := rfl
            have e0 : (0 : Int32).toInt = 0 := rfl
            simp only [Bool.and_eq_true, decide_eq_true_eq, Int32.le_iff_toInt_le, e0, e5]
            omega
        refine ⟨[], H.set d (.inl (t, .inl (a_cpy l l' xs.toNatClampNeg xd.toNatClampNeg xn.toNatClampNeg))), ?_, z_hp_set hlen hs hv (r := []) (fun x hx => absurd hx List.not_mem_nil) hr hf hDd hm hjc ?_⟩
        · show (if a_wd [] ≤ 8 then a_copy [.int xn, .int xd, .ref (d + 2), .int xs, .ref (o + 2)] H else none) = _
          rw [if_pos (by decide)]
          unfold a_copy
          dsimp only
          rw [he, he']
          dsimp only
          rw [if_pos ⟨rfl, by omega⟩, if_neg (by
            rintro (w | w | w | w | w)
            · exact nneg (by omega) w
            · exact nneg (by omega) w
            · exact nneg (by omega) w
            · omega
            · omega), if_pos hfit]
        · unfold z_cell
          dsimp only
          rw [if_neg ht1]
          refine ⟨h4', _, rfl, ?_, fun y hy => ?_⟩
          · unfold a_cpy
            rw [List.length_map, List.length_range]
            exact e2'
          · unfold a_cpy at hy
            obtain ⟨j, hj, hjy⟩ := List.mem_map.mp hy
            have hjl := List.mem_range.mp hj
            split at hjy
            · rename_i hr1
              have hm := e3 _ (z_gd (0 : Int32) (show xs.toNatClampNeg + (j - xd.toNatClampNeg) < l.length by omega))
              rw [hjy] at hm
              omega
            · have hm := e3' _ (z_gd (0 : Int32) hjl)
              rw [hjy] at hm
              exact hm
      · cases h
    · cases h
  · cases h
def z_wrap (X : aX) (i : Instr) (len pc : Nat) (ls : aL) (st : List Value) (H : aH) (x : Option aR) : Option aS := match x with
  | some (st', h', c, s) => some (pc + len, ls, st', h', c, s)
  | none => match a_scr X i st with
    | some st' => some (pc + len, ls, st', H, 0, 0)
    | none => none
theorem z_hp_ok (hlen : z_len0 J D) (hs : z_sat ρ f) (hv : z_ovk ρ ov) {st : List zO} (hn : z_nn ρ st) (hr : z_hr J D ρ ov H) (hf : z_frm D ms H0 H) {X : aX} {i : Instr} {len : Nat} {k : aK} {pc : Nat} {ls : aL} {q : zH} (h : z_hp D ms f ρ.length ov i k st = some q) : ∃ st' H', a_op X i len k pc ls (z_st ρ st) H = some (pc + len, ls, st', H', 0, 0) ∧ z_hpR J D ms ρ H0 H q st' H' := by
  have key : ∀ {x : Option aR}, (∃ st' H', x = some (st', H', 0, 0) ∧ z_hpR J D ms ρ H0 H q st' H') → ∃ st' H', z_wrap X i len pc ls (z_st ρ st) H x = some (pc + len, ls, st', H', 0, 0) ∧ z_hpR J D ms ρ H0 H q st' H' := by
    rintro x ⟨st', H', e, hq⟩
    exact ⟨st', H', by rw [e]; rfl, hq⟩
  unfold z_hp at h
  split at h
  · exact key (z_get_ok hlen hs hv hn hr hf h)
  · exact key (z_put_ok hlen hs hv hn hr hf h)
  · have := z_ald_ok hs hv hn hr hf h
    rw [if_neg (by decide)] at this
    exact key this
  · have := z_ald_ok hs hv hn hr hf h
    rw [if_neg (by decide)] at this
    exact key this
  · have := z_ald_ok hs hv hn hr hf h
    rw [if_neg (by decide)] at this
    exact key this
  · split at h
    · rename_i q' hq'
      cases h
      exact key (z_so_ok hs hv hn hr hf hq')
    · have := z_ald_ok hs hv hn hr hf h
      rw [if_pos rfl] at this
      exact key this
  · exact key (z_aald_ok hs hv hn hr hf h)
  · exact key (z_ast_ok hlen hs hv hn hr hf h)
  · exact key (z_ast_ok hlen hs hv hn hr hf h)
  · exact key (z_ast_ok hlen hs hv hn hr hf h)
  · exact key (z_last_ok hlen hs hv hn hr hf h)
  · exact key (z_len_ok hs hv hn hr hf h)
  · split at h
    · rename_i hk
      cases h
      have hnn : z_nn ρ (.inl (.ref 1) :: st) := fun x hx => by
        rcases List.mem_cons.mp hx with rfl | hx
        · exact fun q => by cases q
        · exact hn x hx
      refine ⟨_, _, ?_, z_hp_old hs hv hnn hr hf⟩
      unfold a_op
      simp only [a_stk, a_loc, a_br, a_hp, hk, if_true]
      rfl
    · cases h
  · split at h
    · rename_i hk
      obtain ⟨st', H', e, hq⟩ := z_cpy_ok hlen hs hv hn hr hf h
      refine ⟨st', H', ?_, hq⟩
      unfold a_op
      simp only [a_stk, a_loc, a_br, a_hp, hk, if_true]
      rw [e]
    · cases h
  · cases h
end ZQ
