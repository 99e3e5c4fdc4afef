/-! ===== v2: fields and arrays ===== -/
/-- what an instruction on the heap leaves: stack, fields, facts, names -/
abbrev zH : Type := List zO × zV × zF × Nat
def z_get (D : Nat → Option zC) (f : zF) (nx : Nat) (ov : zV) (k : aK) (st : List zO) : Option zH := match st with
  | .inl (.ref (o + 2)) :: r => match D o with
    | some (.inr (.inl (ci, ks))) => if ci = k.2.1 then (match ks[k.2.2.1]? with
      | some d => match ov.lookup (o * 128 + k.2.2.1) with
        | some x => some (x :: r, ov, f, nx)
        | none => match d with
          | .inr q => some (.inl (.ref q) :: r, ov, f, nx)
          | .inl a => some (.inr (nx, 0) :: r, (o * 128 + k.2.2.1, .inr (nx, 0)) :: ov, ((nx, a) :: f.1, f.2), nx + 1)
      | none => none) else none
    | _ => none
  | _ => none
def z_fit (f : zF) (ty : FieldType) (v : zO) : Bool := match ty with
  | .int => decide (z_ty f v = 1)
  | .long => decide (z_ty f v = 2)
  | .boolean => z_bt f v 0 1
  | .char => z_bt f v 0 65535
  | _ => false
def z_put (D : Nat → Option zC) (ms : List Nat) (f : zF) (nx : Nat) (ov : zV) (k : aK) (st : List zO) : Option zH := match st with
  | v :: .inl (.ref (o + 2)) :: r => match D o with
    | some (.inr (.inl (ci, ks))) => if ci = k.2.1 ∧ k.2.2.1 < ks.length ∧ z_fit f (a_fty k.2.1 k.2.2.1) v = true ∧ ms.elem (o * 128 + k.2.2.1) = true ∧ z_jc.elem (o * 128 + k.2.2.1) = false then some (r, (o * 128 + k.2.2.1, v) :: ov, f, nx) else none
    | _ => none
  | _ => none
def z_ald (D : Nat → Option zC) (f : zF) (nx : Nat) (ov : zV) (t : Nat) (st : List zO) : Option zH := match st with
  | j :: .inl (.ref (o + 2)) :: r => match D o with
    | some (.inl (t', n, lo, hi)) => if t' = t ∧ z_bt f j 0 ((n : Int) - 1) = true then some (.inr (nx, 0) :: r, ov, ((nx, (if t = 1 then 2 else 1, lo, hi)) :: f.1, f.2), nx + 1) else none
    | _ => none
  | _ => none
def z_so (f : zF) (nx : Nat) (ov : zV) (st : List zO) : Option zH := match st with
  | j :: .inl (.ref 1) :: r => if z_bt f j 0 5 = true then some (.inr (nx, 0) :: r, ov, ((nx, (2, z_lf)) :: f.1, f.2), nx + 1) else none
  | _ => none
def z_aald (D : Nat → Option zC) (f : zF) (nx : Nat) (ov : zV) (st : List zO) : Option zH := match st with
  | j :: .inl (.ref (o + 2)) :: r => match D o, z_ib f j with
    | some (.inr (.inr (_, rs))), some x => if x.1 = x.2 ∧ 0 ≤ x.1 then (match rs[x.1.toNat]? with
      | some q => some (.inl (.ref q) :: r, ov, f, nx)
      | none => none) else none
    | _, _ => none
  | _ => none
def z_ast (D : Nat → Option zC) (ms : List Nat) (f : zF) (nx : Nat) (ov : zV) (t : Nat) (st : List zO) : Option zH := match st with
  | v :: j :: .inl (.ref (o + 2)) :: r => match D o with
    | some (.inl (t', n, lo, hi)) => if t' = t ∧ t ≠ 1 ∧ z_bt f j 0 ((n : Int) - 1) = true ∧ z_bt f v lo hi = true ∧ (t = 0 ∨ t = 2 ∧ z_bt f v 0 1 = true ∨ t = 3 ∧ z_bt f v 0 65535 = true) ∧ ms.elem (o * 128) = true ∧ z_jc.elem (o * 128) = false then some (r, ov, f, nx) else none
    | _ => none
  | _ => none
def z_last (D : Nat → Option zC) (ms : List Nat) (f : zF) (nx : Nat) (ov : zV) (st : List zO) : Option zH := match st with
  | v :: j :: .inl (.ref (o + 2)) :: r => match D o, z_lb f v with
    | some (.inl (t', n, lo, hi)), some x => if t' = 1 ∧ z_bt f j 0 ((n : Int) - 1) = true ∧ lo ≤ x.1 ∧ x.2 ≤ hi ∧ ms.elem (o * 128) = true ∧ z_jc.elem (o * 128) = false then some (r, ov, f, nx) else none
    | _, _ => none
  | _ => none
def z_len (D : Nat → Option zC) (f : zF) (nx : Nat) (ov : zV) (st : List zO) : Option zH := match st with
  | .inl (.ref (o + 2)) :: r => match D o with
    | some (.inl (_, n, _, _)) => some (.inl (.int (Int32.ofNat n)) :: r, ov, f, nx)
    | _ => none
  | .inl (.ref 1) :: r => some (.inl (.int (Int32.ofNat a_so.length)) :: r, ov, f, nx)
  | _ => none
def z_cpy (D : Nat → Option zC) (ms : List Nat) (f : zF) (nx : Nat) (ov : zV) (st : List zO) : Option zH := match st with
  | n :: dp :: .inl (.ref (d + 2)) :: sp :: .inl (.ref (o + 2)) :: [] => match D o, D d, z_ib f n, z_ib f dp, z_ib f sp with
    | some (.inl (t, m, lo, hi)), some (.inl (t', m', lo', hi')), some bn, some bd, some bs => if t = t' ∧ (t = 0 ∨ t = 3 ∧ 0 ≤ lo ∧ hi ≤ 65535) ∧ 0 ≤ bn.1 ∧ 0 ≤ bd.1 ∧ 0 ≤ bs.1 ∧ bs.2 + bn.2 ≤ (m : Int) ∧ bd.2 + bn.2 ≤ (m' : Int) ∧ lo' ≤ lo ∧ hi ≤ hi' ∧ ms.elem (d * 128) = true ∧ z_jc.elem (d * 128) = false then some ([], ov, f, nx) else none
    | _, _, _, _, _ => none
  | _ => none
def z_hp (D : Nat → Option zC) (ms : List Nat) (f : zF) (nx : Nat) (ov : zV) (i : Instr) (k : aK) (st : List zO) : Option zH := match i with
  | .getfield _ => z_get D f nx ov k st
  | .putfield _ => z_put D ms f nx ov k st
  | .iaload => z_ald D f nx ov 0 st
  | .baload => z_ald D f nx ov 2 st
  | .caload => z_ald D f nx ov 3 st
  | .laload => match z_so f nx ov st with
    | some q => some q
    | none => z_ald D f nx ov 1 st
  | .aaload => z_aald D f nx ov st
  | .iastore => z_ast D ms f nx ov 0 st
  | .bastore => z_ast D ms f nx ov 2 st
  | .castore => z_ast D ms f nx ov 3 st
  | .lastore => z_last D ms f nx ov st
  | .arraylength => z_len D f nx ov st
  | .getstatic _ => if k.1 = 14 then some (.inl (.ref 1) :: st, ov, f, nx) else none
  | .invokestatic _ => if k.1 = 10 then z_cpy D ms f nx ov st else none
  | _ => none
theorem z_nar3 {x : Int32} (h1 : 0 ≤ x.toInt) (h2 : x.toInt ≤ 65535) : x.toUInt32.toUInt16.toUInt32.toInt32 = x := by
  obtain ⟨e1, e2⟩ := z_nat h1
  have h3 : x.toUInt32.toUInt16.toUInt32 = x.toUInt32 := by
    apply UInt32.toNat_inj.mp
    have : x.toUInt32.toNat = x.toBitVec.toNat := rfl
    simp only [UInt16.toNat_toUInt32, UInt32.toNat_toUInt16]
    rw [this]
    omega
  rw [h3]
  rfl
theorem z_nar2 {x : Int32} (h1 : 0 ≤ x.toInt) (h2 : x.toInt ≤ 1) : x = 0 ∨ x = 1 := s_01 h1 h2
section ZP
variable {J : aH → Prop} {D : Nat → Option zC} {ρ : zR} {f : zF} {ov : zV} {H H0 : aH} {ms : List Nat}
theorem z_fit_ok (hs : z_sat ρ f) {ty : FieldType} {v : zO} (h : z_fit f ty v = true) : a_fit ty (z_v ρ v) = true ∧ z_v ρ v ≠ .null := by
  unfold z_fit at h
  split at h
  · obtain ⟨n, e⟩ := (z_ty_ok hs v).1 (of_decide_eq_true h)
    rw [e]; exact ⟨rfl, fun w => by cases w⟩
  · obtain ⟨n, e⟩ := (z_ty_ok hs v).2.1 (of_decide_eq_true h)
    rw [e]; exact ⟨rfl, fun w => by cases w⟩
  · obtain ⟨x, e, b1, b2⟩ := z_bt_ok hs h
    rw [e]
    refine ⟨?_, fun w => by cases w⟩
    rcases z_nar2 b1 b2 with rfl | rfl <;> decide
  · obtain ⟨x, e, b1, b2⟩ := z_bt_ok hs h
    rw [e]
    refine ⟨?_, fun w => by cases w⟩
    show (decide (narrow .char (.int x) = .int x) && fits .char (.int x)) = true
    have h3 : narrow .char (.int x) = .int x := by
      show Value.int (x.toUInt32.toUInt16.toUInt32.toInt32) = _
      rw [z_nar3 b1 b2]
    have h4 : fits .char (.int x) = true := by
      show ((decide (0 ≤ x)) && (decide (x ≤ 65535))) = true
      have e5 : (65535 : Int32).toInt = 65535 := rfl
      have e0 : (0 : Int32).toInt = 0 := rfl
      simp only [Bool.and_eq_true, decide_eq_true_eq, Int32.le_iff_toInt_le, e0, e5]
      exact ⟨b1, b2⟩
    rw [h4, decide_eq_true h3]; rfl
  · cases h
theorem z_idx {x : Int32} {n : Nat} (h1 : 0 ≤ x.toInt) (h2 : x.toInt ≤ (n : Int) - 1) : ¬ (x < 0 ∨ n ≤ x.toNatClampNeg) ∧ x.toNatClampNeg < n ∧ (x.toNatClampNeg : Int) = x.toInt := by
  have e : x.toNatClampNeg = x.toInt.toNat := rfl
  have e0 : (0 : Int32).toInt = 0 := rfl
  rw [Int32.lt_iff_toInt_lt, e, e0]
  omega
/-- what an instruction on the heap must give -/
def z_hpR (J : aH → Prop) (D : Nat → Option zC) (ms : List Nat) (ρ : zR) (H0 H : aH) (q : zH) (st' : List Value) (H' : aH) : Prop := ∃ l : zR, (ρ ++ l).length = q.2.2.2 ∧ z_sat (ρ ++ l) q.2.2.1 ∧ z_nn (ρ ++ l) q.1 ∧ z_ovk (ρ ++ l) q.2.1 ∧ z_hr J D (ρ ++ l) q.2.1 H' ∧ z_frm D ms H0 H' ∧ st' = z_st (ρ ++ l) q.1
theorem z_hp_old (hs : z_sat ρ f) (hv : z_ovk ρ ov) {st : List zO} (hn : z_nn ρ st) (hr : z_hr J D ρ ov H) (hf : z_frm D ms H0 H) : z_hpR J D ms ρ H0 H (st, ov, f, ρ.length) (z_st ρ st) H := ⟨[], by simp, by rw [List.append_nil]; exact hs, by rw [List.append_nil]; exact hn, by rw [List.append_nil]; exact hv, by rw [List.append_nil]; exact hr, hf, by rw [List.append_nil]⟩
theorem z_hp_new (hs : z_sat ρ f) (hv : z_ovk ρ ov) {r : List zO} (hn : z_nn ρ r) (hr : z_hr J D ρ ov H) (hf : z_frm D ms H0 H) {a : zI} {w : Value} (hw : z_in a w) : z_hpR J D ms ρ H0 H (.inr (ρ.length, 0) :: r, ov, ((ρ.length, a) :: f.1, f.2), ρ.length + 1) (w :: z_st ρ r) H := by
  have e := z_vn (ρ := ρ) hw
  have hnn : w ≠ .null := by rcases hw with ⟨_, x, rfl, _⟩ | ⟨_, x, rfl, _⟩ <;> exact fun q => by cases q
  refine ⟨[w], by simp, z_new_ok hs hw, fun o ho => ?_, z_ovk_app hv, z_hr_app hv hr, hf, ?_⟩
  · rcases List.mem_cons.mp ho with rfl | ho
    · rw [e]; exact hnn
    · exact z_nn_app hn o ho
  · show _ = z_v (ρ ++ [w]) (.inr (ρ.length, 0)) :: z_st (ρ ++ [w]) r
    rw [e, z_st_app hn]
theorem z_get_ok (hlen : z_len0 J D) (hs : z_sat ρ f) (hv : z_ovk ρ ov) {st : List zO} (hn : z_nn ρ st) (hr : z_hr J D ρ ov H) (hf : z_frm D ms H0 H) {k : aK} {q : zH} (h : z_get D f ρ.length ov k st = some q) : ∃ st' H', a_get k (z_st ρ st) H = some (st', H', 0, 0) ∧ z_hpR J D ms ρ H0 H q st' H' := by
  unfold z_get at h
  split at h
  · rename_i o r
    have hnr : z_nn ρ r := fun x hx => hn x (List.mem_cons_of_mem _ hx)
    split at h
    · rename_i ci ks hD
      split at h
      · rename_i hci
        split at h
        · rename_i d hd
          obtain ⟨vs, w, e1, e2, e3, e4⟩ := z_get_known hr hD hd
          have hg : a_get k (z_st ρ (.inl (.ref (o + 2)) :: r)) H = some (w :: z_st ρ r, H, 0, 0) := by
            show (match H[o]? with
              | some (.inr (ci, fs)) => if ci = k.2.1 then match fs[k.2.2.1]? with
                | some v => some (v :: z_st ρ r, H, 0, 0)
                | none => none
                else none
              | _ => none) = _
            rw [e1]
            dsimp only
            rw [if_pos hci, e2]
          refine ⟨_, _, hg, ?_⟩
          split at h
          · rename_i x hx
            cases h
            have hw := e3 x hx
            have hnn : z_nn ρ (x :: r) := fun y hy => by
              rcases List.mem_cons.mp hy with rfl | hy
              · exact hv _ (z_lk_in hx)
              · exact hnr y hy
            have := z_hp_old hs hv hnn hr hf
            rw [hw]
            exact this
          · rename_i hx
            have hdk := e4 hx
            split at h
            · rename_i r0
              cases h
              have hw : w = .ref r0 := hdk
              have hnn : z_nn ρ (.inl (.ref r0) :: r) := fun y hy => by
                rcases List.mem_cons.mp hy with rfl | hy
                · exact fun q => by cases q
                · exact hnr y hy
              have := z_hp_old hs hv hnn hr hf
              rw [hw]
              exact this
            · rename_i a
              cases h
              have hw : z_in a w := hdk
              obtain ⟨l, g1, g2, g3, g4, g5, g6, g7⟩ := z_hp_new hs hv hnr hr hf hw
              have e5 := z_vn (ρ := ρ) hw
              have hl : ρ ++ l = ρ ++ [w] ∨ True := Or.inr trivial
              refine ⟨[w], by simp, z_new_ok hs hw, fun y hy => ?_, fun y hy => ?_, ?_, hf, ?_⟩
              · rcases List.mem_cons.mp hy with rfl | hy
                · rw [e5]; rcases hw with ⟨_, x, rfl, _⟩ | ⟨_, x, rfl, _⟩ <;> exact fun q => by cases q
                · exact z_nn_app hnr y hy
              · rcases List.mem_cons.mp hy with rfl | hy
                · rw [e5]; rcases hw with ⟨_, x, rfl, _⟩ | ⟨_, x, rfl, _⟩ <;> exact fun q => by cases q
                · exact z_ovk_app hv y hy
              · exact z_hr_name (z_hr_app hv hr) hD hlen hd e1 e2 e5
              · show _ = z_v (ρ ++ [w]) (.inr (ρ.length, 0)) :: z_st (ρ ++ [w]) r
                rw [e5, z_st_app hnr]
        · cases h
      · cases h
    · cases h
  · cases h
theorem z_put_ok (hlen : z_len0 J D) (hs : z_sat ρ f) (hv : z_ovk ρ ov) {st : List zO} (hn : z_nn ρ st) (hr : z_hr J D ρ ov H) (hf : z_frm D ms H0 H) {k : aK} {q : zH} (h : z_put D ms f ρ.length ov k st = some q) : ∃ st' H', a_put k (z_st ρ st) H = some (st', H', 0, 0) ∧ z_hpR J D ms ρ H0 H q st' H' := by
  unfold z_put at h
  split at h
  · rename_i v o r
    have hnr : z_nn ρ r := fun x hx => hn x (List.mem_cons_of_mem _ (List.mem_cons_of_mem _ hx))
    split at h
    · rename_i ci ks hD
      split at h
      · rename_i hc
        obtain ⟨h1, h2, h3, h4, h5⟩ := hc
        cases h
        obtain ⟨f1, f2⟩ := z_fit_ok hs h3
        obtain ⟨d, hd⟩ : ∃ d, ks[k.2.2.1]? = some d := ⟨_, List.getElem?_eq_getElem h2⟩
        obtain ⟨e, he, hce⟩ := hr.1 o _ hD
        obtain ⟨vs, e1, e2, e3⟩ := hce
        subst e1
        refine ⟨z_st ρ r, H.set o (.inr (ci, vs.set k.2.2.1 (z_v ρ v))), ?_, [], by simp, by rw [List.append_nil]; exact hs, by rw [List.append_nil]; exact hnr, ?_, ?_, ?_, by rw [List.append_nil]⟩
        · show (match H[o]? with
            | some (.inr (ci, fs)) => if ci = k.2.1 then (if k.2.2.1 < fs.length then (if a_fit (a_fty k.2.1 k.2.2.1) (z_v ρ v) then some (z_st ρ r, H.set o (.inr (ci, fs.set k.2.2.1 (z_v ρ v))), 0, 0) else none) else none) else none
            | _ => none) = _
          rw [he]
          dsimp only
          rw [if_pos h1, if_pos (by rw [e2]; exact h2), if_pos f1]
        · rw [List.append_nil]
          intro y hy
          rcases List.mem_cons.mp hy with rfl | hy
          · exact f2
          · exact hv y hy
        · rw [List.append_nil]
          exact z_hr_put hr hD hlen h2 he h5 v
        · exact z_frm_put hf hD h2 he (List.elem_iff.mp h4) _
      · cases h
    · cases h
  · cases h
theorem z_gd {α : Type} {l : List α} {j : Nat} (d : α) (h : j < l.length) : l.getD j d ∈ l := by
  rw [List.getD_eq_getElem?_getD, List.getElem?_eq_getElem h]
  exact List.getElem_mem h
theorem z_ald_ok (hs : z_sat ρ f) (hv : z_ovk ρ ov) {st : List zO} (hn : z_nn ρ st) (hr : z_hr J D ρ ov H) (hf : z_frm D ms H0 H) {t : Nat} {q : zH} (h : z_ald D f ρ.length ov t st = some q) : ∃ st' H', (if t = 1 then a_lald (z_st ρ st) H else a_ald t (z_st ρ st) H) = some (st', H', 0, 0) ∧ z_hpR J D ms ρ H0 H q st' H' := by
  unfold z_ald at h
  split at h
  · rename_i j o r
    have hnr : z_nn ρ r := fun x hx => hn x (List.mem_cons_of_mem _ (List.mem_cons_of_mem _ hx))
    split at h
    · rename_i t' n lo hi hD
      split at h
      · rename_i hc
        obtain ⟨rfl, hj⟩ := hc
        cases h
        obtain ⟨x, vx, b1, b2⟩ := z_bt_ok hs hj
        obtain ⟨i1, i2, -⟩ := z_idx (n := n) b1 b2
        obtain ⟨e, he, hce⟩ := hr.1 o _ hD
        have hst : z_st ρ (j :: .inl (.ref (o + 2)) :: r) = .int x :: .ref (o + 2) :: z_st ρ r := by
          show z_v ρ j :: _ = _
          rw [vx]; rfl
        rw [hst]
        unfold z_cell at hce
        dsimp only at hce
        by_cases ht : t' = 1
        · rw [if_pos ht] at hce ⊢
          obtain ⟨l, e1, e2, e3⟩ := hce
          subst e1
          have hm := z_gd (0 : Int64) (show x.toNatClampNeg < l.length by rw [e2]; exact i2)
          refine ⟨_, _, ?_, z_hp_new hs hv hnr hr hf (w := .long (l.getD x.toNatClampNeg 0)) ?_⟩
          · show (match H[o]? with
              | some (.inl (t', .inr (.inl l))) => if t' = 1 then (if x < 0 ∨ l.length ≤ x.toNatClampNeg then none else some (Value.long (l.getD x.toNatClampNeg 0) :: z_st ρ r, H, 0, 0)) else none
              | _ => none) = _
            rw [he]
            dsimp only
            rw [if_pos ht, if_neg (by rw [e2]; exact i1)]
          · rw [if_pos ht]
            exact Or.inr ⟨rfl, _, rfl, e3 _ hm⟩
        · rw [if_neg ht] at hce ⊢
          obtain ⟨h4, l, e1, e2, e3⟩ := hce
          subst e1
          have hm := z_gd (0 : Int32) (show x.toNatClampNeg < l.length by rw [e2]; exact i2)
          refine ⟨_, _, ?_, z_hp_new hs hv hnr hr hf (w := .int (l.getD x.toNatClampNeg 0)) ?_⟩
          · show (match H[o]? with
              | some (.inl (t2, .inl l)) => if t2 = t' then (if x < 0 ∨ l.length ≤ x.toNatClampNeg then none else some (Value.int (l.getD x.toNatClampNeg 0) :: z_st ρ r, H, 0, 0)) else none
              | _ => none) = _
            rw [he]
            dsimp only
            rw [if_pos rfl, if_neg (by rw [e2]; exact i1)]
          · rw [if_neg ht]
            exact Or.inl ⟨rfl, _, rfl, e3 _ hm⟩
      · cases h
    · cases h
  · cases h
theorem z_so_ok (hs : z_sat ρ f) (hv : z_ovk ρ ov) {st : List zO} (hn : z_nn ρ st) (hr : z_hr J D ρ ov H) (hf : z_frm D ms H0 H) {q : zH} (h : z_so f ρ.length ov st = some q) : ∃ st' H', a_lald (z_st ρ st) H = some (st', H', 0, 0) ∧ z_hpR J D ms ρ H0 H q st' H' := by
  unfold z_so at h
  split at h
  · rename_i j r
    have hnr : z_nn ρ r := fun x hx => hn x (List.mem_cons_of_mem _ (List.mem_cons_of_mem _ hx))
    split at h
    · rename_i hj
      cases h
      obtain ⟨x, vx, b1, b2⟩ := z_bt_ok hs hj
      obtain ⟨i1, i2, -⟩ := z_idx (n := 6) b1 (by omega)
      have hst : z_st ρ (j :: .inl (.ref 1) :: r) = .int x :: .ref 1 :: z_st ρ r := by
        show z_v ρ j :: _ = _
        rw [vx]; rfl
      rw [hst]
      refine ⟨_, _, ?_, z_hp_new hs hv hnr hr hf (w := .long (a_so.getD x.toNatClampNeg 0)) (Or.inr ⟨rfl, _, rfl, z_fll _⟩)⟩
      show (if x < 0 ∨ a_so.length ≤ x.toNatClampNeg then none else some (Value.long (a_so.getD x.toNatClampNeg 0) :: z_st ρ r, H, 0, 0)) = _
      rw [if_neg (show ¬ (x < 0 ∨ a_so.length ≤ x.toNatClampNeg) from i1)]
    · cases h
  · cases h
theorem z_aald_ok (hs : z_sat ρ f) (hv : z_ovk ρ ov) {st : List zO} (hn : z_nn ρ st) (hr : z_hr J D ρ ov H) (hf : z_frm D ms H0 H) {q : zH} (h : z_aald D f ρ.length ov st = some q) : ∃ st' H', a_aald (z_st ρ st) H = some (st', H', 0, 0) ∧ z_hpR J D ms ρ H0 H q st' H' := by
  unfold z_aald at h
  split at h
  · rename_i j o r
    have hnr : z_nn ρ r := fun x hx => hn x (List.mem_cons_of_mem _ (List.mem_cons_of_mem _ hx))
    split at h
    · rename_i t rs x hD hj
      split at h
      · rename_i hc
        split at h
        · rename_i q0 hq0
          cases h
          obtain ⟨y, vy, -, b1, b2⟩ := z_ib_ex hs hj
          have hlt := (List.getElem?_eq_some_iff.mp hq0).1
          have ey : y.toInt = x.1 := by omega
          obtain ⟨i1, i2, i3⟩ := z_idx (x := y) (n := rs.length) (by omega) (by omega)
          obtain ⟨e, he, hce⟩ := hr.1 o _ hD
          obtain ⟨h4, h5, rfl⟩ := hce
          have hst : z_st ρ (j :: .inl (.ref (o + 2)) :: r) = .int y :: .ref (o + 2) :: z_st ρ r := by
            show z_v ρ j :: _ = _
            rw [vy]; rfl
          rw [hst]
          have hnn : z_nn ρ (.inl (.ref q0) :: r) := fun z hz => by
            rcases List.mem_cons.mp hz with rfl | hz
            · exact fun q => by cases q
            · exact hnr z hz
          refine ⟨_, _, ?_, z_hp_old hs hv hnn hr hf⟩
          show (match H[o]? with
            | some (.inl (t', .inr (.inr l))) => if 4 ≤ t' ∧ t' < a_tys.length then (if y < 0 ∨ l.length ≤ y.toNatClampNeg then none else some (a_rv (l.getD y.toNatClampNeg none) :: z_st ρ r, H, 0, 0)) else none
            | _ => none) = _
          rw [he]
          dsimp only
          rw [if_pos ⟨h4, h5⟩, if_neg (by rw [List.length_map]; exact i1)]
          have e5 : y.toNatClampNeg = x.1.toNat := by omega
          rw [List.getD_eq_getElem?_getD, List.getElem?_map, e5, hq0]
          rfl
        · cases h
      · cases h
    · cases h
  · cases h
end ZP
