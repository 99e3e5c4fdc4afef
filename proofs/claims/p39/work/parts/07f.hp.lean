/-! ===== the heap on such values ===== -/
/-- what a field or an array takes -/
def s_bit (fa : sFa) (e : sV) : Bool := decide (s_ty e = 1) && decide (0 ≤ (s_itv fa e).1) && decide ((s_itv fa e).2 ≤ 1)
def s_fit (fa : sFa) (ty : FieldType) (e : sV) : Bool := match e with
  | [.inl w] => a_fit ty w
  | _ => match ty with
    | .int => decide (s_ty e = 1)
    | .long => decide (s_ty e = 2)
    | .boolean => s_bit fa e
    | _ => false
def s_get (k : aK) (st : List sV) (h : sH) : Option (List sV × sH) := match st with
  | [.inl (.ref (o + 2))] :: r => match s_hget h o with
    | some (.inr (ci, fs)) => if ci = k.2.1 then match fs[k.2.2.1]? with
      | some v => some (v :: r, h)
      | none => none
      else none
    | _ => none
  | _ => none
def s_putf (fa : sFa) (k : aK) (st : List sV) (h : sH) : Option (List sV × sH) := match st with
  | v :: [.inl (.ref (o + 2))] :: r => match s_hget h o with
    | some (.inr (ci, fs)) => if ci = k.2.1 ∧ k.2.2.1 < fs.length ∧ s_fit fa (a_fty k.2.1 k.2.2.1) v = true then some (r, s_hset h o (.inr (ci, fs.set k.2.2.1 v))) else none
    | _ => none
  | _ => none
/-- a place in an array -/
def s_ix (t : Nat) (st : List sV) (h : sH) : Option (Nat × Nat × sA × List sV) := match st with
  | [.inl (.int j)] :: [.inl (.ref (o + 2))] :: r => match s_hget h o with
    | some (.inl a) => if a.1 = t ∧ ¬ (j < 0 ∨ a.2.1 ≤ j.toNatClampNeg) then some (j.toNatClampNeg, o, a, r) else none
    | _ => none
  | _ => none
/-- a place that is not known, of an array that holds one value everywhere -/
def s_ixs (fa : sFa) (t : Nat) (st : List sV) (h : sH) : Option (sV × List sV) := match st with
  | e :: [.inl (.ref (o + 2))] :: r => match s_hget h o with
    | some (.inl a) => if a.1 = t ∧ s_ty e = 1 ∧ 0 ≤ (s_itv fa e).1 ∧ (s_itv fa e).2 < (a.2.1 : Int) ∧ a.2.2.2 = [] then some (a.2.2.1, r) else none
    | _ => none
  | _ => none
def s_ald (fa : sFa) (t : Nat) (ty : Nat) (st : List sV) (h : sH) : Option (List sV × sH) := match s_ix t st h with
  | some (j, _, a, r) => if s_ty (s_at a j) = ty then some (s_at a j :: r, h) else none
  | none => match s_ixs fa t st h with
    | some (v, r) => if s_ty v = ty then some (v :: r, h) else none
    | none => none
def s_aset (a : sA) (j : Nat) (e : sV) : sA := match a with
  | (t, n, d, ov) => (t, n, d, (j, e) :: ov)
def s_ch (e : sV) : Bool := match e with
  | [.inl (.int n)] => decide (a_nar 3 n = n)
  | _ => decide (e.getLast? = some (.inr (.inr (.inl .i2c)))) && decide (s_ty e = 1)
def s_afit (fa : sFa) (t : Nat) (e : sV) : Bool := match t with
  | 0 => decide (s_ty e = 1)
  | 1 => decide (s_ty e = 2)
  | 2 => s_bit fa e
  | 3 => s_ch e
  | _ => false
def s_ast (fa : sFa) (t : Nat) (st : List sV) (h : sH) : Option (List sV × sH) := match st with
  | e :: st' => match s_ix t st' h with
    | some (j, o, a, r) => if s_afit fa t e then some (r, s_hset h o (.inl (s_aset a j e))) else none
    | none => none
  | _ => none
section SHP
variable {E : Nat → Int32} {F : sF}
theorem s_eH_get (h : sH) (o : Nat) : (s_eH E F h)[o]? = (s_hget h o).map (s_eE E F) := by
  unfold s_eH s_hget
  rw [List.getElem?_map]
  by_cases e : o < h.1
  · rw [List.getElem?_range e, if_pos e]; rfl
  · rw [List.getElem?_eq_none (by rw [List.length_range]; omega), if_neg e]; rfl
theorem s_eH_set (h : sH) (o : Nat) (c : sE) : (s_eH E F h).set o (s_eE E F c) = s_eH E F (s_hset h o c) := by
  unfold s_eH s_hset
  exact s_rng_st _ _ _ _ (by dsimp only; rw [s_hg_set, if_pos rfl]) (fun i hi => by dsimp only; rw [s_hg_set, if_neg hi])
theorem s_get_ok {k : aK} {st st' : List sV} {h h' : sH} (q : s_get k st h = some (st', h')) : a_get k (s_est E F st) (s_eH E F h) = some (s_est E F st', s_eH E F h', 0, 0) := by
  unfold s_get at q
  split at q
  · rename_i o r
    split at q
    · rename_i ci fs hh
      split at q
      · rename_i hci
        split at q
        · rename_i v hv
          cases q
          show (match (s_eH E F h)[o]? with
            | some (.inr (ci, fs)) => if ci = k.2.1 then match fs[k.2.2.1]? with
              | some v => some (v :: s_est E F r, s_eH E F h, 0, 0)
              | none => none
              else none
            | _ => none) = _
          rw [s_eH_get, hh]
          dsimp only [Option.map_some, s_eE]
          rw [if_pos hci]
          unfold s_est
          rw [List.getElem?_map, hv]
          rfl
        · cases q
      · cases q
    · cases q
  · cases q
theorem s_01 {n : Int32} (h1 : 0 ≤ n.toInt) (h2 : n.toInt ≤ 1) : n = 0 ∨ n = 1 := by
  by_cases h : n.toInt = 0
  · exact Or.inl (Int32.toInt_inj.mp (by rw [h]; rfl))
  · exact Or.inr (Int32.toInt_inj.mp (by rw [show n.toInt = 1 by omega]; rfl))
theorem s_bit_ok (hF : s_Fok F) {fa : sFa} (hs : s_sat E F fa) {e : sV} (h : s_bit fa e = true) : s_ev E F e = .int 0 ∨ s_ev E F e = .int 1 := by
  unfold s_bit at h
  simp only [Bool.and_eq_true, decide_eq_true_eq] at h
  obtain ⟨n, q⟩ := s_ty1 (E := E) hF h.1.1
  have hi := s_itv_ok hs q
  rw [q]
  rcases s_01 (n := n) (by omega) (by omega) with e | e <;> rw [e]
  · exact Or.inl rfl
  · exact Or.inr rfl
theorem s_fit_ok (hF : s_Fok F) {fa : sFa} (hs : s_sat E F fa) {ty : FieldType} {e : sV} (h : s_fit fa ty e = true) : a_fit ty (s_ev E F e) = true := by
  unfold s_fit at h
  split at h
  · exact h
  · split at h
    · obtain ⟨n, q⟩ := s_ty1 (E := E) hF (of_decide_eq_true h)
      rw [q]; rfl
    · obtain ⟨n, q⟩ := s_ty2 (E := E) hF (of_decide_eq_true h)
      rw [q]; rfl
    · rcases s_bit_ok hF hs h with q | q <;> rw [q] <;> decide
    · cases h
theorem s_putf_ok (hF : s_Fok F) {fa : sFa} (hs : s_sat E F fa) {k : aK} {st st' : List sV} {h h' : sH} (q : s_putf fa k st h = some (st', h')) : a_put k (s_est E F st) (s_eH E F h) = some (s_est E F st', s_eH E F h', 0, 0) := by
  unfold s_putf at q
  split at q
  · rename_i v o r
    split at q
    · rename_i ci fs hh
      split at q
      · rename_i hc
        obtain ⟨h1, h2, h3⟩ := hc
        cases q
        show (match (s_eH E F h)[o]? with
          | some (.inr (ci, fs)) => if ci = k.2.1 then (if k.2.2.1 < fs.length then (if a_fit (a_fty k.2.1 k.2.2.1) (s_ev E F v) then some (s_est E F st', (s_eH E F h).set o (.inr (ci, fs.set k.2.2.1 (s_ev E F v))), 0, 0) else none) else none) else none
          | _ => none) = _
        rw [s_eH_get, hh]
        dsimp only [Option.map_some, s_eE]
        rw [if_pos h1, if_pos (by unfold s_est; rw [List.length_map]; exact h2), if_pos (s_fit_ok hF hs h3), ← s_eH_set]
        dsimp only [s_eE]
        unfold s_est
        rw [List.map_set]
      · cases q
    · cases q
  · cases q
theorem s_ix_s {t : Nat} {st r : List sV} {h : sH} {j o : Nat} {a : sA} (q : s_ix t st h = some (j, o, a, r)) : ∃ n : Int32, st = [.inl (.int n)] :: [.inl (.ref (o + 2))] :: r ∧ s_hget h o = some (.inl a) ∧ a.1 = t ∧ ¬ (n < 0 ∨ a.2.1 ≤ n.toNatClampNeg) ∧ j = n.toNatClampNeg := by
  unfold s_ix at q
  split at q
  · rename_i n o' r'
    split at q
    · rename_i a' hh
      split at q
      · rename_i hc
        cases q
        exact ⟨n, rfl, hh, hc.1, hc.2, rfl⟩
      · cases q
    · cases q
  · cases q
theorem s_rng {α : Type} (f : Nat → α) (n : Nat) (dv : α) {j : Nat} (h : j < n) : ((List.range n).map f).getD j dv = f j := by
  rw [List.getD_eq_getElem?_getD, List.getElem?_map, List.getElem?_range h]; rfl
theorem s_rng_set {α : Type} (f g : Nat → α) (n : Nat) {j : Nat} (x : α) (h1 : g j = x) (h2 : ∀ i, i ≠ j → g i = f i) : ((List.range n).map f).set j x = (List.range n).map g := by
  apply List.ext_getElem?
  intro i
  rw [List.getElem?_set, List.getElem?_map, List.getElem?_map]
  by_cases e : j = i
  · subst e
    simp only [if_true, List.length_map, List.length_range]
    split
    · rename_i hlt
      rw [List.getElem?_range hlt, Option.map_some, h1]
    · rename_i hlt
      rw [List.getElem?_eq_none (by rw [List.length_range]; omega)]; rfl
  · rw [if_neg e]
    by_cases hlt : i < n
    · rw [List.getElem?_range hlt, Option.map_some, Option.map_some, h2 i (fun q => e q.symm)]
    · rw [List.getElem?_eq_none (by rw [List.length_range]; omega)]; rfl
theorem s_at_set (a : sA) (j i : Nat) (e : sV) : s_at (s_aset a j e) i = if i = j then e else s_at a i := by
  unfold s_at s_aset
  dsimp only
  rw [List.lookup_cons]
  by_cases h : i = j
  · subst h
    simp
  · rw [if_neg h, show (i == j) = false from beq_eq_false_iff_ne.mpr h]
end SHP
