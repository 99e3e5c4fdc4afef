/-! ===== locals and jumps on such values ===== -/
def s_pre (ls : sL) (i : Nat) : Option sL := match i with
  | 0 => some ls
  | j + 1 => match ls[j]? with
    | some (some w) => if s_ty w = 2 then some (ls.set j none) else if s_ty w = 0 then none else some ls
    | _ => some ls
def s_ld (t : Nat) (ls : sL) (i : Nat) (st : List sV) : Option (sL × List sV) := match ls[i]? with
  | some (some v) => if s_ty v = t then some (ls, v :: st) else none
  | _ => none
def s_st (t : Nat) (ls : sL) (i : Nat) (st : List sV) : Option (sL × List sV) := match st with
  | v :: r => if s_ty v = t ∧ i < ls.length then (s_pre ls i).map (fun l => (l.set i (some v), r)) else none
  | _ => none
def s_st2 (ls : sL) (i : Nat) (st : List sV) : Option (sL × List sV) := match st with
  | v :: r => if s_ty v = 2 ∧ i + 1 < ls.length then (s_pre ls i).map (fun l => ((l.set i (some v)).set (i + 1) none, r)) else none
  | _ => none
def s_inc (ls : sL) (i : Nat) (n : Int) (st : List sV) : Option (sL × List sV) := match ls[i]? with
  | some (some v) => if s_ty v = 1 then (s_pre ls i).map (fun l => (l.set i (some (s_mkb .iadd v [.inl (.int (Int32.ofInt n))])), st)) else none
  | _ => none
def s_loc (i : Instr) (ls : sL) (st : List sV) : Option (sL × List sV) := match i with
  | .iload_n n => s_ld 1 ls (n : Nat) st
  | .iload n => s_ld 1 ls n st
  | .lload_n n => s_ld 2 ls (n : Nat) st
  | .lload n => s_ld 2 ls n st
  | .aload_n n => s_ld 3 ls (n : Nat) st
  | .aload n => s_ld 3 ls n st
  | .istore_n n => s_st 1 ls (n : Nat) st
  | .istore n => s_st 1 ls n st
  | .lstore_n n => s_st2 ls (n : Nat) st
  | .lstore n => s_st2 ls n st
  | .astore_n n => s_st 3 ls (n : Nat) st
  | .astore n => s_st 3 ls n st
  | .iinc n c => s_inc ls n c st
  | _ => none
section SLOC
variable {E : Nat → Int32} {F : sF}
theorem s_els_get (ls : sL) (i : Nat) : (s_els E F ls)[i]? = (ls[i]?).map (fun o => o.map (s_ev E F)) := by
  unfold s_els; rw [List.getElem?_map]
theorem s_els_len (ls : sL) : (s_els E F ls).length = ls.length := by unfold s_els; rw [List.length_map]
theorem s_els_set (ls : sL) (i : Nat) (o : Option sV) : (s_els E F ls).set i (o.map (s_ev E F)) = s_els E F (ls.set i o) := by
  unfold s_els; rw [List.map_set]
theorem s_ty1 (hF : s_Fok F) {e : sV} (h : s_ty e = 1) : ∃ n, s_ev E F e = .int n := (s_ty_ok hF e).1 h
theorem s_ty2 (hF : s_Fok F) {e : sV} (h : s_ty e = 2) : ∃ n, s_ev E F e = .long n := (s_ty_ok hF e).2.1 h
theorem s_ty3 (hF : s_Fok F) {e : sV} (h : s_ty e = 3) : ∃ n, s_ev E F e = .ref n := (s_ty_ok hF e).2.2 h
theorem s_u_le (i : Instr) (t : Nat) : s_u i t ≤ 3 := by unfold s_u; split <;> decide
theorem s_b_le (i : Instr) (t t' : Nat) : s_b i t t' ≤ 3 := by unfold s_b; split <;> decide
theorem s_vt_le (w : Value) : (s_vt w).1 ≤ 3 := by unfold s_vt; split <;> dsimp only <;> decide
theorem s_tt_le {ts ts' : List (Nat × Bool)} {t : sT} (ha : ∀ q ∈ ts, q.1 ≤ 3) (h : s_tt ts t = some ts') : ∀ q ∈ ts', q.1 ≤ 3 := by
  have cons : ∀ {q : Nat × Bool} {r : List (Nat × Bool)}, q.1 ≤ 3 → (∀ q ∈ r, q.1 ≤ 3) → ∀ x ∈ q :: r, x.1 ≤ 3 := fun h1 h2 => List.forall_mem_cons.mpr ⟨h1, h2⟩
  unfold s_tt at h
  split at h
  · cases h; exact cons (s_vt_le _) ha
  · cases h; exact cons (by decide) ha
  · split at h
    · split at h
      · cases h; exact cons (s_u_le _ _) (fun q hq => ha q (List.mem_cons_of_mem _ hq))
      · cases h
    · split at h
      · cases h
        refine cons ?_ (fun q hq => ha q (List.mem_cons_of_mem _ (List.mem_cons_of_mem _ hq)))
        dsimp only
        split
        · decide
        · exact s_b_le _ _ _
      · cases h
  · split at h
    · cases h
      refine cons ?_ (fun q hq => ha q (List.mem_cons_of_mem _ (List.mem_cons_of_mem _ hq)))
      dsimp only
      split <;> decide
    · cases h
theorem s_tr_le : ∀ {e : sV} {ts ts' : List (Nat × Bool)}, (∀ q ∈ ts, q.1 ≤ 3) → s_tr ts e = some ts' → ∀ q ∈ ts', q.1 ≤ 3
  | [], ts, ts', ha, h => by cases h; exact ha
  | t :: e, ts, ts', ha, h => by
    unfold s_tr at h
    split at h
    · rename_i ts1 h1
      exact s_tr_le (s_tt_le ha h1) h
    · cases h
theorem s_ty_le (e : sV) : s_ty e ≤ 3 := by
  unfold s_ty s_tn
  split
  · rename_i q hq
    exact s_tr_le (ts := []) (fun q hq => absurd hq List.not_mem_nil) hq q List.mem_cons_self
  · decide
theorem s_pre_ok (hF : s_Fok F) {ls l : sL} {i : Nat} (h : s_pre ls i = some l) : a_pre (s_els E F ls) i = s_els E F l ∧ l.length = ls.length := by
  unfold s_pre at h
  unfold a_pre
  split at h
  · cases h; exact ⟨rfl, rfl⟩
  · rename_i j
    dsimp only
    rw [s_els_get]
    split at h
    · rename_i w hw
      rw [hw]
      dsimp only [Option.map_some]
      split at h
      · rename_i h2
        cases h
        obtain ⟨n, e⟩ := s_ty2 (E := E) hF h2
        rw [e]
        refine ⟨?_, List.length_set⟩
        rw [if_pos (show (Value.long n).category = 2 from rfl)]
        exact s_els_set ls j none
      · rename_i h2
        split at h
        · cases h
        · rename_i h0
          cases h
          refine ⟨?_, rfl⟩
          have hle := s_ty_le w
          have hc : (s_ev E F w).category = 1 := by
            by_cases h1 : s_ty w = 1
            · obtain ⟨n, e⟩ := s_ty1 (E := E) hF h1
              rw [e]; rfl
            · obtain ⟨n, e⟩ := s_ty3 (E := E) hF (e := w) (by omega)
              rw [e]; rfl
          rw [if_neg (by rw [hc]; decide)]
    · rename_i hn
      cases h
      refine ⟨?_, rfl⟩
      split
      · rename_i w hw
        exfalso
        cases hq : ls[j]? with
        | none => rw [hq] at hw; cases hw
        | some o =>
          cases o with
          | none => rw [hq] at hw; cases hw
          | some v => exact hn v hq
      · rfl
theorem s_set1_ok (hF : s_Fok F) {ls l : sL} {i : Nat} {v : sV} (h : s_pre ls i = some l) : a_set1 (s_els E F ls) i (s_ev E F v) = s_els E F (l.set i (some v)) := by
  unfold a_set1
  rw [(s_pre_ok hF h).1]
  exact s_els_set l i (some v)
theorem s_set2_ok (hF : s_Fok F) {ls l : sL} {i : Nat} {v : sV} (h : s_pre ls i = some l) : a_set2 (s_els E F ls) i (s_ev E F v) = s_els E F ((l.set i (some v)).set (i + 1) none) := by
  unfold a_set2
  rw [(s_pre_ok hF h).1]
  rw [← s_els_set, ← s_els_set]
  rfl
theorem s_ld_s {t : Nat} {ls ls' : sL} {i : Nat} {st st' : List sV} (h : s_ld t ls i st = some (ls', st')) : ∃ v, ls[i]? = some (some v) ∧ s_ty v = t ∧ ls' = ls ∧ st' = v :: st := by
  unfold s_ld at h
  split at h
  · rename_i v hv
    split at h
    · rename_i ht
      cases h
      exact ⟨v, hv, ht, rfl, rfl⟩
    · cases h
  · cases h
theorem s_ldi_ok (hF : s_Fok F) {ls ls' : sL} {i : Nat} {st st' : List sV} (h : s_ld 1 ls i st = some (ls', st')) : a_ldi (s_els E F ls) i (s_est E F st) = some (s_els E F ls', s_est E F st') := by
  obtain ⟨v, hv, ht, rfl, rfl⟩ := s_ld_s h
  obtain ⟨n, e⟩ := s_ty1 (E := E) hF ht
  unfold a_ldi
  rw [s_els_get, hv]
  simp only [Option.map_some, e, s_est, List.map_cons]
theorem s_ldl_ok (hF : s_Fok F) {ls ls' : sL} {i : Nat} {st st' : List sV} (h : s_ld 2 ls i st = some (ls', st')) : a_ldl (s_els E F ls) i (s_est E F st) = some (s_els E F ls', s_est E F st') := by
  obtain ⟨v, hv, ht, rfl, rfl⟩ := s_ld_s h
  obtain ⟨n, e⟩ := s_ty2 (E := E) hF ht
  unfold a_ldl
  rw [s_els_get, hv]
  simp only [Option.map_some, e, s_est, List.map_cons]
theorem s_lda_ok (hF : s_Fok F) {ls ls' : sL} {i : Nat} {st st' : List sV} (h : s_ld 3 ls i st = some (ls', st')) : a_lda (s_els E F ls) i (s_est E F st) = some (s_els E F ls', s_est E F st') := by
  obtain ⟨v, hv, ht, rfl, rfl⟩ := s_ld_s h
  obtain ⟨n, e⟩ := s_ty3 (E := E) hF ht
  unfold a_lda
  rw [s_els_get, hv]
  simp only [Option.map_some, e, s_est, List.map_cons]
theorem s_st_s {t : Nat} {ls ls' : sL} {i : Nat} {st st' : List sV} (h : s_st t ls i st = some (ls', st')) : ∃ v l, st = v :: st' ∧ s_ty v = t ∧ i < ls.length ∧ s_pre ls i = some l ∧ ls' = l.set i (some v) := by
  unfold s_st at h
  split at h
  · rename_i v r
    split at h
    · rename_i hc
      cases hp : s_pre ls i with
      | none => rw [hp] at h; cases h
      | some l =>
        rw [hp] at h
        cases h
        exact ⟨v, l, rfl, hc.1, hc.2, rfl, rfl⟩
    · cases h
  · cases h
theorem s_sti_ok (hF : s_Fok F) {ls ls' : sL} {i : Nat} {st st' : List sV} (h : s_st 1 ls i st = some (ls', st')) : a_sti (s_els E F ls) i (s_est E F st) = some (s_els E F ls', s_est E F st') := by
  obtain ⟨v, l, rfl, ht, hi, hp, rfl⟩ := s_st_s h
  obtain ⟨n, e⟩ := s_ty1 (E := E) hF ht
  have h1 := s_set1_ok (v := v) hF hp (E := E)
  unfold a_sti
  simp only [s_est, List.map_cons, e, s_els_len, hi, if_true]
  rw [e] at h1
  rw [h1]
theorem s_sta_ok (hF : s_Fok F) {ls ls' : sL} {i : Nat} {st st' : List sV} (h : s_st 3 ls i st = some (ls', st')) : a_sta (s_els E F ls) i (s_est E F st) = some (s_els E F ls', s_est E F st') := by
  obtain ⟨v, l, rfl, ht, hi, hp, rfl⟩ := s_st_s h
  obtain ⟨n, e⟩ := s_ty3 (E := E) hF ht
  have h1 := s_set1_ok (v := v) hF hp (E := E)
  unfold a_sta
  simp only [s_est, List.map_cons, e, s_els_len, hi, if_true]
  rw [e] at h1
  rw [h1]
theorem s_stl_ok (hF : s_Fok F) {ls ls' : sL} {i : Nat} {st st' : List sV} (h : s_st2 ls i st = some (ls', st')) : a_stl (s_els E F ls) i (s_est E F st) = some (s_els E F ls', s_est E F st') := by
  unfold s_st2 at h
  split at h
  · rename_i v r
    split at h
    · rename_i hc
      cases hp : s_pre ls i with
      | none => rw [hp] at h; cases h
      | some l =>
        rw [hp] at h
        cases h
        obtain ⟨n, e⟩ := s_ty2 (E := E) hF hc.1
        have h1 := s_set2_ok (v := v) hF hp (E := E)
        unfold a_stl
        simp only [s_est, List.map_cons, e, s_els_len, hc.2, if_true]
        rw [e] at h1
        rw [h1]
    · cases h
  · cases h
theorem s_inc_ok (hF : s_Fok F) {ls ls' : sL} {i : Nat} {n : Int} {st st' : List sV} (h : s_inc ls i n st = some (ls', st')) : a_inc (s_els E F ls) i n (s_est E F st) = some (s_els E F ls', s_est E F st') := by
  unfold s_inc at h
  split at h
  · rename_i v hv
    split at h
    · rename_i ht
      cases hp : s_pre ls i with
      | none => rw [hp] at h; cases h
      | some l =>
        rw [hp] at h
        cases h
        obtain ⟨z, e⟩ := s_ty1 (E := E) hF ht
        have h1 := s_set1_ok (v := s_mkb .iadd v [.inl (.int (Int32.ofInt n))]) hF hp (E := E)
        rw [s_mkb_ev hF (by rw [ht]; decide) (by show (1 : Nat) ≠ 0; decide) rfl, e] at h1
        unfold a_inc
        rw [s_els_get, hv]
        simp only [Option.map_some, e]
        exact congrArg (fun q => some (q, s_est E F st)) h1
    · cases h
  · cases h
theorem s_loc_ok (hF : s_Fok F) {i : Instr} {k : aK} {ls ls' : sL} {st st' : List sV} (h : s_loc i ls st = some (ls', st')) : a_stk i k (s_est E F st) = none ∧ a_loc i (s_els E F ls) (s_est E F st) = some (s_els E F ls', s_est E F st') := by
  unfold s_loc at h
  split at h <;> first
    | exact ⟨rfl, s_ldi_ok hF h⟩
    | exact ⟨rfl, s_ldl_ok hF h⟩
    | exact ⟨rfl, s_lda_ok hF h⟩
    | exact ⟨rfl, s_sti_ok hF h⟩
    | exact ⟨rfl, s_stl_ok hF h⟩
    | exact ⟨rfl, s_sta_ok hF h⟩
    | exact ⟨rfl, s_inc_ok hF h⟩
    | cases h
end SLOC
