/-! ===== calls, and runs ===== -/
def s_wd (st : List sV) : Nat := (st.map (fun e => if s_ty e = 2 then 2 else 1)).sum
def s_allty (l : List sV) : Bool := l.all (fun e => !decide (s_ty e = 0))
def s_entry : List sV → sL
  | [] => []
  | v :: vs => if s_ty v = 2 then some v :: none :: s_entry vs else some v :: s_entry vs
def s_ent (as : List sV) (n : Nat) : sL := s_entry as ++ List.replicate (n - (s_entry as).length) none
def s_inv (P : List aM) (i : Instr) (k : aK) (st : List sV) (h : sH) : Option (aM × List sV × List sV) := match P[k.2.1]? with
  | none => none
  | some M => match i with
    | .invokevirtual _ => if k.1 = 4 ∨ k.1 = 18 then match st.drop M.2.2.2.2.1 with
      | [.inl (.ref (o + 2))] :: r => match s_hget h o with
        | some (.inr (c, _)) => if c = k.2.2.1 ∧ s_allty st = true ∧ s_wd r ≤ 8 ∧ (s_entry ([.inl (.ref (o + 2))] :: (st.take M.2.2.2.2.1).reverse)).length ≤ M.2.2.1 then some (M, [.inl (.ref (o + 2))] :: (st.take M.2.2.2.2.1).reverse, r) else none
        | _ => none
      | _ => none
      else none
    | .invokestatic _ => if k.1 = 8 ∨ k.1 = 20 then
        (if M.2.2.2.2.1 ≤ st.length ∧ s_allty st = true ∧ s_wd (st.drop M.2.2.2.2.1) ≤ 8 ∧ (s_entry (st.take M.2.2.2.2.1).reverse).length ≤ M.2.2.1 then some (M, (st.take M.2.2.2.2.1).reverse, st.drop M.2.2.2.2.1) else none)
      else none
    | _ => none
def s_ret (fa : sFa) (i : Instr) (ret : Option FieldType) (st : List sV) : Option (Option sV) := match i with
  | .ireturn => match ret, st with
    | some .int, [a] => if s_ty a = 1 then some (some a) else none
    | some .boolean, [a] => if s_bit fa a then some (some a) else none
    | some .char, [[.inl (.int n)]] => if narrow .char (.int n) = .int n then some (some ([.inl (.int n)])) else none
    | _, _ => none
  | .lreturn => match ret, st with
    | some .long, [a] => if s_ty a = 2 then some (some a) else none
    | _, _ => none
  | .return_ => match ret, st with
    | none, [] => some none
    | _, _ => none
  | _ => none
section SRUN
variable {E : Nat → Int32} {F : sF}
theorem s_cat (hF : s_Fok F) {e : sV} (h : s_ty e ≠ 0) : (s_ev E F e).category = if s_ty e = 2 then 2 else 1 := by
  have hle := s_ty_le e
  by_cases h2 : s_ty e = 2
  · obtain ⟨n, q⟩ := s_ty2 (E := E) hF h2
    rw [q, if_pos h2]; rfl
  · rw [if_neg h2]
    by_cases h1 : s_ty e = 1
    · obtain ⟨n, q⟩ := s_ty1 (E := E) hF h1
      rw [q]; rfl
    · obtain ⟨n, q⟩ := s_ty3 (E := E) hF (e := e) (by omega)
      rw [q]; rfl
theorem s_allty_in {l : List sV} (h : s_allty l = true) : ∀ e ∈ l, s_ty e ≠ 0 := by
  intro e he
  have := List.all_eq_true.mp h e he
  simpa using this
theorem s_wd_ok (hF : s_Fok F) {l : List sV} (h : ∀ e ∈ l, s_ty e ≠ 0) : a_wd (s_est E F l) = s_wd l := by
  induction l with
  | nil => rfl
  | cons e t ih =>
    have h1 := ih (fun x hx => h x (List.mem_cons_of_mem _ hx))
    have h2 := s_cat (E := E) hF (h e List.mem_cons_self)
    unfold a_wd s_wd s_est at *
    simp only [List.map_cons, List.sum_cons]
    rw [h1, h2]
theorem s_entry_ok (hF : s_Fok F) {l : List sV} (h : ∀ e ∈ l, s_ty e ≠ 0) : a_entry (s_est E F l) = s_els E F (s_entry l) := by
  induction l with
  | nil => rfl
  | cons e t ih =>
    have h1 := ih (fun x hx => h x (List.mem_cons_of_mem _ hx))
    have h2 := s_cat (E := E) hF (h e List.mem_cons_self)
    show a_entry (s_ev E F e :: s_est E F t) = _
    unfold a_entry s_entry
    by_cases h3 : s_ty e = 2
    · rw [if_pos h3] at h2
      rw [if_pos h2, if_pos h3, h1]
      rfl
    · rw [if_neg h3] at h2
      rw [if_neg (by rw [h2]; decide), if_neg h3, h1]
      rfl
theorem s_ent_ok (hF : s_Fok F) {l : List sV} (h : ∀ e ∈ l, s_ty e ≠ 0) (n : Nat) : a_ent (s_est E F l) n = s_els E F (s_ent l n) := by
  unfold a_ent s_ent
  rw [s_entry_ok hF h, s_els_len]
  unfold s_els
  rw [List.map_append, List.map_replicate]
  rfl
theorem s_inv_ok (hF : s_Fok F) {P : List aM} {X : aX} {i : Instr} {len : Nat} {k : aK} {pc : Nat} {ls : aL} {st as rest : List sV} {h : sH} {M : aM} {ret : Option FieldType} (q : s_inv P i k st h = some (M, as, rest)) :
    a_op X i len k pc ls (s_est E F st) (s_eH E F h) = none ∧ a_ret i k ret (s_est E F st) = none ∧ a_inv P i k (s_est E F st) (s_eH E F h) = some (M, s_est E F as, s_est E F rest) ∧ (∀ e ∈ as, s_ty e ≠ 0) ∧ P[k.2.1]? = some M := by
  unfold s_inv at q
  split at q
  · cases q
  · rename_i M0 hM
    split at q
    · split at q
      · rename_i hk
        split at q
        · rename_i o r hdr
          split at q
          · rename_i ci fs hh
            split at q
            · rename_i hc
              obtain ⟨h1, h2, h3, h4⟩ := hc
              cases q
              have hall := s_allty_in h2
              have hin : ∀ e ∈ ([.inl (.ref (o + 2))] : sV) :: (st.take M.2.2.2.2.1).reverse, s_ty e ≠ 0 := by
                intro e he
                rcases List.mem_cons.mp he with rfl | he
                · show (3 : Nat) ≠ 0; decide
                · exact hall e (List.mem_of_mem_take (List.mem_reverse.mp he))
              have hinr : ∀ e ∈ rest, s_ty e ≠ 0 := fun e he => hall e (List.mem_of_mem_drop (by rw [hdr]; exact List.mem_cons_of_mem _ he))
              refine ⟨by cases X <;> rfl, rfl, ?_, hin, hM⟩
              have e1 : (s_est E F st).drop M.2.2.2.2.1 = .ref (o + 2) :: s_est E F rest := by
                unfold s_est
                rw [← List.map_drop, hdr]; rfl
              have e2 : (.ref (o + 2) :: ((s_est E F st).take M.2.2.2.2.1).reverse : List Value) = s_est E F ([.inl (.ref (o + 2))] :: (st.take M.2.2.2.2.1).reverse) := by
                unfold s_est
                rw [List.map_cons, List.map_reverse, List.map_take]; rfl
              have e3 : a_recv (s_eH E F h) (.ref (o + 2)) k.2.2.1 = true := by
                show (match (s_eH E F h)[o]? with
                  | some (.inr (c, _)) => decide (c = k.2.2.1)
                  | _ => false) = true
                rw [s_eH_get, hh]
                exact decide_eq_true h1
              unfold a_inv
              rw [hM]
              dsimp only
              rw [if_pos hk, e1]
              dsimp only
              rw [e2, if_pos ⟨e3, by rw [s_wd_ok hF hinr]; exact h3, by rw [s_entry_ok hF hin, s_els_len]; exact h4⟩]
            · cases q
          · cases q
        · cases q
      · cases q
    · split at q
      · rename_i hk
        split at q
        · rename_i hc
          obtain ⟨h1, h2, h3, h4⟩ := hc
          cases q
          have hall := s_allty_in h2
          have hin : ∀ e ∈ (st.take M.2.2.2.2.1).reverse, s_ty e ≠ 0 := fun e he => hall e (List.mem_of_mem_take (List.mem_reverse.mp he))
          have hinr : ∀ e ∈ st.drop M.2.2.2.2.1, s_ty e ≠ 0 := fun e he => hall e (List.mem_of_mem_drop he)
          have hk10 : ¬ k.1 = 10 := by omega
          refine ⟨?_, rfl, ?_, hin, hM⟩
          · cases X <;> simp [a_op, a_stk, a_loc, a_br, a_hp, a_scr, hk10]
          · unfold a_inv
            rw [hM]
            dsimp only
            have e1 : ((s_est E F st).take M.2.2.2.2.1).reverse = s_est E F (st.take M.2.2.2.2.1).reverse := by
              unfold s_est
              rw [List.map_reverse, List.map_take]
            have e2 : (s_est E F st).drop M.2.2.2.2.1 = s_est E F (st.drop M.2.2.2.2.1) := by
              unfold s_est
              rw [List.map_drop]
            rw [if_pos hk, e1, e2, if_pos ⟨by unfold s_est; rw [List.length_map]; exact h1, by rw [s_wd_ok hF hinr]; exact h3, by rw [s_entry_ok hF hin, s_els_len]; exact h4⟩]
        · cases q
      · cases q
    · cases q
theorem s_ret_ok (hF : s_Fok F) {fa : sFa} (hs : s_sat E F fa) {X : aX} {i : Instr} {len : Nat} {k : aK} {pc : Nat} {ls : aL} {st : List sV} {h : aH} {v : Option sV} {ret : Option FieldType} (q : s_ret fa i ret st = some v) :
    a_op X i len k pc ls (s_est E F st) h = none ∧ a_ret i k ret (s_est E F st) = some (v.map (s_ev E F)) ∧ ∀ n, v.map (s_ev E F) ≠ some (.retAddr n) := by
  unfold s_ret at q
  split at q
  · refine ⟨by cases X <;> rfl, ?_⟩
    split at q
    · rename_i a
      split at q
      · rename_i ht
        cases q
        obtain ⟨n, e⟩ := s_ty1 (E := E) hF ht
        simp only [s_est, List.map_cons, List.map_nil, Option.map_some, e]
        exact ⟨rfl, fun n q => by cases q⟩
      · cases q
    · rename_i a
      split at q
      · rename_i ht
        cases q
        simp only [s_est, List.map_cons, List.map_nil, Option.map_some]
        rcases s_bit_ok hF hs ht with e | e <;> rw [e] <;> exact ⟨by unfold a_ret; dsimp only; rw [if_pos (by decide)], fun n q => by cases q⟩
      · cases q
    · rename_i n
      split at q
      · rename_i ht
        cases q
        refine ⟨?_, fun n q => by cases q⟩
        show (if narrow .char (.int n) = .int n then some (some (Value.int n)) else none) = _
        rw [if_pos ht]; rfl
      · cases q
    · cases q
  · refine ⟨by cases X <;> rfl, ?_⟩
    split at q
    · rename_i a
      split at q
      · rename_i ht
        cases q
        obtain ⟨n, e⟩ := s_ty2 (E := E) hF ht
        simp only [s_est, List.map_cons, List.map_nil, Option.map_some, e]
        exact ⟨rfl, fun n q => by cases q⟩
      · cases q
    · cases q
  · refine ⟨by cases X <;> rfl, ?_⟩
    split at q
    · cases q
      exact ⟨rfl, fun n q => by cases q⟩
    · cases q
  · cases q
end SRUN
