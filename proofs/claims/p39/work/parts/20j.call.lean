/-! ===== v2: calls and answers ===== -/
def z_wd (f : zF) (st : List zO) : Nat := (st.map (fun e => if z_ty f e = 2 then 2 else 1)).sum
def z_allty (f : zF) (l : List zO) : Bool := l.all (fun e => !decide (z_ty f e = 0))
def z_entry (f : zF) : List zO → zL
  | [] => []
  | v :: vs => if z_ty f v = 2 then some v :: none :: z_entry f vs else some v :: z_entry f vs
def z_ent (f : zF) (as : List zO) (n : Nat) : zL := z_entry f as ++ List.replicate (n - (z_entry f as).length) none
def z_inv (D : Nat → Option zC) (P : List aM) (f : zF) (i : Instr) (k : aK) (st : List zO) : Option (aM × List zO × List zO) := match P[k.2.1]? with
  | none => none
  | some M => match i with
    | .invokevirtual _ => if k.1 = 4 then (match st.drop M.2.2.2.2.1 with
      | .inl (.ref (o + 2)) :: r => match D o with
        | some (.inr (.inl (c, _))) => if c = k.2.2.1 ∧ z_allty f st = true ∧ z_wd f r ≤ 8 ∧ (z_entry f (.inl (.ref (o + 2)) :: (st.take M.2.2.2.2.1).reverse)).length ≤ M.2.2.1 then some (M, .inl (.ref (o + 2)) :: (st.take M.2.2.2.2.1).reverse, r) else none
        | _ => none
      | _ => none) else none
    | .invokestatic _ => if k.1 = 8 then
        (if M.2.2.2.2.1 ≤ st.length ∧ z_allty f st = true ∧ z_wd f (st.drop M.2.2.2.2.1) ≤ 8 ∧ (z_entry f (st.take M.2.2.2.2.1).reverse).length ≤ M.2.2.1 then some (M, (st.take M.2.2.2.2.1).reverse, st.drop M.2.2.2.2.1) else none)
      else none
    | _ => none
def z_ret (f : zF) (i : Instr) (ret : Option FieldType) (st : List zO) : Option (Option zO) := match i with
  | .ireturn => match ret, st with
    | some .int, [a] => if z_ty f a = 1 then some (some a) else none
    | some .boolean, [a] => if z_bt f a 0 1 then some (some a) else none
    | some .char, [a] => if z_bt f a 0 65535 then some (some a) else none
    | _, _ => none
  | .lreturn => match ret, st with
    | some .long, [a] => if z_ty f a = 2 then some (some a) else none
    | _, _ => none
  | .return_ => match ret, st with
    | none, [] => some none
    | _, _ => none
  | _ => none
section ZR
variable {J : aH → Prop} {D : Nat → Option zC} {ρ : zR} {f : zF} {ov : zV} {H : aH}
theorem z_cat (hs : z_sat ρ f) {e : zO} (h : z_ty f e ≠ 0) : (z_v ρ e).category = if z_ty f e = 2 then 2 else 1 := by
  have hle := z_ty_le (f := f) e
  by_cases h2 : z_ty f e = 2
  · obtain ⟨n, q⟩ := (z_ty_ok hs e).2.1 h2
    rw [q, if_pos h2]; rfl
  · rw [if_neg h2]
    by_cases h1 : z_ty f e = 1
    · obtain ⟨n, q⟩ := (z_ty_ok hs e).1 h1
      rw [q]; rfl
    · obtain ⟨n, q⟩ := (z_ty_ok hs e).2.2 (by omega)
      rw [q]; rfl
theorem z_allty_in {l : List zO} (h : z_allty f l = true) : ∀ e ∈ l, z_ty f e ≠ 0 := by
  intro e he
  have := List.all_eq_true.mp h e he
  simpa using this
theorem z_wd_ok (hs : z_sat ρ f) {l : List zO} (h : ∀ e ∈ l, z_ty f e ≠ 0) : a_wd (z_st ρ l) = z_wd f l := by
  induction l with
  | nil => rfl
  | cons e t ih =>
    have h1 := ih (fun x hx => h x (List.mem_cons_of_mem _ hx))
    have h2 := z_cat hs (h e List.mem_cons_self)
    unfold a_wd z_wd z_st at *
    simp only [List.map_cons, List.sum_cons]
    rw [h1, h2]
theorem z_entry_ok (hs : z_sat ρ f) {l : List zO} (h : ∀ e ∈ l, z_ty f e ≠ 0) : a_entry (z_st ρ l) = z_ls ρ (z_entry f l) := by
  induction l with
  | nil => rfl
  | cons e t ih =>
    have h1 := ih (fun x hx => h x (List.mem_cons_of_mem _ hx))
    have h2 := z_cat hs (h e List.mem_cons_self)
    show a_entry (z_v ρ e :: z_st ρ t) = _
    unfold a_entry z_entry
    by_cases h3 : z_ty f e = 2
    · rw [if_pos h3] at h2
      rw [if_pos h2, if_pos h3, h1]
      rfl
    · rw [if_neg h3] at h2
      rw [if_neg (by rw [h2]; decide), if_neg h3, h1]
      rfl
theorem z_ent_ok (hs : z_sat ρ f) {l : List zO} (h : ∀ e ∈ l, z_ty f e ≠ 0) (n : Nat) : a_ent (z_st ρ l) n = z_ls ρ (z_ent f l n) := by
  unfold a_ent z_ent
  rw [z_entry_ok hs h, z_ls_len]
  unfold z_ls
  rw [List.map_append, List.map_replicate]
  rfl
theorem z_entry_in {l : List zO} {o : zO} (h : some o ∈ z_entry f l) : o ∈ l := by
  induction l with
  | nil => cases h
  | cons e t ih =>
    unfold z_entry at h
    split at h
    · rcases List.mem_cons.mp h with q | q
      · cases q; exact List.mem_cons_self
      · rcases List.mem_cons.mp q with q | q
        · cases q
        · exact List.mem_cons_of_mem _ (ih q)
    · rcases List.mem_cons.mp h with q | q
      · cases q; exact List.mem_cons_self
      · exact List.mem_cons_of_mem _ (ih q)
theorem z_ent_in {l : List zO} {n : Nat} {o : zO} (h : some o ∈ z_ent f l n) : o ∈ l := by
  unfold z_ent at h
  rcases List.mem_append.mp h with q | q
  · exact z_entry_in q
  · have := List.eq_of_mem_replicate q
    cases this
theorem z_inv_ok (hs : z_sat ρ f) (hr : z_hr J D ρ ov H) {P : List aM} {X : aX} {i : Instr} {len : Nat} {k : aK} {pc : Nat} {ls : aL} {st as rest : List zO} {M : aM} {ret : Option FieldType} (q : z_inv D P f i k st = some (M, as, rest)) :
    a_op X i len k pc ls (z_st ρ st) H = none ∧ a_ret i k ret (z_st ρ st) = none ∧ a_inv P i k (z_st ρ st) H = some (M, z_st ρ as, z_st ρ rest) ∧ (∀ e ∈ as, z_ty f e ≠ 0) ∧ P[k.2.1]? = some M ∧ k.1 ≠ 18 ∧ (∀ o ∈ as, o ∈ st) ∧ ∀ o ∈ rest, o ∈ st := by
  unfold z_inv at q
  split at q
  · cases q
  · rename_i M0 hM
    split at q
    · split at q
      · rename_i hk
        split at q
        · rename_i o r hdr
          split at q
          · rename_i ci fs hD
            split at q
            · rename_i hc
              obtain ⟨h1, h2, h3, h4⟩ := hc
              cases q
              have hall := z_allty_in h2
              have hmem : .inl (.ref (o + 2)) ∈ st ∧ ∀ e ∈ rest, e ∈ st := by
                have hsub : ∀ e ∈ (.inl (.ref (o + 2)) : zO) :: rest, e ∈ st := fun e he => List.mem_of_mem_drop (by rw [hdr]; exact he)
                exact ⟨hsub _ List.mem_cons_self, fun e he => hsub e (List.mem_cons_of_mem _ he)⟩
              have hin0 : ∀ e ∈ (.inl (.ref (o + 2)) : zO) :: (st.take M.2.2.2.2.1).reverse, e ∈ st := by
                intro e he
                rcases List.mem_cons.mp he with rfl | he
                · exact hmem.1
                · exact List.mem_of_mem_take (List.mem_reverse.mp he)
              have hin : ∀ e ∈ (.inl (.ref (o + 2)) : zO) :: (st.take M.2.2.2.2.1).reverse, z_ty f e ≠ 0 := fun e he => hall e (hin0 e he)
              have hinr : ∀ e ∈ rest, z_ty f e ≠ 0 := fun e he => hall e (hmem.2 e he)
              refine ⟨by cases X <;> rfl, rfl, ?_, hin, hM, by omega, hin0, hmem.2⟩
              have e1 : (z_st ρ st).drop M.2.2.2.2.1 = .ref (o + 2) :: z_st ρ rest := by
                unfold z_st
                rw [← List.map_drop, hdr]; rfl
              have e2 : (.ref (o + 2) :: ((z_st ρ st).take M.2.2.2.2.1).reverse : List Value) = z_st ρ (.inl (.ref (o + 2)) :: (st.take M.2.2.2.2.1).reverse) := by
                unfold z_st
                rw [List.map_cons, List.map_reverse, List.map_take]; rfl
              obtain ⟨e, he, hce⟩ := hr.1 o _ hD
              obtain ⟨vs, rfl, -, -⟩ := hce
              have e3 : a_recv H (.ref (o + 2)) k.2.2.1 = true := by
                show (match H[o]? with
                  | some (.inr (c, _)) => decide (c = k.2.2.1)
                  | _ => false) = true
                rw [he]
                exact decide_eq_true h1
              unfold a_inv
              rw [hM]
              dsimp only
              rw [if_pos (Or.inl hk), e1]
              dsimp only
              rw [e2, if_pos ⟨e3, by rw [z_wd_ok hs hinr]; exact h3, by rw [z_entry_ok hs hin, z_ls_len]; exact h4⟩]
            · cases q
          · cases q
        · cases q
      · cases q
    · split at q
      · rename_i hk
        split at q
        · rename_i hc
          obtain ⟨h1, h2, h3, h4⟩ := hc
          cases q
          have hall := z_allty_in h2
          have hin0 : ∀ e ∈ (st.take M.2.2.2.2.1).reverse, e ∈ st := fun e he => List.mem_of_mem_take (List.mem_reverse.mp he)
          have hr0 : ∀ e ∈ st.drop M.2.2.2.2.1, e ∈ st := fun e he => List.mem_of_mem_drop he
          have hin : ∀ e ∈ (st.take M.2.2.2.2.1).reverse, z_ty f e ≠ 0 := fun e he => hall e (hin0 e he)
          have hinr : ∀ e ∈ st.drop M.2.2.2.2.1, z_ty f e ≠ 0 := fun e he => hall e (hr0 e he)
          have hk10 : ¬ k.1 = 10 := by omega
          refine ⟨?_, rfl, ?_, hin, hM, by omega, hin0, hr0⟩
          · cases X <;> simp [a_op, a_stk, a_loc, a_br, a_hp, a_scr, hk10]
          · unfold a_inv
            rw [hM]
            dsimp only
            have e1 : ((z_st ρ st).take M.2.2.2.2.1).reverse = z_st ρ (st.take M.2.2.2.2.1).reverse := by
              unfold z_st
              rw [List.map_reverse, List.map_take]
            have e2 : (z_st ρ st).drop M.2.2.2.2.1 = z_st ρ (st.drop M.2.2.2.2.1) := by
              unfold z_st
              rw [List.map_drop]
            rw [if_pos (Or.inl hk), e1, e2, if_pos ⟨by unfold z_st; rw [List.length_map]; exact h1, by rw [z_wd_ok hs hinr]; exact h3, by rw [z_entry_ok hs hin, z_ls_len]; exact h4⟩]
        · cases q
      · cases q
    · cases q
theorem z_ret_ok (hs : z_sat ρ f) {X : aX} {i : Instr} {len : Nat} {k : aK} {pc : Nat} {ls : aL} {st : List zO} {h : aH} {v : Option zO} {ret : Option FieldType} (q : z_ret f i ret st = some v) :
    a_op X i len k pc ls (z_st ρ st) h = none ∧ a_ret i k ret (z_st ρ st) = some (v.map (z_v ρ)) ∧ (∀ n, v.map (z_v ρ) ≠ some (.retAddr n)) ∧ ∀ o, v = some o → o ∈ st ∧ z_v ρ o ≠ .null := by
  unfold z_ret at q
  split at q
  · refine ⟨by cases X <;> rfl, ?_⟩
    split at q
    · rename_i a
      split at q
      · rename_i ht
        cases q
        obtain ⟨n, e⟩ := (z_ty_ok hs a).1 ht
        simp only [z_st, List.map_cons, List.map_nil, Option.map_some, e]
        exact ⟨rfl, (fun n q => by cases q), fun o ho => by cases ho; exact ⟨List.mem_cons_self, by rw [e]; exact fun w => by cases w⟩⟩
      · cases q
    · rename_i a
      split at q
      · rename_i ht
        cases q
        obtain ⟨x, e, b1, b2⟩ := z_bt_ok hs ht
        simp only [z_st, List.map_cons, List.map_nil, Option.map_some, e]
        refine ⟨?_, (fun n q => by cases q), fun o ho => by cases ho; exact ⟨List.mem_cons_self, by rw [e]; exact fun w => by cases w⟩⟩
        rcases z_nar2 b1 b2 with rfl | rfl <;> (unfold a_ret; dsimp only; rw [if_pos (by decide)])
      · cases q
    · rename_i a
      split at q
      · rename_i ht
        cases q
        obtain ⟨x, e, b1, b2⟩ := z_bt_ok hs ht
        simp only [z_st, List.map_cons, List.map_nil, Option.map_some, e]
        refine ⟨?_, (fun n q => by cases q), fun o ho => by cases ho; exact ⟨List.mem_cons_self, by rw [e]; exact fun w => by cases w⟩⟩
        show (if narrow .char (.int x) = .int x then some (some (Value.int x)) else none) = _
        rw [if_pos (by show Value.int (x.toUInt32.toUInt16.toUInt32.toInt32) = _; rw [z_nar3 b1 b2])]
      · cases q
    · cases q
  · refine ⟨by cases X <;> rfl, ?_⟩
    split at q
    · rename_i a
      split at q
      · rename_i ht
        cases q
        obtain ⟨n, e⟩ := (z_ty_ok hs a).2.1 ht
        simp only [z_st, List.map_cons, List.map_nil, Option.map_some, e]
        exact ⟨rfl, (fun n q => by cases q), fun o ho => by cases ho; exact ⟨List.mem_cons_self, by rw [e]; exact fun w => by cases w⟩⟩
      · cases q
    · cases q
  · refine ⟨by cases X <;> rfl, ?_⟩
    split at q
    · cases q
      exact ⟨rfl, (fun n q => by cases q), fun o ho => by cases ho⟩
    · cases q
  · cases q
end ZR
