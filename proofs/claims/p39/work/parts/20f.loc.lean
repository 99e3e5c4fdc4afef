/-! ===== v2: stack and locals of a frame ===== -/
abbrev zL : Type := List (Option zO)
def z_ls (ρ : zR) (ls : zL) : aL := ls.map (fun o => o.map (z_v ρ))
def z_st (ρ : zR) (st : List zO) : List Value := st.map (z_v ρ)
def z_nn (ρ : zR) (st : List zO) : Prop := ∀ o ∈ st, z_v ρ o ≠ .null
def z_nl (ρ : zR) (ls : zL) : Prop := ∀ o, some o ∈ ls → z_v ρ o ≠ .null
def z_c1 (f : zF) (o : zO) : Bool := decide (z_ty f o = 1) || decide (z_ty f o = 3)
def z_stk (f : zF) (nx : Nat) (i : Instr) (k : aK) (st : List zO) : Option (List zO × zF × Nat) := match s_con i k with
  | some w => some (.inl w :: st, f, nx)
  | none => match i with
    | .dup => match st with
      | a :: r => if z_c1 f a then some (a :: a :: r, f, nx) else none
      | _ => none
    | .pop => match st with
      | a :: r => if z_c1 f a then some (r, f, nx) else none
      | _ => none
    | .dup2 => match st with
      | a :: b :: r => if z_c1 f a && z_c1 f b then some (a :: b :: a :: b :: r, f, nx) else none
      | _ => none
    | _ => if s_isu i then (match st with
      | a :: r => match z_un f nx i a with
        | some (o, f', n') => some (o :: r, f', n')
        | none => none
      | _ => none) else match st with
      | b :: a :: r => match z_bin f nx i a b with
        | some (o, f', n') => some (o :: r, f', n')
        | none => none
      | _ => none
def z_pre (f : zF) (ls : zL) (i : Nat) : Option zL := match i with
  | 0 => some ls
  | j + 1 => match ls[j]? with
    | some (some w) => if z_ty f w = 2 then some (ls.set j none) else if z_ty f w = 0 then none else some ls
    | _ => some ls
def z_ld (f : zF) (t : Nat) (ls : zL) (i : Nat) (st : List zO) : Option (zL × List zO) := match ls[i]? with
  | some (some v) => if z_ty f v = t then some (ls, v :: st) else none
  | _ => none
def z_sto (f : zF) (t : Nat) (ls : zL) (i : Nat) (st : List zO) : Option (zL × List zO) := match st with
  | v :: r => if z_ty f v = t ∧ i < ls.length then (z_pre f ls i).map (fun l => (l.set i (some v), r)) else none
  | _ => none
def z_st2 (f : zF) (ls : zL) (i : Nat) (st : List zO) : Option (zL × List zO) := match st with
  | v :: r => if z_ty f v = 2 ∧ i + 1 < ls.length then (z_pre f ls i).map (fun l => ((l.set i (some v)).set (i + 1) none, r)) else none
  | _ => none
def z_loc (f : zF) (i : Instr) (ls : zL) (st : List zO) : Option (zL × List zO) := match i with
  | .iload_n n => z_ld f 1 ls (n : Nat) st
  | .iload n => z_ld f 1 ls n st
  | .lload_n n => z_ld f 2 ls (n : Nat) st
  | .lload n => z_ld f 2 ls n st
  | .aload_n n => z_ld f 3 ls (n : Nat) st
  | .aload n => z_ld f 3 ls n st
  | .istore_n n => z_sto f 1 ls (n : Nat) st
  | .istore n => z_sto f 1 ls n st
  | .lstore_n n => z_st2 f ls (n : Nat) st
  | .lstore n => z_st2 f ls n st
  | .astore_n n => z_sto f 3 ls (n : Nat) st
  | .astore n => z_sto f 3 ls n st
  | _ => none
/-- iinc -/
def z_inc (f : zF) (nx : Nat) (i : Instr) (ls : zL) : Option (zL × zF × Nat) := match i with
  | .iinc n c => match ls[n]? with
    | some (some v) => if z_ty f v = 1 then (match z_pre f ls n with
      | some l => match z_bin f nx .iadd v (.inl (.int (Int32.ofInt c))) with
        | some (o, f', n') => some (l.set n (some o), f', n')
        | none => none
      | none => none) else none
    | _ => none
  | _ => none
section ZFL
variable {ρ : zR} {f : zF}
theorem z_st_app {l : zR} {st : List zO} (h : z_nn ρ st) : z_st (ρ ++ l) st = z_st ρ st := List.map_congr_left (fun o ho => z_v_app (h o ho))
theorem z_ls_app {l : zR} {ls : zL} (h : z_nl ρ ls) : z_ls (ρ ++ l) ls = z_ls ρ ls := List.map_congr_left (fun o ho => by
  cases o with
  | none => rfl
  | some v => simp only [Option.map_some]; rw [z_v_app (h v ho)])
theorem z_nn_app {l : zR} {st : List zO} (h : z_nn ρ st) : z_nn (ρ ++ l) st := fun o ho => by rw [z_v_app (h o ho)]; exact h o ho
theorem z_nl_app {l : zR} {ls : zL} (h : z_nl ρ ls) : z_nl (ρ ++ l) ls := fun o ho => by rw [z_v_app (h o ho)]; exact h o ho
theorem z_c1_ok (hs : z_sat ρ f) {o : zO} (h : z_c1 f o = true) : (z_v ρ o).category = 1 := by
  unfold z_c1 at h
  simp only [Bool.or_eq_true, decide_eq_true_eq] at h
  rcases h with h | h
  · obtain ⟨n, q⟩ := (z_ty_ok hs o).1 h
    rw [q]; rfl
  · obtain ⟨n, q⟩ := (z_ty_ok hs o).2.2 h
    rw [q]; rfl
theorem z_con_nn {i : Instr} {k : aK} {w : Value} (h : s_con i k = some w) : w ≠ .null := by
  unfold s_con at h
  split at h <;> first
    | (cases h; exact fun e => by cases e)
    | (split at h
       · cases h; exact fun e => by cases e
       · cases h)
    | cases h
theorem z_stk_ok (hs : z_sat ρ f) {i : Instr} {k : aK} {st st' : List zO} {f' : zF} {nx' : Nat} (hn : z_nn ρ st) (h : z_stk f ρ.length i k st = some (st', f', nx')) : ∃ l : zR, (ρ ++ l).length = nx' ∧ z_sat (ρ ++ l) f' ∧ z_nn (ρ ++ l) st' ∧ a_stk i k (z_st ρ st) = some (z_st (ρ ++ l) st') := by
  have nil : ∀ {st' : List zO}, z_nn ρ st' → a_stk i k (z_st ρ st) = some (z_st ρ st') → ∃ l : zR, (ρ ++ l).length = ρ.length ∧ z_sat (ρ ++ l) f ∧ z_nn (ρ ++ l) st' ∧ a_stk i k (z_st ρ st) = some (z_st (ρ ++ l) st') := fun h1 h2 => ⟨[], by simp, by rw [List.append_nil]; exact hs, by rw [List.append_nil]; exact h1, by rw [List.append_nil]; exact h2⟩
  have tl : ∀ {a : zO} {r : List zO}, st = a :: r → z_nn ρ r := fun e o ho => hn o (by rw [e]; exact List.mem_cons_of_mem _ ho)
  unfold z_stk at h
  split at h
  · rename_i w hw
    cases h
    exact nil (fun o ho => by
      rcases List.mem_cons.mp ho with rfl | ho
      · exact z_con_nn hw
      · exact hn o ho) (s_con_ok hw _)
  · split at h
    · split at h
      · split at h
        · rename_i a r q
          cases h
          refine nil (fun o ho => ?_) ?_
          · rcases List.mem_cons.mp ho with rfl | ho
            · exact hn _ List.mem_cons_self
            · exact hn o ho
          · simp only [a_stk, z_st, List.map_cons, a_dup, z_c1_ok hs q, if_true]
        · cases h
      · cases h
    · split at h
      · split at h
        · rename_i a r q
          cases h
          refine nil (tl rfl) ?_
          simp only [a_stk, z_st, List.map_cons, a_pop, z_c1_ok hs q, if_true]
        · cases h
      · cases h
    · split at h
      · split at h
        · rename_i a b r q
          cases h
          simp only [Bool.and_eq_true] at q
          refine nil (fun o ho => ?_) ?_
          · rcases List.mem_cons.mp ho with rfl | ho
            · exact hn _ List.mem_cons_self
            · rcases List.mem_cons.mp ho with rfl | ho
              · exact hn _ (List.mem_cons_of_mem _ List.mem_cons_self)
              · exact hn o ho
          · simp only [a_stk, z_st, List.map_cons, a_dup2, z_c1_ok hs q.1, z_c1_ok hs q.2, and_self, if_true]
        · cases h
      · cases h
    · split at h
      · split at h
        · rename_i a r
          split at h
          · rename_i o f1 n1 hu
            cases h
            obtain ⟨l, h1, h2, h3, h4⟩ := z_un_ok hs hu
            have hr := tl rfl
            refine ⟨l, h1, h2, fun o' ho => ?_, ?_⟩
            · rcases List.mem_cons.mp ho with rfl | ho
              · exact h3
              · exact z_nn_app hr o' ho
            · show a_stk i k (z_v ρ a :: z_st ρ r) = some (z_v (ρ ++ l) o :: z_st (ρ ++ l) r)
              rw [z_st_app hr]
              exact h4 k _
          · cases h
        · cases h
      · split at h
        · rename_i b a r
          split at h
          · rename_i o f1 n1 hu
            cases h
            obtain ⟨l, h1, h2, h3, h4⟩ := z_bin_ok hs hu
            have hr : z_nn ρ r := fun o ho => hn o (List.mem_cons_of_mem _ (List.mem_cons_of_mem _ ho))
            refine ⟨l, h1, h2, fun o' ho => ?_, ?_⟩
            · rcases List.mem_cons.mp ho with rfl | ho
              · exact h3
              · exact z_nn_app hr o' ho
            · show a_stk i k (z_v ρ b :: z_v ρ a :: z_st ρ r) = some (z_v (ρ ++ l) o :: z_st (ρ ++ l) r)
              rw [z_st_app hr]
              exact h4 k _
          · cases h
        · cases h
theorem z_ls_get (ls : zL) (i : Nat) : (z_ls ρ ls)[i]? = (ls[i]?).map (fun o => o.map (z_v ρ)) := by unfold z_ls; rw [List.getElem?_map]
theorem z_ls_len (ls : zL) : (z_ls ρ ls).length = ls.length := by unfold z_ls; rw [List.length_map]
theorem z_ls_set (ls : zL) (i : Nat) (o : Option zO) : (z_ls ρ ls).set i (o.map (z_v ρ)) = z_ls ρ (ls.set i o) := by unfold z_ls; rw [List.map_set]
theorem z_ty_le (o : zO) : z_ty f o ≤ 3 := by
  unfold z_ty
  split
  · decide
  · split
    · decide
    · split <;> decide
theorem z_pre_ok (hs : z_sat ρ f) {ls l : zL} {i : Nat} (h : z_pre f ls i = some l) : a_pre (z_ls ρ ls) i = z_ls ρ l ∧ l.length = ls.length ∧ ∀ o, some o ∈ l → some o ∈ ls := by
  unfold z_pre at h
  unfold a_pre
  split at h
  · cases h; exact ⟨rfl, rfl, fun _ ho => ho⟩
  · rename_i j
    dsimp only
    rw [z_ls_get]
    split at h
    · rename_i w hw
      rw [hw]
      dsimp only [Option.map_some]
      split at h
      · rename_i h2
        cases h
        obtain ⟨n, e⟩ := (z_ty_ok hs w).2.1 h2
        rw [e]
        refine ⟨?_, List.length_set, fun o ho => ?_⟩
        · rw [if_pos (show (Value.long n).category = 2 from rfl)]
          exact z_ls_set ls j none
        · rcases List.mem_or_eq_of_mem_set ho with q | q
          · exact q
          · cases q
      · rename_i h2
        split at h
        · cases h
        · rename_i h0
          cases h
          refine ⟨?_, rfl, fun _ ho => ho⟩
          have hle := z_ty_le (f := f) w
          have hc : (z_v ρ w).category = 1 := by
            by_cases h1 : z_ty f w = 1
            · obtain ⟨n, e⟩ := (z_ty_ok hs w).1 h1
              rw [e]; rfl
            · obtain ⟨n, e⟩ := (z_ty_ok hs w).2.2 (by omega)
              rw [e]; rfl
          rw [if_neg (by rw [hc]; decide)]
    · rename_i hn
      cases h
      refine ⟨?_, rfl, fun _ ho => ho⟩
      split
      · rename_i w hw
        exfalso
        cases hq : ls[j]? with
        | none => rw [hq] at hw; cases hw
        | some o =>
          cases o with
          | none => rw [hq] at hw; cases hw
          | some v => exact hn v hq
      · rfl
theorem z_set1_ok (hs : z_sat ρ f) {ls l : zL} {i : Nat} {v : zO} (h : z_pre f ls i = some l) : a_set1 (z_ls ρ ls) i (z_v ρ v) = z_ls ρ (l.set i (some v)) := by
  unfold a_set1
  rw [(z_pre_ok hs h).1]
  exact z_ls_set l i (some v)
theorem z_set2_ok (hs : z_sat ρ f) {ls l : zL} {i : Nat} {v : zO} (h : z_pre f ls i = some l) : a_set2 (z_ls ρ ls) i (z_v ρ v) = z_ls ρ ((l.set i (some v)).set (i + 1) none) := by
  unfold a_set2
  rw [(z_pre_ok hs h).1]
  rw [← z_ls_set, ← z_ls_set]
  rfl
theorem z_nl_set {ls l : zL} (hn : z_nl ρ ls) (hl : ∀ o, some o ∈ l → some o ∈ ls) {i : Nat} {v : zO} (hv : z_v ρ v ≠ .null) : z_nl ρ (l.set i (some v)) := fun o ho => by
  rcases List.mem_or_eq_of_mem_set ho with q | q
  · exact hn o (hl o q)
  · cases q; exact hv
theorem z_nl_none {l : zL} (hn : z_nl ρ l) {i : Nat} : z_nl ρ (l.set i none) := fun o ho => by
  rcases List.mem_or_eq_of_mem_set ho with q | q
  · exact hn o q
  · cases q
theorem z_ld_s {t : Nat} {ls ls' : zL} {i : Nat} {st st' : List zO} (h : z_ld f t ls i st = some (ls', st')) : ∃ v, ls[i]? = some (some v) ∧ z_ty f v = t ∧ ls' = ls ∧ st' = v :: st := by
  unfold z_ld at h
  split at h
  · rename_i v hv
    split at h
    · rename_i ht
      cases h
      exact ⟨v, hv, ht, rfl, rfl⟩
    · cases h
  · cases h
theorem z_sto_s {t : Nat} {ls ls' : zL} {i : Nat} {st st' : List zO} (h : z_sto f t ls i st = some (ls', st')) : ∃ v l, st = v :: st' ∧ z_ty f v = t ∧ i < ls.length ∧ z_pre f ls i = some l ∧ ls' = l.set i (some v) := by
  unfold z_sto at h
  split at h
  · rename_i v r
    split at h
    · rename_i hc
      cases hp : z_pre f ls i with
      | none => rw [hp] at h; cases h
      | some l =>
        rw [hp] at h
        cases h
        exact ⟨v, l, rfl, hc.1, hc.2, rfl, rfl⟩
    · cases h
  · cases h
theorem z_st2_s {ls ls' : zL} {i : Nat} {st st' : List zO} (h : z_st2 f ls i st = some (ls', st')) : ∃ v l, st = v :: st' ∧ z_ty f v = 2 ∧ i + 1 < ls.length ∧ z_pre f ls i = some l ∧ ls' = (l.set i (some v)).set (i + 1) none := by
  unfold z_st2 at h
  split at h
  · rename_i v r
    split at h
    · rename_i hc
      cases hp : z_pre f ls i with
      | none => rw [hp] at h; cases h
      | some l =>
        rw [hp] at h
        cases h
        exact ⟨v, l, rfl, hc.1, hc.2, rfl, rfl⟩
    · cases h
  · cases h
def z_locR (ρ : zR) (ls ls' : zL) (st st' : List zO) : Prop := z_nl ρ ls' ∧ z_nn ρ st' ∧ ls'.length = ls.length
theorem z_loc_ok (hs : z_sat ρ f) {i : Instr} {k : aK} {ls ls' : zL} {st st' : List zO} (hl : z_nl ρ ls) (hn : z_nn ρ st) (h : z_loc f i ls st = some (ls', st')) : a_stk i k (z_st ρ st) = none ∧ a_loc i (z_ls ρ ls) (z_st ρ st) = some (z_ls ρ ls', z_st ρ st') ∧ z_locR ρ ls ls' st st' := by
  have ld : ∀ {t i : Nat}, z_ld f t ls i st = some (ls', st') → z_locR ρ ls ls' st st' := by
    intro t i h
    obtain ⟨v, hv, ht, rfl, rfl⟩ := z_ld_s h
    refine ⟨hl, fun o ho => ?_, rfl⟩
    rcases List.mem_cons.mp ho with rfl | ho
    · exact hl _ (List.mem_of_getElem? hv)
    · exact hn o ho
  have sto : ∀ {t i : Nat}, z_sto f t ls i st = some (ls', st') → z_locR ρ ls ls' st st' := by
    intro t i h
    obtain ⟨v, l, rfl, ht, hi, hp, rfl⟩ := z_sto_s h
    obtain ⟨-, p2, p3⟩ := z_pre_ok hs hp
    exact ⟨z_nl_set hl p3 (hn v List.mem_cons_self), fun o ho => hn o (List.mem_cons_of_mem _ ho), by rw [List.length_set, p2]⟩
  have st2 : ∀ {i : Nat}, z_st2 f ls i st = some (ls', st') → z_locR ρ ls ls' st st' := by
    intro i h
    obtain ⟨v, l, rfl, ht, hi, hp, rfl⟩ := z_st2_s h
    obtain ⟨-, p2, p3⟩ := z_pre_ok hs hp
    exact ⟨z_nl_none (z_nl_set hl p3 (hn v List.mem_cons_self)), fun o ho => hn o (List.mem_cons_of_mem _ ho), by rw [List.length_set, List.length_set, p2]⟩
  have ldi : ∀ {i : Nat}, z_ld f 1 ls i st = some (ls', st') → a_ldi (z_ls ρ ls) i (z_st ρ st) = some (z_ls ρ ls', z_st ρ st') := by
    intro i h
    obtain ⟨v, hv, ht, rfl, rfl⟩ := z_ld_s h
    obtain ⟨n, e⟩ := (z_ty_ok hs v).1 ht
    unfold a_ldi
    rw [z_ls_get, hv]
    simp only [Option.map_some, e, z_st, List.map_cons]
  have ldl : ∀ {i : Nat}, z_ld f 2 ls i st = some (ls', st') → a_ldl (z_ls ρ ls) i (z_st ρ st) = some (z_ls ρ ls', z_st ρ st') := by
    intro i h
    obtain ⟨v, hv, ht, rfl, rfl⟩ := z_ld_s h
    obtain ⟨n, e⟩ := (z_ty_ok hs v).2.1 ht
    unfold a_ldl
    rw [z_ls_get, hv]
    simp only [Option.map_some, e, z_st, List.map_cons]
  have lda : ∀ {i : Nat}, z_ld f 3 ls i st = some (ls', st') → a_lda (z_ls ρ ls) i (z_st ρ st) = some (z_ls ρ ls', z_st ρ st') := by
    intro i h
    obtain ⟨v, hv, ht, rfl, rfl⟩ := z_ld_s h
    obtain ⟨n, e⟩ := (z_ty_ok hs v).2.2 ht
    unfold a_lda
    rw [z_ls_get, hv]
    simp only [Option.map_some, e, z_st, List.map_cons]
  have sti : ∀ {i : Nat}, z_sto f 1 ls i st = some (ls', st') → a_sti (z_ls ρ ls) i (z_st ρ st) = some (z_ls ρ ls', z_st ρ st') := by
    intro i h
    obtain ⟨v, l, rfl, ht, hi, hp, rfl⟩ := z_sto_s h
    obtain ⟨n, e⟩ := (z_ty_ok hs v).1 ht
    have h1 := z_set1_ok (v := v) hs hp
    unfold a_sti
    simp only [z_st, List.map_cons, e, z_ls_len, hi, if_true]
    rw [e] at h1
    rw [h1]
  have sta : ∀ {i : Nat}, z_sto f 3 ls i st = some (ls', st') → a_sta (z_ls ρ ls) i (z_st ρ st) = some (z_ls ρ ls', z_st ρ st') := by
    intro i h
    obtain ⟨v, l, rfl, ht, hi, hp, rfl⟩ := z_sto_s h
    obtain ⟨n, e⟩ := (z_ty_ok hs v).2.2 ht
    have h1 := z_set1_ok (v := v) hs hp
    unfold a_sta
    simp only [z_st, List.map_cons, e, z_ls_len, hi, if_true]
    rw [e] at h1
    rw [h1]
  have stl : ∀ {i : Nat}, z_st2 f ls i st = some (ls', st') → a_stl (z_ls ρ ls) i (z_st ρ st) = some (z_ls ρ ls', z_st ρ st') := by
    intro i h
    obtain ⟨v, l, rfl, ht, hi, hp, rfl⟩ := z_st2_s h
    obtain ⟨n, e⟩ := (z_ty_ok hs v).2.1 ht
    have h1 := z_set2_ok (v := v) hs hp
    unfold a_stl
    simp only [z_st, List.map_cons, e, z_ls_len, hi, if_true]
    rw [e] at h1
    rw [h1]
  unfold z_loc at h
  split at h <;> first
    | exact ⟨rfl, ldi h, ld h⟩
    | exact ⟨rfl, ldl h, ld h⟩
    | exact ⟨rfl, lda h, ld h⟩
    | exact ⟨rfl, sti h, sto h⟩
    | exact ⟨rfl, stl h, st2 h⟩
    | exact ⟨rfl, sta h, sto h⟩
    | cases h
theorem z_inc_ok (hs : z_sat ρ f) {i : Instr} {k : aK} {ls ls' : zL} {st : List zO} {f' : zF} {nx' : Nat} (hl : z_nl ρ ls) (hn : z_nn ρ st) (h : z_inc f ρ.length i ls = some (ls', f', nx')) : ∃ l : zR, (ρ ++ l).length = nx' ∧ z_sat (ρ ++ l) f' ∧ z_nl (ρ ++ l) ls' ∧ ls'.length = ls.length ∧ a_stk i k (z_st ρ st) = none ∧ a_loc i (z_ls ρ ls) (z_st ρ st) = some (z_ls (ρ ++ l) ls', z_st (ρ ++ l) st) := by
  unfold z_inc at h
  split at h
  · rename_i n c
    split at h
    · rename_i v hv
      split at h
      · rename_i ht
        split at h
        · rename_i l0 hp
          split at h
          · rename_i o f1 n1 hb
            cases h
            obtain ⟨x, e⟩ := (z_ty_ok hs v).1 ht
            obtain ⟨l, h1, h2, h3, h4⟩ := z_bin_ok hs hb
            obtain ⟨p1, p2, p3⟩ := z_pre_ok hs hp
            have h5 : z_v (ρ ++ l) o = .int (x + Int32.ofInt c) := by
              have h6 := h4 (0, 0, 0, 0) []
              rw [e] at h6
              have h7 : a_stk .iadd (0, 0, 0, 0) [z_v ρ (.inl (.int (Int32.ofInt c))), .int x] = some [.int (x + Int32.ofInt c)] := rfl
              rw [h7] at h6
              injection h6 with h8
              injection h8 with h9
              exact h9.symm
            refine ⟨l, h1, h2, ?_, by rw [List.length_set, p2], rfl, ?_⟩
            · exact z_nl_set (z_nl_app hl) p3 h3
            · show a_inc (z_ls ρ ls) n c (z_st ρ st) = _
              unfold a_inc
              rw [z_ls_get, hv]
              simp only [Option.map_some, e]
              rw [z_st_app hn]
              congr 2
              unfold a_set1
              rw [p1, ← h5]
              have hl0 : z_nl ρ l0 := fun o ho => hl o (p3 o ho)
              rw [← z_ls_app (l := l) hl0]
              exact z_ls_set l0 n (some o)
          · cases h
        · cases h
      · cases h
    · cases h
  · cases h
end ZFL
