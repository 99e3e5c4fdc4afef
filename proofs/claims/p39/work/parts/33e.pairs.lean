/-! ===== v5: the law's turn where both calls of a pair are told together ===== -/
/-- a method: receiver, ints, whether they are 0 or 1, what it answers, its kind (0 alone, 1 first of a pair, 2 second), its pair's first -/
abbrev nT : Type := List (Nat × Nat × Nat × Bool × Nat × Nat × Nat)
def n_run (T : nT) : Nat → Nat → List (Nat × Bool) → Option (Nat × List lO) → List (Nat × aI) → List lO → Bool
  | 0, _, _, _, _, _ => false
  | _ + 1, _, _, _, [], _ => false
  | n + 1, u, fa, pd, (_, i, len, k) :: r, st => match i with
    | .aload_n 0 => (match r with
      | (_, .iload 4, _) :: (_, .iconst j, _) :: (_, .iadd, _) :: (_, .iaload, _) :: r' => decide (0 ≤ j) && decide (j ≤ 5) && n_run T n u fa pd r' (.inl j.toNat :: st)
      | _ => false)
    | .aload_n 1 => n_run T n u fa pd r (.inr (.inl (.ref 2)) :: st)
    | .aload_n 2 => n_run T n u fa pd r (.inr (.inl (.ref 155)) :: st)
    | .aload_n 3 => n_run T n u fa pd r (.inr (.inl (.ref 197)) :: st)
    | .iconst c => n_run T n u fa pd r (.inr (.inl (.int (Int32.ofInt c))) :: st)
    | .ifCond .eq _ => (match st with
      | .inl j :: st' => decide (len = 3) && (match fa.lookup j with
        | some true => n_run T n u fa pd (l_to k.2.1 r) st'
        | some false => n_run T n u fa pd r st'
        | none => n_run T n u ((j, true) :: fa) pd (l_to k.2.1 r) st' && n_run T n u ((j, false) :: fa) pd r st')
      | _ => false)
    | .goto _ => (match st, pd with
      | [], none => Nat.beq k.2.1 1835
      | _, _ => false) || n_run T n u fa pd (l_to k.2.1 r) st
    | .pop => (match st with
      | .inr (.inr 1) :: st' => n_run T n u fa pd r st'
      | _ => false)
    | .istore 5 => (match st with
      | .inr (.inr 1) :: st' => n_run T n u fa pd r st'
      | _ => false)
    | .istore 6 => (match st with
      | .inr (.inr 1) :: st' => n_run T n u fa pd r st'
      | _ => false)
    | .lstore 6 => (match st with
      | .inr (.inr 2) :: st' => n_run T n u fa pd r st'
      | _ => false)
    | .if_icmp .eq _ => (match st, pd with
      | [.inr (.inr 3), .inr (.inr 3)], none => Nat.beq k.2.1 1835
      | _, _ => false)
    | .invokevirtual _ => (match T.lookup k.2.1 with
      | some (r0, m, b, ty, kd, pr) => Nat.beq k.1 4 && ((Nat.beq r0 2 && Nat.beq k.2.2.1 11) || (Nat.beq r0 155 && Nat.beq k.2.2.1 12)) && Nat.beq (st.take m).length m && (st.take m).all (l_int b) && (match st.drop m with
        | .inr (.inl (.ref q)) :: rs => Nat.beq q r0 && (match kd with
          | 0 => (match rs, pd with
            | [], none => (Nat.beq ty 1 || Nat.beq ty 2) && n_run T n u fa none r [.inr (.inr ty)]
            | _, _ => false)
          | 1 => (match rs, pd with
            | [], none => (Nat.beq ty 1 || Nat.beq ty 3) && n_run T n u fa (some (k.2.1, st.take m)) r [.inr (.inr ty)]
            | _, _ => false)
          | _ => (match pd with
            | some (j, its) => Nat.beq j pr && decide (its = st.take m) && (match rs with
              | [] => Nat.beq ty 1 && n_run T n u fa none r [.inr (.inr 1)]
              | [.inr (.inr 3)] => Nat.beq ty 3 && n_run T n u fa none r [.inr (.inr 3), .inr (.inr 3)]
              | _ => false)
            | none => false))
        | _ => false)
      | none => false)
    | .invokestatic _ => (match st, pd with
      | .inr (.inl (.ref 197)) :: st', none => Nat.beq k.1 20 && Nat.beq u 1 && ((Nat.beq k.2.1 169 && (match st' with
          | [.inl _, .inl _, .inr (.inl (.ref 2))] => true
          | _ => false)) || (Nat.beq k.2.1 171 && (match st' with
          | [.inl _, .inr (.inl (.ref 2))] => true
          | _ => false))) && n_run T n 0 fa none r [.inr (.inr 1)]
      | _, _ => false)
    | _ => false
section NR
variable {L : Nat} {xs : Nat → Int32} {i : Nat} {iI : Int32} {T : nT} {CB SB : Nat} {K : Option Value → aH → Nat → Nat → Prop} {I : aH → Prop} {Md : Nat → List Int32 → Int32 → aH → Prop}
/-- what is told of a method that the law calls -/
def n_G (X : aX) (I : aH → Prop) (Md : Nat → List Int32 → Int32 → aH → Prop) (e : Nat × Nat × Nat × Bool × Nat × Nat × Nat) : Prop := ∃ M, s_P[e.1]? = some M ∧ M.2.2.2.2.1 = e.2.2.1 ∧ Nat.ble (e.2.2.1 + 1) M.2.2.1 = true ∧
  ∀ (us : List Int32) (h : aH) (C S : Nat) (K0 : Option Value → aH → Nat → Nat → Prop), us.length = e.2.2.1 → (e.2.2.2.1 = true → ∀ u ∈ us, 0 ≤ u.toInt ∧ u.toInt ≤ 1) →
    (match e.2.2.2.2.2.1 with
    | 0 => I h ∧ ∀ (w : Value) (H : aH), I H → (e.2.2.2.2.1 = 2 ∧ (∃ x : Int64, w = .long x) ∨ e.2.2.2.2.1 ≠ 2 ∧ ∃ x : Int32, w = .int x) → K0 (some w) H C S
    | 1 => I h ∧ ∀ (x : Int32) (H : aH), Md e.1 us x H → K0 (some (.int x)) H C S
    | _ => ∃ g, Md e.2.2.2.2.2.2 us g h ∧ ∀ (x : Int32) (H : aH), I H → (e.2.2.2.2.1 = 3 → x = g) → K0 (some (.int x)) H C S) → aOK s_P X 200 M 0 (a_ent (.ref e.2.1 :: us.map .int) M.2.2.1) [] h C S K0
def n_S (X : aX) (I : aH → Prop) (j n : Nat) : Prop := ∃ M, s_P[j]? = some M ∧ M.2.2.2.2.1 = n + 2 ∧ Nat.ble (n + 2) M.2.2.1 = true ∧ ∀ (us : List Int32) (h : aH) (C S : Nat) (K0 : Option Value → aH → Nat → Nat → Prop), us.length = n → I h →
    (∀ (x : Int32) (H : aH) (C' S' : Nat), I H → C' ≤ C + 1 → S' ≤ S + 6 → K0 (some (.int x)) H C' S') → aOK s_P X 201 M 0 (a_ent (.ref 2 :: (us.map .int ++ [.ref 197])) M.2.2.1) [] h C S K0
def n_Q (xs : Nat → Int32) (i : Nat) (I : aH → Prop) (Md : Nat → List Int32 → Int32 → aH → Prop) (pd : Option (Nat × List lO)) (g : Int32) (H : aH) : Prop := match pd with
  | none => I H
  | some (j, its) => ∃ (us : List Int32) (b : Bool), its.all (l_int b) = true ∧ l_st xs i 0 its (us.reverse.map .int) ∧ Md j us g H
theorem n_st_g {b : Bool} {g g' : Int32} : ∀ {its : List lO} {ws : List Value}, its.all (l_int b) = true → l_st xs i g its ws → l_st xs i g' its ws := by
  intro its
  induction its with
  | nil => intro ws _ h; cases ws with
    | nil => trivial
    | cons w ws => cases h
  | cons o its ih =>
    intro ws ha h
    cases ws with
    | nil => cases h
    | cons w ws =>
      rw [List.all_cons, Bool.and_eq_true] at ha
      refine ⟨?_, ih ha.2 h.2⟩
      have h0 := h.1
      have ha0 := ha.1
      unfold l_int at ha0
      split at ha0
      · exact h0
      · exact h0
      · cases ha0
theorem n_st_f {b : Bool} {g : Int32} : ∀ {its : List lO} {ws ws' : List Value}, its.all (l_int b) = true → l_st xs i g its ws → l_st xs i g its ws' → ws = ws' := by
  intro its
  induction its with
  | nil => intro ws ws' _ h h'; cases ws with
    | nil => cases ws' with
      | nil => rfl
      | cons w ws => cases h'
    | cons w ws => cases h
  | cons o its ih =>
    intro ws ws' ha h h'
    cases ws with
    | nil => cases h
    | cons w ws => cases ws' with
      | nil => cases h'
      | cons w' ws' =>
        rw [List.all_cons, Bool.and_eq_true] at ha
        have e : w = w' := by
          have h0 := h.1
          have h0' := h'.1
          have ha0 := ha.1
          unfold l_int at ha0
          split at ha0
          · exact Eq.trans (show w = _ from h0) (Eq.symm (show w' = _ from h0'))
          · exact Eq.trans (show w = _ from h0) (Eq.symm (show w' = _ from h0'))
          · cases ha0
        rw [e, ih ha.2 h.2 h'.2]
theorem n_mi {us us' : List Int32} (h : us.map Value.int = us'.map Value.int) : us = us' := by
  induction us generalizing us' with
  | nil => cases us' with
    | nil => rfl
    | cons u us' => cases h
  | cons u us ih => cases us' with
    | nil => cases h
    | cons u' us' =>
      rw [List.map_cons, List.map_cons] at h
      injection h with h1 h2
      injection h1 with h1
      rw [h1, ih h2]
theorem n_run_ok (hi5 : i + 5 < L) (hL : L ≤ 3072) (hi : iI.toInt = i) (hIr : ∀ H, I H → w_hr z_D H) (hMr : ∀ j us g H, Md j us g H → w_hr z_D H) (hT : ∀ e ∈ T, n_G (some (L, xs)) I Md e) (h169 : n_S (some (L, xs)) I 169 2) (h171 : n_S (some (L, xs)) I 171 1)
    (hend : ∀ (a b c : Option Value) (H : aH) (C S : Nat), I H → C ≤ CB → S ≤ SB → aOK s_P (some (L, xs)) 202 a_mL 1835 (l_ls iI a b c) [] H C S K) :
    ∀ (n u : Nat) (fa : List (Nat × Bool)) (pd : Option (Nat × List lO)) (code : List (Nat × aI)) (st : List lO), n_run T n u fa pd code st = true → l_suf code → (∀ j z, fa.lookup j = some z → (z = true ↔ xs (i + j) = 0)) → ∀ (pc : Nat), (∀ e r, code = e :: r → e.1 = pc) → ∀ (g : Int32) (ws : List Value), l_st xs i g st ws → ∀ (a b c : Option Value) (H : aH) (C S : Nat), n_Q xs i I Md pd g H → C + u ≤ CB → S + 6 * u ≤ SB →
      aOK s_P (some (L, xs)) 202 a_mL pc (l_ls iI a b c) ws H C S K := by
  intro n
  induction n with
  | zero => intro u fa pd code st h; cases h
  | succ n ih =>
    intro u fa pd code st h hsuf hfa pc hpc g ws hst a b c H C S hQ hC hS
    have hHr : w_hr z_D H := by
      cases pd with
      | none => exact hIr H hQ
      | some q =>
        obtain ⟨us, b, -, -, q⟩ := hQ
        exact hMr _ _ _ _ q
    cases code with
    | nil => cases h
    | cons e r =>
      obtain ⟨p, ins, len, k⟩ := e
      obtain rfl : p = pc := hpc _ _ rfl
      obtain ⟨hlk, hnx⟩ := l_look hsuf
      have hsr := l_suf_t hsuf
      dsimp only at hlk hnx
      unfold n_run at h
      split at h
      · -- a script's int
        split at h
        · rename_i p1 q1 p2 j q2 p3 q3 p4 q4 r'
          simp only [Bool.and_eq_true, decide_eq_true_eq] at h
          obtain ⟨⟨j0, j5⟩, h⟩ := h
          have e1 : p1 = p + len := hnx _ _ rfl
          obtain ⟨l1, n1⟩ := l_look hsr
          have hsr1 := l_suf_t hsr
          obtain ⟨l2, n2⟩ := l_look hsr1
          have hsr2 := l_suf_t hsr1
          obtain ⟨l3, n3⟩ := l_look hsr2
          have hsr3 := l_suf_t hsr2
          obtain ⟨l4, n4⟩ := l_look hsr3
          have hsr4 := l_suf_t hsr3
          dsimp only at l1 n1 l2 n2 l3 n3 l4 n4
          have e2 := n1 _ _ rfl
          have e3 := n2 _ _ rfl
          have e4 := n3 _ _ rfl
          dsimp only at e2 e3 e4
          obtain ⟨len1, k1⟩ := q1
          obtain ⟨len2, k2⟩ := q2
          obtain ⟨len3, k3⟩ := q3
          obtain ⟨len4, k4⟩ := q4
          refine aOK_op hlk (show _ = some (p + len, l_ls iI a b c, .ref 0 :: ws, H, 0, 0) from rfl) ?_
          rw [← e1]
          refine aOK_op l1 (show _ = some (p1 + len1, l_ls iI a b c, .int iI :: .ref 0 :: ws, H, 0, 0) from rfl) ?_
          rw [← e2]
          refine aOK_op l2 (show _ = some (p2 + len2, l_ls iI a b c, .int (Int32.ofInt j) :: .int iI :: .ref 0 :: ws, H, 0, 0) from rfl) ?_
          rw [← e3]
          refine aOK_op l3 (show _ = some (p3 + len3, l_ls iI a b c, .int (iI + Int32.ofInt j) :: .ref 0 :: ws, H, 0, 0) from rfl) ?_
          rw [← e4]
          have hj : (Int32.ofInt j).toInt = (j.toNat : Int) := by
            rw [Int32.toInt_ofInt, show (Int32.size : Nat) = 4294967296 from rfl, Int.bmod_eq_of_le (by omega) (by omega)]
            omega
          refine aOK_op l4 (l_scr (n := i + j.toNat) (y_addS _ hi hj rfl (by omega)) (by omega)) ?_
          exact ih u fa pd r' _ h hsr4 hfa _ n4 g (.int (xs (i + j.toNat)) :: ws) ⟨rfl, hst⟩ a b c H C S hQ hC hS
        · cases h
      · refine aOK_op hlk (show _ = some (p + len, l_ls iI a b c, .ref 2 :: ws, H, 0, 0) from rfl) ?_
        exact ih u fa pd r _ h hsr hfa _ hnx g (.ref 2 :: ws) ⟨rfl, hst⟩ a b c H C S hQ hC hS
      · refine aOK_op hlk (show _ = some (p + len, l_ls iI a b c, .ref 155 :: ws, H, 0, 0) from rfl) ?_
        exact ih u fa pd r _ h hsr hfa _ hnx g (.ref 155 :: ws) ⟨rfl, hst⟩ a b c H C S hQ hC hS
      · refine aOK_op hlk (show _ = some (p + len, l_ls iI a b c, .ref 197 :: ws, H, 0, 0) from rfl) ?_
        exact ih u fa pd r _ h hsr hfa _ hnx g (.ref 197 :: ws) ⟨rfl, hst⟩ a b c H C S hQ hC hS
      · rename_i cc
        refine aOK_op hlk (show _ = some (p + len, l_ls iI a b c, .int (Int32.ofInt cc) :: ws, H, 0, 0) from rfl) ?_
        exact ih u fa pd r _ h hsr hfa _ hnx g (.int (Int32.ofInt cc) :: ws) ⟨rfl, hst⟩ a b c H C S hQ hC hS
      · -- if it is 0
        split at h
        · rename_i j st'
          cases ws with
          | nil => cases hst
          | cons w ws =>
            have hw : w = .int (xs (i + j)) := hst.1
            subst hw
            simp only [Bool.and_eq_true, decide_eq_true_eq] at h
            obtain ⟨hlen, h⟩ := h
            have hfa' : ∀ z : Bool, (z = true ↔ xs (i + j) = 0) → ∀ j' z', ((j, z) :: fa).lookup j' = some z' → (z' = true ↔ xs (i + j') = 0) := by
              intro z hz j' z' hl
              rw [List.lookup_cons] at hl
              split at hl
              · rename_i hb
                cases hl
                rw [beq_iff_eq] at hb
                subst hb
                exact hz
              · exact hfa j' z' hl
            refine aOK_op hlk (show _ = some (if a_cnd .eq (xs (i + j)) 0 then k.2.1 else p + 3, l_ls iI a b c, ws, H, 0, 0) from rfl) ?_
            rw [← hlen]
            by_cases hz : xs (i + j) = 0
            · rw [if_pos (show a_cnd .eq (xs (i + j)) 0 = true from decide_eq_true hz)]
              split at h
              · exact ih u fa pd _ _ h (l_suf_to hsr) hfa _ (fun e r' hr => l_to_hd hr) g _ hst.2 a b c H C S hQ hC hS
              · rename_i hl
                have := (hfa j _ hl).mpr hz
                cases this
              · rw [Bool.and_eq_true] at h
                exact ih u _ pd _ _ h.1 (l_suf_to hsr) (hfa' true ⟨fun _ => hz, fun _ => rfl⟩) _ (fun e r' hr => l_to_hd hr) g _ hst.2 a b c H C S hQ hC hS
            · rw [if_neg (show ¬ a_cnd .eq (xs (i + j)) 0 = true from fun q => hz (of_decide_eq_true q))]
              split at h
              · rename_i hl
                exact absurd ((hfa j _ hl).mp rfl) hz
              · exact ih u fa pd r _ h hsr hfa _ hnx g _ hst.2 a b c H C S hQ hC hS
              · rw [Bool.and_eq_true] at h
                exact ih u _ pd r _ h.2 hsr (hfa' false ⟨fun q => (by cases q), fun q => absurd q hz⟩) _ hnx g _ hst.2 a b c H C S hQ hC hS
        · cases h
      · -- on to
        rw [Bool.or_eq_true] at h
        refine aOK_op hlk (show _ = some (k.2.1, l_ls iI a b c, ws, H, 0, 0) from rfl) ?_
        rcases h with h | h
        · split at h
          · have := Nat.eq_of_beq_eq_true h
            rw [this]
            cases ws with
            | nil => exact hend a b c H C S hQ (by omega) (by omega)
            | cons w ws => cases hst
          · cases h
        · exact ih u fa pd _ _ h (l_suf_to hsr) hfa _ (fun e r' hr => l_to_hd hr) g _ hst a b c H C S hQ hC hS
      · -- pop
        split at h
        · rename_i st'
          cases ws with
          | nil => cases hst
          | cons w ws =>
            obtain ⟨x, rfl⟩ : ∃ x : Int32, w = .int x := hst.1
            refine aOK_op hlk (show _ = some (p + len, l_ls iI a b c, ws, H, 0, 0) from rfl) ?_
            exact ih u fa pd r _ h hsr hfa _ hnx g _ hst.2 a b c H C S hQ hC hS
        · cases h
      · split at h
        · rename_i st'
          cases ws with
          | nil => cases hst
          | cons w ws =>
            obtain ⟨x, rfl⟩ : ∃ x : Int32, w = .int x := hst.1
            refine aOK_op hlk (show _ = some (p + len, l_ls iI (some (.int x)) b c, ws, H, 0, 0) from rfl) ?_
            exact ih u fa pd r _ h hsr hfa _ hnx g _ hst.2 _ b c H C S hQ hC hS
        · cases h
      · split at h
        · rename_i st'
          cases ws with
          | nil => cases hst
          | cons w ws =>
            obtain ⟨x, rfl⟩ : ∃ x : Int32, w = .int x := hst.1
            obtain ⟨a', ha⟩ := l_set6 (p0 := some (.ref 0)) (p1 := some (.ref 2)) (p2 := some (.ref 155)) (p3 := some (.ref 197)) (p4 := some (.int iI)) (a := a) (b := b) (c := c) (v := .int x)
            refine aOK_op hlk (show _ = some (p + len, a_set1 (l_ls iI a b c) 6 (.int x), ws, H, 0, 0) from rfl) ?_
            unfold l_ls
            rw [ha]
            exact ih u fa pd r _ h hsr hfa _ hnx g _ hst.2 _ _ c H C S hQ hC hS
        · cases h
      · split at h
        · rename_i st'
          cases ws with
          | nil => cases hst
          | cons w ws =>
            obtain ⟨x, rfl⟩ : ∃ x : Int64, w = .long x := hst.1
            obtain ⟨a', ha⟩ := l_set62 (p0 := some (.ref 0)) (p1 := some (.ref 2)) (p2 := some (.ref 155)) (p3 := some (.ref 197)) (p4 := some (.int iI)) (a := a) (b := b) (c := c) (v := .long x)
            refine aOK_op hlk (show _ = some (p + len, a_set2 (l_ls iI a b c) 6 (.long x), ws, H, 0, 0) from rfl) ?_
            unfold l_ls
            rw [ha]
            exact ih u fa pd r _ h hsr hfa _ hnx g _ hst.2 _ _ _ H C S hQ hC hS
        · cases h
      · -- compared
        split at h
        · have hk := Nat.eq_of_beq_eq_true h
          cases ws with
          | nil => cases hst
          | cons w ws => cases ws with
            | nil => exact hst.2.elim
            | cons w2 ws => cases ws with
              | cons w3 ws => exact hst.2.2.elim
              | nil =>
                have e1 : w = .int g := hst.1
                have e2 : w2 = .int g := hst.2.1
                subst e1; subst e2
                refine aOK_op hlk (show _ = some (if a_cnd .eq g g then k.2.1 else p + 3, l_ls iI a b c, [], H, 0, 0) from rfl) ?_
                rw [if_pos (show a_cnd .eq g g = true from decide_eq_true rfl), hk]
                exact hend a b c H C S hQ (by omega) (by omega)
        · cases h
      · -- a call
        split at h
        · rename_i r0 m b0 ty kd pr hlook
          obtain ⟨M, hM, hm, hml, htold⟩ := hT _ (z_lk_in hlook)
          dsimp only at hM hm hml htold
          rw [Nat.ble_eq] at hml
          simp only [Bool.and_eq_true] at h
          obtain ⟨⟨⟨⟨k4, krc⟩, klen⟩, kint⟩, h⟩ := h
          obtain ⟨s1, s2⟩ := l_st_app (m := m) hst
          obtain ⟨us, e1, e2⟩ := l_ints s1 kint
          have hk4 := Nat.eq_of_beq_eq_true k4
          have hrc := l_recv hHr krc
          have hul : us.length = m := by
            have := congrArg List.length e1
            rw [List.length_map, l_st_len s1, Nat.eq_of_beq_eq_true klen] at this
            exact this.symm
          split at h
          · rename_i q rs hdr
            rw [Bool.and_eq_true] at h
            obtain ⟨hq, h⟩ := h
            have hq := Nat.eq_of_beq_eq_true hq
            subst hq
            rw [hdr] at s2
            cases hw : ws.drop m with
            | nil => rw [hw] at s2; cases s2
            | cons w rest =>
              rw [hw] at s2
              have e5 : w = .ref q := s2.1
              subst e5
              have hrs := s2.2
              have fin : a_wd rest ≤ 6 → aOK s_P (some (L, xs)) 200 M 0 (a_ent (.ref q :: us.reverse.map .int) M.2.2.1) [] H C S (fun v h1 C1 S1 => ((∃ n, v = some (.retAddr n)) ∧ k.1 = 18 ∧ K (some (.int 1)) h1 C1 S1) ∨ ((∀ n, v ≠ some (.retAddr n)) ∧ aOK s_P (some (L, xs)) 202 a_mL (p + len) (l_ls iI a b c) (v.toList ++ rest) h1 C1 S1 K)) → aOK s_P (some (L, xs)) 202 a_mL p (l_ls iI a b c) ws H C S K := by
                intro hwd hrun
                have hinv : ∀ cc, a_inv s_P (.invokevirtual cc) k ws H = some (M, .ref q :: us.reverse.map .int, rest) := by
                  intro cc
                  unfold a_inv
                  rw [hM]
                  dsimp only
                  rw [if_pos (Or.inl hk4), hm, hw]
                  dsimp only
                  rw [e1, ← List.map_reverse, if_pos ⟨hrc, by omega, by rw [l_ae, List.length_cons, List.length_map, List.length_reverse]; omega⟩]
                exact aOK_call hlk rfl rfl (hinv _) (aOK_deep (d := 200) (by decide) hrun)
              have tl := htold us.reverse H C S (fun v h1 C1 S1 => ((∃ n, v = some (.retAddr n)) ∧ k.1 = 18 ∧ K (some (.int 1)) h1 C1 S1) ∨ ((∀ n, v ≠ some (.retAddr n)) ∧ aOK s_P (some (L, xs)) 202 a_mL (p + len) (l_ls iI a b c) (v.toList ++ rest) h1 C1 S1 K)) (by rw [List.length_reverse]; exact hul) (fun q u hu => e2 q u (List.mem_reverse.mp hu))
              split at h
              · -- alone
                split at h
                · rw [Bool.and_eq_true] at h
                  cases rest with
                  | cons w2 r2 => exact hrs.elim
                  | nil =>
                    refine fin (Nat.zero_le _) (tl ⟨hQ, fun w H' hI' hw' => Or.inr ⟨?_, ?_⟩⟩)
                    · intro n0 q0
                      rcases hw' with ⟨-, x, rfl⟩ | ⟨-, x, rfl⟩ <;> cases q0
                    · refine ih u fa none r _ h.2 hsr hfa _ hnx g [w] ⟨?_, trivial⟩ a b c H' C S hI' hC hS
                      have hty := h.1
                      rw [Bool.or_eq_true] at hty
                      rcases hty with t | t
                      · have t1 := Nat.eq_of_beq_eq_true t
                        subst t1
                        rcases hw' with ⟨t2, x, rfl⟩ | ⟨t2, x, rfl⟩
                        · cases t2
                        · exact ⟨x, rfl⟩
                      · have t1 := Nat.eq_of_beq_eq_true t
                        subst t1
                        rcases hw' with ⟨t2, x, rfl⟩ | ⟨t2, x, rfl⟩
                        · exact ⟨x, rfl⟩
                        · exact absurd rfl t2
                · cases h
              · -- the first of a pair
                split at h
                · rw [Bool.and_eq_true, Bool.or_eq_true] at h
                  cases rest with
                  | cons w2 r2 => exact hrs.elim
                  | nil =>
                    refine fin (Nat.zero_le _) (tl ⟨hQ, fun x H' hM' => Or.inr ⟨fun n0 q0 => (by cases q0), ?_⟩⟩)
                    refine ih u fa _ r _ h.2 hsr hfa _ hnx x [.int x] ⟨?_, trivial⟩ a b c H' C S ⟨us.reverse, b0, kint, ?_, hM'⟩ hC hS
                    · rcases h.1 with t | t
                      · have := Nat.eq_of_beq_eq_true t
                        subst this
                        exact ⟨x, rfl⟩
                      · have := Nat.eq_of_beq_eq_true t
                        subst this
                        rfl
                    · rw [List.reverse_reverse, ← e1]
                      exact n_st_g kint s1
                · cases h
              · -- the second of a pair
                split at h
                · rename_i hk0 hk1 pd0 j its
                  simp only [Bool.and_eq_true, decide_eq_true_eq] at h
                  obtain ⟨⟨hj, hits⟩, h⟩ := h
                  have hj := Nat.eq_of_beq_eq_true hj
                  subst hj
                  subst hits
                  obtain ⟨us2, b2, hb2, hl2, hM2⟩ := hQ
                  have hus : us2 = us.reverse := by
                    have h1 := n_st_f hb2 hl2 (n_st_g (g' := 0) kint s1)
                    rw [e1] at h1
                    have h2 := n_mi h1
                    rw [← h2, List.reverse_reverse]
                  subst hus
                  have tl2 : (∃ g, Md j us.reverse g H ∧ ∀ (x : Int32) (H' : aH), I H' → (ty = 3 → x = g) → (((∃ n, some (Value.int x) = some (.retAddr n)) ∧ k.1 = 18 ∧ K (some (.int 1)) H' C S) ∨ ((∀ n, some (Value.int x) ≠ some (.retAddr n)) ∧ aOK s_P (some (L, xs)) 202 a_mL (p + len) (l_ls iI a b c) ([.int x] ++ rest) H' C S K))) → aOK s_P (some (L, xs)) 200 M 0 (a_ent (.ref q :: us.reverse.map .int) M.2.2.1) [] H C S (fun v h1 C1 S1 => ((∃ n, v = some (.retAddr n)) ∧ k.1 = 18 ∧ K (some (.int 1)) h1 C1 S1) ∨ ((∀ n, v ≠ some (.retAddr n)) ∧ aOK s_P (some (L, xs)) 202 a_mL (p + len) (l_ls iI a b c) (v.toList ++ rest) h1 C1 S1 K)) := by
                    intro hh
                    refine tl ?_
                    split
                    · exact (hk0 rfl).elim
                    · exact (hk1 rfl).elim
                    · exact hh
                  split at h
                  · rw [Bool.and_eq_true] at h
                    have ht := Nat.eq_of_beq_eq_true h.1
                    cases rest with
                    | cons w2 r2 => exact hrs.elim
                    | nil =>
                      refine fin (Nat.zero_le _) (tl2 ⟨g, hM2, fun x H' hI' _ => Or.inr ⟨fun n0 q0 => (by cases q0), ?_⟩⟩)
                      exact ih u fa none r _ h.2 hsr hfa _ hnx g [.int x] ⟨⟨x, rfl⟩, trivial⟩ a b c H' C S hI' hC hS
                  · rw [Bool.and_eq_true] at h
                    have ht := Nat.eq_of_beq_eq_true h.1
                    cases rest with
                    | nil => exact hrs.elim
                    | cons w2 r2 => cases r2 with
                      | cons w3 r3 => exact hrs.2.elim
                      | nil =>
                        have e6 : w2 = .int g := hrs.1
                        subst e6
                        refine fin (Nat.le_of_ble_eq_true rfl) (tl2 ⟨g, hM2, fun x H' hI' hx => Or.inr ⟨fun n0 q0 => (by cases q0), ?_⟩⟩)
                        exact ih u fa none r _ h.2 hsr hfa _ hnx g [.int x, .int g] ⟨by rw [hx ht]; rfl, rfl, trivial⟩ a b c H' C S hI' hC hS
                  · cases h
                · cases h
          · cases h
        · cases h
      · -- a call that may throw
        split at h
        · rename_i st'
          simp only [Bool.and_eq_true] at h
          obtain ⟨⟨⟨k20, ku⟩, kk⟩, h⟩ := h
          have hk20 := Nat.eq_of_beq_eq_true k20
          have hu := Nat.eq_of_beq_eq_true ku
          subst hu
          cases ws with
          | nil => cases hst
          | cons w ws =>
            have e0 : w = .ref 197 := hst.1
            subst e0
            have fin : ∀ (m : Nat) (us : List Int32), us.length = m → n_S (some (L, xs)) I k.2.1 m → ws = (us.map .int).reverse ++ [.ref 2] → aOK s_P (some (L, xs)) 202 a_mL p (l_ls iI a b c) (.ref 197 :: ws) H C S K := by
              intro m us hul hS' hws
              obtain ⟨M, hM, hm, hml, htold⟩ := hS'
              rw [Nat.ble_eq] at hml
              have hrev : (Value.ref 197 :: ws).reverse = .ref 2 :: (us.map .int ++ [.ref 197]) := by
                rw [hws, List.reverse_cons, List.reverse_append, List.reverse_reverse]
                rfl
              have hlen : (Value.ref 197 :: ws).length = m + 2 := by
                rw [← List.length_reverse, hrev]
                simp only [List.length_cons, List.length_append, List.length_map, List.length_nil]
                omega
              have hae : (a_entry (.ref 2 :: (us.map .int ++ [.ref 197]))).length = m + 2 := by
                have : ∀ us : List Int32, (a_entry (us.map .int ++ [.ref 197])).length = us.length + 1 := by
                  intro us
                  induction us with
                  | nil => rfl
                  | cons u us ih2 =>
                    show (a_entry (.int u :: (us.map .int ++ [.ref 197]))).length = _
                    unfold a_entry
                    rw [if_neg (Nat.ne_of_beq_eq_false rfl), List.length_cons, ih2]
                    rfl
                show (if _ then _ else _ : aL).length = _
                rw [if_neg (Nat.ne_of_beq_eq_false rfl), List.length_cons, this]
                omega
              have hinv : ∀ cc, a_inv s_P (.invokestatic cc) k (.ref 197 :: ws) H = some (M, .ref 2 :: (us.map .int ++ [.ref 197]), []) := by
                intro cc
                unfold a_inv
                rw [hM]
                dsimp only
                rw [if_pos (Or.inr hk20), hm, ← hlen, List.take_length, List.drop_length, hrev, if_pos ⟨Nat.le_refl _, by decide, by rw [hae]; exact hml⟩]
              have hop : ∀ cc, a_op (some (L, xs)) (.invokestatic cc) len k p (l_ls iI a b c) (.ref 197 :: ws) H = none := by
                intro cc
                have hh : a_hp (.invokestatic cc) k (.ref 197 :: ws) H = none := by
                  show (if k.1 = 10 then _ else none) = none
                  rw [if_neg (by omega)]
                show (match a_hp (.invokestatic cc) k (.ref 197 :: ws) H with
                  | some (st', h', c1, s1) => some (p + len, l_ls iI a b c, st', h', c1, s1)
                  | none => none) = none
                rw [hh]
              refine aOK_call hlk (hop _) rfl (hinv _) ?_
              refine htold us H C S _ hul hQ (fun x H' C' S' hI' hC' hS' => ?_)
              refine Or.inr ⟨fun n q => (by cases q), ?_⟩
              exact ih 0 fa none r _ h hsr hfa _ hnx g [.int x] ⟨⟨x, rfl⟩, trivial⟩ a b c H' C' S' hI' (by omega) (by omega)
            rw [Bool.or_eq_true] at kk
            simp only [Bool.and_eq_true] at kk
            rcases kk with ⟨k1, k2⟩ | ⟨k1, k2⟩
            · have hk1 := Nat.eq_of_beq_eq_true k1
              split at k2
              · rename_i j1 j2
                obtain ⟨-, hst⟩ := hst
                have hws : ws = [.int (xs (i + j1)), .int (xs (i + j2)), .ref 2] := by
                  match ws, hst with
                  | [w1, w2, w3], hst =>
                    have q1 : w1 = .int (xs (i + j1)) := hst.1
                    have q2 : w2 = .int (xs (i + j2)) := hst.2.1
                    have q3 : w3 = .ref 2 := hst.2.2.1
                    rw [q1, q2, q3]
                exact fin 2 [xs (i + j2), xs (i + j1)] rfl (by rw [hk1]; exact h169) hws
              · cases k2
            · have hk1 := Nat.eq_of_beq_eq_true k1
              split at k2
              · rename_i j1
                obtain ⟨-, hst⟩ := hst
                have hws : ws = [.int (xs (i + j1)), .ref 2] := by
                  match ws, hst with
                  | [w1, w3], hst =>
                    have q1 : w1 = .int (xs (i + j1)) := hst.1
                    have q3 : w3 = .ref 2 := hst.2.1
                    rw [q1, q3]
                exact fin 1 [xs (i + j1)] rfl (by rw [hk1]; exact h171) hws
              · cases k2
        · cases h
      · cases h
end NR
