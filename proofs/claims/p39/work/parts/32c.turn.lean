/-! ===== v4: the machine of the law's turn is right ===== -/
section LR2
variable {L : Nat} {xs : Nat → Int32} {i : Nat} {g iI : Int32} {T : lT} {CB SB : Nat} {K : Option Value → aH → Nat → Nat → Prop}
def l_ls (iI : Int32) (a b c : Option Value) : aL := [some (.ref 0), some (.ref 2), some (.ref 155), some (.ref 197), some (.int iI), a, b, c]
theorem l_run_ok (hi5 : i + 5 < L) (hL : L ≤ 3072) (hi : iI.toInt = i) (hT : l_T (some (L, xs)) xs i g T) (h169 : l_S (some (L, xs)) 169 2) (h171 : l_S (some (L, xs)) 171 1)
    (hend : ∀ (a b c : Option Value) (H : aH) (C S : Nat), t_I H → C ≤ CB → S ≤ SB → aOK s_P (some (L, xs)) 202 a_mL 1835 (l_ls iI a b c) [] H C S K) :
    ∀ (n u : Nat) (code : List (Nat × aI)) (st : List lO), l_run T n u code st = true → l_suf code → ∀ (pc : Nat), (∀ e r, code = e :: r → e.1 = pc) → ∀ (ws : List Value), l_st xs i g st ws → ∀ (a b c : Option Value) (H : aH) (C S : Nat), t_I H → C + u ≤ CB → S + 6 * u ≤ SB →
      aOK s_P (some (L, xs)) 202 a_mL pc (l_ls iI a b c) ws H C S K := by
  intro n
  induction n with
  | zero => intro u code st h; cases h
  | succ n ih =>
    intro u code st h hsuf pc hpc ws hst a b c H C S hI hC hS
    cases code with
    | nil => cases h
    | cons e r =>
      obtain ⟨p, ins, len, k⟩ := e
      obtain rfl : p = pc := hpc _ _ rfl
      obtain ⟨hlk, hnx⟩ := l_look hsuf
      have hsr := l_suf_t hsuf
      dsimp only at hlk hnx
      unfold l_run at h
      split at h
      · -- a script's int
        split at h
        · rename_i p1 q1 p2 j q2 p3 q3 p4 q4 r'
          simp only [Bool.and_eq_true, decide_eq_true_eq] at h
          obtain ⟨⟨j0, j5⟩, h⟩ := h
          have e1 : p1 = p + len := hnx _ _ rfl
          obtain ⟨l1, n1⟩ := l_look hsr
          have hsr1 := l_suf_t hsr
          obtain ⟨l2, n2⟩ := l_look hsr1
          have hsr2 := l_suf_t hsr1
          obtain ⟨l3, n3⟩ := l_look hsr2
          have hsr3 := l_suf_t hsr2
          obtain ⟨l4, n4⟩ := l_look hsr3
          have hsr4 := l_suf_t hsr3
          dsimp only at l1 n1 l2 n2 l3 n3 l4 n4
          have e2 := n1 _ _ rfl
          have e3 := n2 _ _ rfl
          have e4 := n3 _ _ rfl
          dsimp only at e2 e3 e4
          obtain ⟨len1, k1⟩ := q1
          obtain ⟨len2, k2⟩ := q2
          obtain ⟨len3, k3⟩ := q3
          obtain ⟨len4, k4⟩ := q4
          refine aOK_op hlk (show _ = some (p + len, l_ls iI a b c, .ref 0 :: ws, H, 0, 0) from rfl) ?_
          rw [← e1]
          refine aOK_op l1 (show _ = some (p1 + len1, l_ls iI a b c, .int iI :: .ref 0 :: ws, H, 0, 0) from rfl) ?_
          rw [← e2]
          refine aOK_op l2 (show _ = some (p2 + len2, l_ls iI a b c, .int (Int32.ofInt j) :: .int iI :: .ref 0 :: ws, H, 0, 0) from rfl) ?_
          rw [← e3]
          refine aOK_op l3 (show _ = some (p3 + len3, l_ls iI a b c, .int (iI + Int32.ofInt j) :: .ref 0 :: ws, H, 0, 0) from rfl) ?_
          rw [← e4]
          have hj : (Int32.ofInt j).toInt = (j.toNat : Int) := by
            rw [Int32.toInt_ofInt, show (Int32.size : Nat) = 4294967296 from rfl, Int.bmod_eq_of_le (by omega) (by omega)]
            omega
          refine aOK_op l4 (l_scr (n := i + j.toNat) (y_addS _ hi hj rfl (by omega)) (by omega)) ?_
          exact ih u r' _ h hsr4 _ n4 (.int (xs (i + j.toNat)) :: ws) ⟨rfl, hst⟩ a b c H C S hI hC hS
        · cases h
      · refine aOK_op hlk (show _ = some (p + len, l_ls iI a b c, .ref 2 :: ws, H, 0, 0) from rfl) ?_
        exact ih u r _ h hsr _ hnx (.ref 2 :: ws) ⟨rfl, hst⟩ a b c H C S hI hC hS
      · refine aOK_op hlk (show _ = some (p + len, l_ls iI a b c, .ref 155 :: ws, H, 0, 0) from rfl) ?_
        exact ih u r _ h hsr _ hnx (.ref 155 :: ws) ⟨rfl, hst⟩ a b c H C S hI hC hS
      · refine aOK_op hlk (show _ = some (p + len, l_ls iI a b c, .ref 197 :: ws, H, 0, 0) from rfl) ?_
        exact ih u r _ h hsr _ hnx (.ref 197 :: ws) ⟨rfl, hst⟩ a b c H C S hI hC hS
      · rename_i cc
        refine aOK_op hlk (show _ = some (p + len, l_ls iI a b c, .int (Int32.ofInt cc) :: ws, H, 0, 0) from rfl) ?_
        exact ih u r _ h hsr _ hnx (.int (Int32.ofInt cc) :: ws) ⟨rfl, hst⟩ a b c H C S hI hC hS
      · -- if it is 0
        split at h
        · rename_i j st'
          cases ws with
          | nil => cases hst
          | cons w ws =>
            have hw : w = .int (xs (i + j)) := hst.1
            subst hw
            simp only [Bool.and_eq_true, decide_eq_true_eq] at h
            refine aOK_op hlk (show _ = some (if a_cnd .eq (xs (i + j)) 0 then k.2.1 else p + 3, l_ls iI a b c, ws, H, 0, 0) from rfl) ?_
            split
            · exact ih u _ _ h.1.2 (l_suf_to hsr) _ (fun e r' hr => l_to_hd hr) _ hst.2 a b c H C S hI hC hS
            · rw [← h.1.1]
              exact ih u r _ h.2 hsr _ hnx _ hst.2 a b c H C S hI hC hS
        · cases h
      · -- on to
        rw [Bool.or_eq_true] at h
        refine aOK_op hlk (show _ = some (k.2.1, l_ls iI a b c, ws, H, 0, 0) from rfl) ?_
        rcases h with h | h
        · split at h
          · have := Nat.eq_of_beq_eq_true h
            rw [this]
            cases ws with
            | nil => exact hend a b c H C S hI (by omega) (by omega)
            | cons w ws => cases hst
          · cases h
        · exact ih u _ _ h (l_suf_to hsr) _ (fun e r' hr => l_to_hd hr) _ hst a b c H C S hI hC hS
      · -- pop
        split at h
        · rename_i st'
          cases ws with
          | nil => cases hst
          | cons w ws =>
            obtain ⟨x, rfl⟩ : ∃ x : Int32, w = .int x := hst.1
            refine aOK_op hlk (show _ = some (p + len, l_ls iI a b c, ws, H, 0, 0) from rfl) ?_
            exact ih u r _ h hsr _ hnx _ hst.2 a b c H C S hI hC hS
        · cases h
      · split at h
        · rename_i st'
          cases ws with
          | nil => cases hst
          | cons w ws =>
            obtain ⟨x, rfl⟩ : ∃ x : Int32, w = .int x := hst.1
            refine aOK_op hlk (show _ = some (p + len, l_ls iI (some (.int x)) b c, ws, H, 0, 0) from rfl) ?_
            exact ih u r _ h hsr _ hnx _ hst.2 _ b c H C S hI hC hS
        · cases h
      · split at h
        · rename_i st'
          cases ws with
          | nil => cases hst
          | cons w ws =>
            obtain ⟨x, rfl⟩ : ∃ x : Int32, w = .int x := hst.1
            obtain ⟨a', ha⟩ := l_set6 (p0 := some (.ref 0)) (p1 := some (.ref 2)) (p2 := some (.ref 155)) (p3 := some (.ref 197)) (p4 := some (.int iI)) (a := a) (b := b) (c := c) (v := .int x)
            refine aOK_op hlk (show _ = some (p + len, a_set1 (l_ls iI a b c) 6 (.int x), ws, H, 0, 0) from rfl) ?_
            unfold l_ls
            rw [ha]
            exact ih u r _ h hsr _ hnx _ hst.2 _ _ c H C S hI hC hS
        · cases h
      · split at h
        · rename_i st'
          cases ws with
          | nil => cases hst
          | cons w ws =>
            obtain ⟨x, rfl⟩ : ∃ x : Int64, w = .long x := hst.1
            obtain ⟨a', ha⟩ := l_set62 (p0 := some (.ref 0)) (p1 := some (.ref 2)) (p2 := some (.ref 155)) (p3 := some (.ref 197)) (p4 := some (.int iI)) (a := a) (b := b) (c := c) (v := .long x)
            refine aOK_op hlk (show _ = some (p + len, a_set2 (l_ls iI a b c) 6 (.long x), ws, H, 0, 0) from rfl) ?_
            unfold l_ls
            rw [ha]
            exact ih u r _ h hsr _ hnx _ hst.2 _ _ _ H C S hI hC hS
        · cases h
      · -- compared
        split at h
        · have hk := Nat.eq_of_beq_eq_true h
          cases ws with
          | nil => cases hst
          | cons w ws => cases ws with
            | nil => exact hst.2.elim
            | cons w2 ws => cases ws with
              | cons w3 ws => exact hst.2.2.elim
              | nil =>
                have e1 : w = .int g := hst.1
                have e2 : w2 = .int g := hst.2.1
                subst e1; subst e2
                refine aOK_op hlk (show _ = some (if a_cnd .eq g g then k.2.1 else p + 3, l_ls iI a b c, [], H, 0, 0) from rfl) ?_
                rw [if_pos (show a_cnd .eq g g = true from decide_eq_true rfl), hk]
                exact hend a b c H C S hI (by omega) (by omega)
        · cases h
      · -- a call
        split at h
        · rename_i r0 m b0 ty hlook
          obtain ⟨M, hM, hm, hml, htold⟩ := hT _ _ _ _ _ hlook
          rw [Nat.ble_eq] at hml
          simp only [Bool.and_eq_true] at h
          obtain ⟨⟨⟨⟨⟨k4, krc⟩, klen⟩, kint⟩, kfa⟩, h⟩ := h
          obtain ⟨s1, s2⟩ := l_st_app (m := m) hst
          obtain ⟨us, e1, e2⟩ := l_ints s1 kint
          have hk4 := Nat.eq_of_beq_eq_true k4
          have hrc := l_recv hI.1 krc
          have hul : us.length = m := by
            have := congrArg List.length e1
            rw [List.length_map, l_st_len s1, Nat.eq_of_beq_eq_true klen] at this
            exact this.symm
          have hfa : ty = 3 → us.reverse.map Value.int = (List.range m).map (fun a => Value.int (xs (i + (a + 1)))) := by
            intro h3
            subst h3
            have : List.take m st = l_fa m := of_decide_eq_true kfa
            rw [this] at s1
            rw [List.map_reverse, ← e1]
            exact l_fa_ok s1
          have fin : ∀ (rest : List Value) (rs : List lO), ws.drop m = .ref r0 :: rest → a_wd rest ≤ 6 → l_run T n u r (.inr (.inr ty) :: rs) = true → l_st xs i g rs rest → aOK s_P (some (L, xs)) 202 a_mL p (l_ls iI a b c) ws H C S K := by
            intro rest rs hd hwd hrun hrs
            have hinv : ∀ cc, a_inv s_P (.invokevirtual cc) k ws H = some (M, .ref r0 :: us.reverse.map .int, rest) := by
              intro cc
              unfold a_inv
              rw [hM]
              dsimp only
              rw [if_pos (Or.inl hk4), hm, hd]
              dsimp only
              rw [e1, ← List.map_reverse, if_pos ⟨hrc, by omega, by rw [l_ae, List.length_cons, List.length_map, List.length_reverse]; omega⟩]
            refine aOK_call hlk rfl rfl (hinv _) ?_
            refine aOK_deep (d := 200) (by decide) (htold us.reverse H C S _ (by rw [List.length_reverse]; exact hul) (fun q u hu => e2 q u (List.mem_reverse.mp hu)) hfa hI (fun w H' hI' hw => ?_))
            refine Or.inr ⟨l_vnr hw, ?_⟩
            exact ih u r _ hrun hsr _ hnx (w :: rest) ⟨hw, hrs⟩ a b c H' C S hI' hC hS
          split at h
          · rename_i q hdr
            rw [Bool.and_eq_true] at h
            obtain ⟨hq, h⟩ := h
            have hq := Nat.eq_of_beq_eq_true hq
            subst hq
            rw [hdr] at s2
            cases hw : ws.drop m with
            | nil => rw [hw] at s2; cases s2
            | cons w rest =>
              rw [hw] at s2
              have e5 : w = .ref q := s2.1
              subst e5
              cases rest with
              | cons w2 r2 => exact s2.2.elim
              | nil => exact fin [] [] hw (by decide) h trivial
          · rename_i q hdr
            rw [Bool.and_eq_true] at h
            obtain ⟨hq, h⟩ := h
            have hq := Nat.eq_of_beq_eq_true hq
            subst hq
            rw [hdr] at s2
            cases hw : ws.drop m with
            | nil => rw [hw] at s2; cases s2
            | cons w rest =>
              rw [hw] at s2
              have e5 : w = .ref q := s2.1
              subst e5
              cases rest with
              | nil => exact s2.2.elim
              | cons w2 r2 => cases r2 with
                | cons w3 r3 => exact s2.2.2.elim
                | nil =>
                  have e6 : w2 = .int g := s2.2.1
                  subst e6
                  exact fin [.int g] [.inr (.inr 3)] hw (Nat.le_of_ble_eq_true rfl) h ⟨rfl, trivial⟩
          · cases h
        · cases h
      · -- a call that may throw
        split at h
        · rename_i st'
          simp only [Bool.and_eq_true] at h
          obtain ⟨⟨⟨k20, ku⟩, kk⟩, h⟩ := h
          have hk20 := Nat.eq_of_beq_eq_true k20
          have hu := Nat.eq_of_beq_eq_true ku
          subst hu
          cases ws with
          | nil => cases hst
          | cons w ws =>
            have e0 : w = .ref 197 := hst.1
            subst e0
            have fin : ∀ (m : Nat) (us : List Int32), us.length = m → l_S (some (L, xs)) k.2.1 m → ws = (us.map .int).reverse ++ [.ref 2] → aOK s_P (some (L, xs)) 202 a_mL p (l_ls iI a b c) (.ref 197 :: ws) H C S K := by
              intro m us hul hS' hws
              obtain ⟨M, hM, hm, hml, htold⟩ := hS'
              rw [Nat.ble_eq] at hml
              have hrev : (Value.ref 197 :: ws).reverse = .ref 2 :: (us.map .int ++ [.ref 197]) := by
                rw [hws, List.reverse_cons, List.reverse_append, List.reverse_reverse]
                rfl
              have hlen : (Value.ref 197 :: ws).length = m + 2 := by
                rw [← List.length_reverse, hrev]
                simp only [List.length_cons, List.length_append, List.length_map, List.length_nil]
                omega
              have hae : (a_entry (.ref 2 :: (us.map .int ++ [.ref 197]))).length = m + 2 := by
                have : ∀ us : List Int32, (a_entry (us.map .int ++ [.ref 197])).length = us.length + 1 := by
                  intro us
                  induction us with
                  | nil => rfl
                  | cons u us ih2 =>
                    show (a_entry (.int u :: (us.map .int ++ [.ref 197]))).length = _
                    unfold a_entry
                    rw [if_neg (Nat.ne_of_beq_eq_false rfl), List.length_cons, ih2]
                    rfl
                show (if _ then _ else _ : aL).length = _
                rw [if_neg (Nat.ne_of_beq_eq_false rfl), List.length_cons, this]
                omega
              have hinv : ∀ cc, a_inv s_P (.invokestatic cc) k (.ref 197 :: ws) H = some (M, .ref 2 :: (us.map .int ++ [.ref 197]), []) := by
                intro cc
                unfold a_inv
                rw [hM]
                dsimp only
                rw [if_pos (Or.inr hk20), hm, ← hlen, List.take_length, List.drop_length, hrev, if_pos ⟨Nat.le_refl _, by decide, by rw [hae]; exact hml⟩]
              have hop : ∀ cc, a_op (some (L, xs)) (.invokestatic cc) len k p (l_ls iI a b c) (.ref 197 :: ws) H = none := by
                intro cc
                have hh : a_hp (.invokestatic cc) k (.ref 197 :: ws) H = none := by
                  show (if k.1 = 10 then _ else none) = none
                  rw [if_neg (by omega)]
                show (match a_hp (.invokestatic cc) k (.ref 197 :: ws) H with
                  | some (st', h', c1, s1) => some (p + len, l_ls iI a b c, st', h', c1, s1)
                  | none => none) = none
                rw [hh]
              refine aOK_call hlk (hop _) rfl (hinv _) ?_
              refine htold us H C S _ hul hI (fun x H' C' S' hI' hC' hS' => ?_)
              refine Or.inr ⟨fun n q => (by cases q), ?_⟩
              exact ih 0 r _ h hsr _ hnx [.int x] ⟨⟨x, rfl⟩, trivial⟩ a b c H' C' S' hI' (by omega) (by omega)
            rw [Bool.or_eq_true] at kk
            simp only [Bool.and_eq_true] at kk
            rcases kk with ⟨k1, k2⟩ | ⟨k1, k2⟩
            · have hk1 := Nat.eq_of_beq_eq_true k1
              split at k2
              · rename_i j1 j2
                obtain ⟨-, hst⟩ := hst
                have hws : ws = [.int (xs (i + j1)), .int (xs (i + j2)), .ref 2] := by
                  match ws, hst with
                  | [w1, w2, w3], hst =>
                    have q1 : w1 = .int (xs (i + j1)) := hst.1
                    have q2 : w2 = .int (xs (i + j2)) := hst.2.1
                    have q3 : w3 = .ref 2 := hst.2.2.1
                    rw [q1, q2, q3]
                exact fin 2 [xs (i + j2), xs (i + j1)] rfl (by rw [hk1]; exact h169) hws
              · cases k2
            · have hk1 := Nat.eq_of_beq_eq_true k1
              split at k2
              · rename_i j1
                obtain ⟨-, hst⟩ := hst
                have hws : ws = [.int (xs (i + j1)), .ref 2] := by
                  match ws, hst with
                  | [w1, w3], hst =>
                    have q1 : w1 = .int (xs (i + j1)) := hst.1
                    have q3 : w3 = .ref 2 := hst.2.1
                    rw [q1, q3]
                exact fin 1 [xs (i + j1)] rfl (by rw [hk1]; exact h171) hws
              · cases k2
        · cases h
      · cases h
end LR2
