/-! ===== instructions, one by one ===== -/
theorem a_ii_s {f : Int32 → Int32 → Int32} {st st' : List Value} (h : a_ii f st = some st') : ∃ x y r, st = .int y :: .int x :: r ∧ st' = .int (f x y) :: r := by
  unfold a_ii at h
  split at h
  · cases h; exact ⟨_, _, _, rfl, rfl⟩
  · cases h
theorem a_iin_s {f : Int32 → Int32 → Int32} {st st' : List Value} (h : a_iin f st = some st') : ∃ x y r, st = .int y :: .int x :: r ∧ st' = .int (f x y) :: r ∧ ¬ y = 0 := by
  unfold a_iin at h
  split at h
  · split at h
    · cases h
    · rename_i hy; cases h; exact ⟨_, _, _, rfl, rfl, hy⟩
  · cases h
theorem a_i_s {f : Int32 → Value} {st st' : List Value} (h : a_i f st = some st') : ∃ x r, st = .int x :: r ∧ st' = f x :: r := by
  unfold a_i at h
  split at h
  · cases h; exact ⟨_, _, rfl, rfl⟩
  · cases h
theorem a_ll_s {f : Int64 → Int64 → Value} {st st' : List Value} (h : a_ll f st = some st') : ∃ x y r, st = .long y :: .long x :: r ∧ st' = f x y :: r := by
  unfold a_ll at h
  split at h
  · cases h; exact ⟨_, _, _, rfl, rfl⟩
  · cases h
theorem a_lln_s {f : Int64 → Int64 → Int64} {st st' : List Value} (h : a_lln f st = some st') : ∃ x y r, st = .long y :: .long x :: r ∧ st' = .long (f x y) :: r ∧ ¬ y = 0 := by
  unfold a_lln at h
  split at h
  · split at h
    · cases h
    · rename_i hy; cases h; exact ⟨_, _, _, rfl, rfl, hy⟩
  · cases h
theorem a_l_s {f : Int64 → Value} {st st' : List Value} (h : a_l f st = some st') : ∃ x r, st = .long x :: r ∧ st' = f x :: r := by
  unfold a_l at h
  split at h
  · cases h; exact ⟨_, _, rfl, rfl⟩
  · cases h
theorem a_li_s {f : Int64 → Int32 → Int64} {st st' : List Value} (h : a_li f st = some st') : ∃ x y r, st = .int y :: .long x :: r ∧ st' = .long (f x y) :: r := by
  unfold a_li at h
  split at h
  · cases h; exact ⟨_, _, _, rfl, rfl⟩
  · cases h
theorem a_dup_s {st st' : List Value} (h : a_dup st = some st') : ∃ v r, st = v :: r ∧ st' = v :: v :: r ∧ v.category = 1 := by
  unfold a_dup at h
  split at h
  · split at h
    · rename_i hv; cases h; exact ⟨_, _, rfl, rfl, hv⟩
    · cases h
  · cases h
theorem a_pop_s {st st' : List Value} (h : a_pop st = some st') : ∃ v, st = v :: st' ∧ v.category = 1 := by
  unfold a_pop at h
  split at h
  · split at h
    · rename_i hv; cases h; exact ⟨_, rfl, hv⟩
    · cases h
  · cases h
theorem a_dup2_s {st st' : List Value} (h : a_dup2 st = some st') : ∃ v w r, st = v :: w :: r ∧ st' = v :: w :: v :: w :: r ∧ v.category = 1 ∧ w.category = 1 := by
  unfold a_dup2 at h
  split at h
  · split at h
    · rename_i hv; cases h; exact ⟨_, _, _, rfl, rfl, hv.1, hv.2⟩
    · cases h
  · cases h
/-- an instruction stands where the table says, and is linked as it says -/
def a_ok (Z : List aZ) (M : aM) (pc : Nat) (i : Instr) (len : Nat) (k : aK) : Prop := decode M.2.1 pc = .ok (i, len) ∧ a_ln i len = len ∧ a_lk Z M pc i k = true
section AST
variable {p : Program} {l : Launch} {e : Env} {R : Room} {s : State} {m : MethodId} {args : Array Value} {below : List Frame} {meth : Method} {c : Code} {H : Heap} {locs : List Loc} {cells slots : Nat} {Q : State → Prop}
variable {Z : List aZ} {M : aM} {G : aG} {pc len : Nat} {i : Instr} {k : aK} {L : Array Slot} {ls : aL}
set_option maxHeartbeats 2000000 in
theorem a_sim_stk (hF : a_Fr M p s m args meth c) (hok : a_ok Z M pc i len k) {st st' : List Value} (h : a_stk i k st = some st')
    (kk : W p l e R s m args below meth c H locs cells slots Q (F0 m (pc + len) L (st'.map (a_rn G)))) : W p l e R s m args below meth c H locs cells slots Q (F0 m pc L (st.map (a_rn G))) := by
  obtain ⟨hx, hb, hr, hml, hown, hlocks, hname, hts, -⟩ := hF
  obtain ⟨hd, hlen, hlk⟩ := hok
  rw [← hlen] at kk hd
  unfold a_stk at h
  split at h
  · cases h; exact lv_iconst hx hb hd rfl kk
  · cases h; exact lv_bipush hx hb hd rfl kk
  · cases h; exact lv_sipush hx hb hd rfl kk
  · cases h; exact lv_lconst hx hb hd rfl kk
  · split at h
    · rename_i hk
      cases h
      simp only [a_lk, hk, if_true] at hlk
      exact lv_ldc hx hb hown (hts _ (a_has_in hlk)) hd kk
    · cases h
  · split at h
    · rename_i hk
      cases h
      simp only [a_lk, hk, if_true] at hlk
      exact lv_ldcw hx hb hown (hts _ (a_has_in hlk)) hd kk
    · cases h
  · split at h
    · rename_i hk
      cases h
      simp only [a_lk, hk, if_true] at hlk
      exact lv_ldc2 hx hb hown (hts _ (a_has_in hlk)) hd kk
    · cases h
  · obtain ⟨x, y, r, rfl, rfl⟩ := a_ii_s h; exact lv_iadd hx hb hd kk
  · obtain ⟨x, y, r, rfl, rfl⟩ := a_ii_s h; exact lv_isub hx hb hd kk
  · obtain ⟨x, y, r, rfl, rfl⟩ := a_ii_s h; exact lv_imul hx hb hd kk
  · obtain ⟨x, y, r, rfl, rfl⟩ := a_ii_s h; exact lv_iand hx hb hd kk
  · obtain ⟨x, y, r, rfl, rfl⟩ := a_ii_s h; exact lv_ior hx hb hd kk
  · obtain ⟨x, y, r, rfl, rfl⟩ := a_ii_s h; exact lv_ixor hx hb hd kk
  · obtain ⟨x, y, r, rfl, rfl⟩ := a_ii_s h; exact lv_ishl hx hb hd kk
  · obtain ⟨x, y, r, rfl, rfl⟩ := a_ii_s h; exact lv_ishr hx hb hd kk
  · obtain ⟨x, y, r, rfl, rfl⟩ := a_ii_s h; exact lv_iushr hx hb hd rfl kk
  · obtain ⟨x, y, r, rfl, rfl, hy⟩ := a_iin_s h; exact lv_idiv hx hb hd hy kk
  · obtain ⟨x, y, r, rfl, rfl, hy⟩ := a_iin_s h; exact lv_irem hx hb hd hy kk
  · obtain ⟨x, r, rfl, rfl⟩ := a_i_s h; exact lv_ineg hx hb hd kk
  · obtain ⟨x, r, rfl, rfl⟩ := a_i_s h; exact lv_i2l hx hb hd rfl kk
  · obtain ⟨x, r, rfl, rfl⟩ := a_i_s h; exact lv_i2b hx hb hd rfl kk
  · obtain ⟨x, r, rfl, rfl⟩ := a_i_s h; exact lv_i2s hx hb hd rfl kk
  · obtain ⟨x, r, rfl, rfl⟩ := a_i_s h; exact lv_i2c hx hb hd rfl kk
  · obtain ⟨x, y, r, rfl, rfl⟩ := a_ll_s h; exact lv_ladd hx hb hd kk
  · obtain ⟨x, y, r, rfl, rfl⟩ := a_ll_s h; exact lv_lsub hx hb hd kk
  · obtain ⟨x, y, r, rfl, rfl⟩ := a_ll_s h; exact lv_lmul hx hb hd kk
  · obtain ⟨x, y, r, rfl, rfl⟩ := a_ll_s h; exact lv_land hx hb hd kk
  · obtain ⟨x, y, r, rfl, rfl⟩ := a_ll_s h; exact lv_lor hx hb hd kk
  · obtain ⟨x, y, r, rfl, rfl⟩ := a_ll_s h; exact lv_lxor hx hb hd kk
  · obtain ⟨x, y, r, rfl, rfl⟩ := a_ll_s h; exact W.lcmp hx hb hd kk
  · obtain ⟨x, y, r, rfl, rfl, hy⟩ := a_lln_s h; exact lv_ldiv hx hb hd hy kk
  · obtain ⟨x, y, r, rfl, rfl, hy⟩ := a_lln_s h; exact lv_lrem hx hb hd hy kk
  · obtain ⟨x, r, rfl, rfl⟩ := a_l_s h; exact lv_lneg hx hb hd kk
  · obtain ⟨x, r, rfl, rfl⟩ := a_l_s h; exact lv_l2i hx hb hd rfl kk
  · obtain ⟨x, y, r, rfl, rfl⟩ := a_li_s h; exact lv_lushr hx hb hd rfl kk
  · obtain ⟨v, r, rfl, rfl, hv⟩ := a_dup_s h; exact lv_dup hx hb hd (by rw [a_rn_cat]; exact hv) kk
  · obtain ⟨v, rfl, hv⟩ := a_pop_s h; exact lv_pop hx hb hd (by rw [a_rn_cat]; exact hv) kk
  · obtain ⟨v, w, r, rfl, rfl, hv, hw⟩ := a_dup2_s h; exact lv_dup2_11 hx hb hd (by rw [a_rn_cat]; exact hv) (by rw [a_rn_cat]; exact hw) kk
  · cases h
theorem a_ldi_s {n : Nat} {st : List Value} {q : aL × List Value} (h : a_ldi ls n st = some q) : ∃ x, ls[n]? = some (some (.int x)) ∧ q = (ls, .int x :: st) := by
  unfold a_ldi at h
  split at h
  · rename_i e; cases h; exact ⟨_, e, rfl⟩
  · cases h
theorem a_ldl_s {n : Nat} {st : List Value} {q : aL × List Value} (h : a_ldl ls n st = some q) : ∃ x, ls[n]? = some (some (.long x)) ∧ q = (ls, .long x :: st) := by
  unfold a_ldl at h
  split at h
  · rename_i e; cases h; exact ⟨_, e, rfl⟩
  · cases h
theorem a_lda_s {n : Nat} {st : List Value} {q : aL × List Value} (h : a_lda ls n st = some q) : ∃ x, ls[n]? = some (some (.ref x)) ∧ q = (ls, .ref x :: st) := by
  unfold a_lda at h
  split at h
  · rename_i e; cases h; exact ⟨_, e, rfl⟩
  · cases h
theorem a_sti_s {n : Nat} {st : List Value} {q : aL × List Value} (h : a_sti ls n st = some q) : ∃ x r, st = .int x :: r ∧ n < ls.length ∧ q = (a_set1 ls n (.int x), r) := by
  unfold a_sti at h
  split at h
  · split at h
    · rename_i e; cases h; exact ⟨_, _, rfl, e, rfl⟩
    · cases h
  · cases h
theorem a_stl_s {n : Nat} {st : List Value} {q : aL × List Value} (h : a_stl ls n st = some q) : ∃ x r, st = .long x :: r ∧ n + 1 < ls.length ∧ q = (a_set2 ls n (.long x), r) := by
  unfold a_stl at h
  split at h
  · split at h
    · rename_i e; cases h; exact ⟨_, _, rfl, e, rfl⟩
    · cases h
  · cases h
theorem a_sta_s {n : Nat} {st : List Value} {q : aL × List Value} (h : a_sta ls n st = some q) : ∃ x r, st = .ref x :: r ∧ n < ls.length ∧ q = (a_set1 ls n (.ref x), r) := by
  unfold a_sta at h
  split at h
  · split at h
    · rename_i e; cases h; exact ⟨_, _, rfl, e, rfl⟩
    · cases h
  · cases h
theorem a_inc_s {n : Nat} {z : Int} {st : List Value} {q : aL × List Value} (h : a_inc ls n z st = some q) : ∃ x, ls[n]? = some (some (.int x)) ∧ q = (a_set1 ls n (.int (x + Int32.ofInt z)), st) := by
  unfold a_inc at h
  split at h
  · rename_i e; cases h; exact ⟨_, e, rfl⟩
  · cases h
set_option maxHeartbeats 2000000 in
theorem a_sim_loc (hF : a_Fr M p s m args meth c) (hok : a_ok Z M pc i len k) {st st' : List Value} {ls' : aL} (h : a_loc i ls st = some (ls', st')) (hl : lv_has L M.2.2.1 (a_lv G ls)) (hll : ls.length = M.2.2.1)
    (kk : ∀ L' : Array Slot, lv_has L' M.2.2.1 (a_lv G ls') → ls'.length = M.2.2.1 → W p l e R s m args below meth c H locs cells slots Q (F0 m (pc + len) L' (st'.map (a_rn G)))) : W p l e R s m args below meth c H locs cells slots Q (F0 m pc L (st.map (a_rn G))) := by
  obtain ⟨hx, hb, hr, hml, hown, hlocks, hname, hts, -⟩ := hF
  obtain ⟨hd, hlen, hlk⟩ := hok
  rw [← hlen] at kk hd
  unfold a_loc at h
  split at h
  · obtain ⟨x, e, q⟩ := a_ldi_s h; cases q; exact lv_iload_n hx hb hd rfl (a_lv_at hl e) (kk L hl hll)
  · obtain ⟨x, e, q⟩ := a_ldi_s h; cases q; exact lv_iload hx hb hd (a_lv_at hl e) (kk L hl hll)
  · obtain ⟨x, e, q⟩ := a_ldl_s h; cases q; exact lv_lload_n hx hb hd rfl (a_lv_at hl e) (kk L hl hll)
  · obtain ⟨x, e, q⟩ := a_ldl_s h; cases q; exact lv_lload hx hb hd (a_lv_at hl e) (kk L hl hll)
  · obtain ⟨x, e, q⟩ := a_lda_s h; cases q; exact lv_aload_n hx hb hd rfl (a_lv_at hl e) (kk L hl hll)
  · obtain ⟨x, e, q⟩ := a_lda_s h; cases q; exact lv_aload hx hb hd (a_lv_at hl e) (kk L hl hll)
  · obtain ⟨x, r, rfl, e, q⟩ := a_sti_s h; cases q
    exact lv_istore_n hx hb hd rfl hl (by omega) rfl (fun L' h' => kk L' (a_lv_set1 (v := .int x) h') (by rw [a_set1_len]; exact hll))
  · obtain ⟨x, r, rfl, e, q⟩ := a_sti_s h; cases q
    exact lv_istore hx hb hd hl (by omega) rfl (fun L' h' => kk L' (a_lv_set1 (v := .int x) h') (by rw [a_set1_len]; exact hll))
  · obtain ⟨x, r, rfl, e, q⟩ := a_stl_s h; cases q
    exact lv_lstore_n hx hb hd rfl hl (by omega) rfl (fun L' h' => kk L' (a_lv_set2 (v := .long x) h') (by rw [a_set2_len]; exact hll))
  · obtain ⟨x, r, rfl, e, q⟩ := a_stl_s h; cases q
    exact lv_lstore hx hb hd hl (by omega) rfl (fun L' h' => kk L' (a_lv_set2 (v := .long x) h') (by rw [a_set2_len]; exact hll))
  · obtain ⟨x, r, rfl, e, q⟩ := a_sta_s h; cases q
    exact lv_astore_n hx hb hd rfl hl (by omega) rfl (fun L' h' => kk L' (a_lv_set1 (v := .ref x) h') (by rw [a_set1_len]; exact hll))
  · obtain ⟨x, r, rfl, e, q⟩ := a_sta_s h; cases q
    exact lv_astore hx hb hd hl (by omega) rfl (fun L' h' => kk L' (a_lv_set1 (v := .ref x) h') (by rw [a_set1_len]; exact hll))
  · rename_i n z
    obtain ⟨x, e, q⟩ := a_inc_s h; cases q
    obtain ⟨j, hj⟩ := List.getElem?_of_mem (a_lv_in.mpr ⟨_, e, rfl⟩ : (n, a_rn G (.int x)) ∈ a_lv G ls)
    have hn : n < ls.length := (List.getElem?_eq_some_iff.mp e).1
    exact lv_iinc hx hb hd hl hj rfl (by omega) rfl (fun L' h' => kk L' (a_lv_set1 (v := .int (x + Int32.ofInt z)) h') (by rw [a_set1_len]; exact hll))
  · cases h
theorem a_tgt_s {n : Nat} {o : Int} {t : Nat} (h : a_tgt n o = some t) : (n : Int) + o = (t : Int) := by
  unfold a_tgt at h
  split at h
  · cases h; omega
  · cases h
set_option maxHeartbeats 2000000 in
theorem a_sim_br (hF : a_Fr M p s m args meth c) (hok : a_ok Z M pc i len k) {st st' : List Value} {pc' : Nat} (h : a_br i k pc st = some (pc', st'))
    (kk : W p l e R s m args below meth c H locs cells slots Q (F0 m pc' L (st'.map (a_rn G)))) : W p l e R s m args below meth c H locs cells slots Q (F0 m pc L (st.map (a_rn G))) := by
  obtain ⟨hx, hb, hr, hml, hown, hlocks, hname, hts, -⟩ := hF
  obtain ⟨hd, hlen, hlk⟩ := hok
  rw [← hlen] at hd
  unfold a_br at h
  split at h
  · rename_i cd off
    split at h
    · rename_i x r
      have ht := of_decide_eq_true hlk
      cases h
      cases cd
      · exact lv_if_eq hx hb hd ht (fun q => by simpa [a_cnd, q] using kk) (fun q => by simpa [a_cnd, q] using kk)
      · exact lv_if_ne hx hb hd ht (fun q => by simpa [a_cnd, q] using kk) (fun q => by simpa [a_cnd, q] using kk)
      · exact lv_if_lt hx hb hd ht (fun q => by simpa only [a_cnd, q, decide_true, decide_false, if_true] using kk) (fun q => by simpa only [a_cnd, q, decide_true, decide_false, if_false, Bool.false_eq_true] using kk)
      · exact lv_if_ge hx hb hd ht (fun q => by simpa only [a_cnd, q, decide_true, decide_false, if_true] using kk) (fun q => by simpa only [a_cnd, q, decide_true, decide_false, if_false, Bool.false_eq_true] using kk)
      · exact lv_if_gt hx hb hd ht (fun q => by simpa only [a_cnd, q, decide_true, decide_false, if_true] using kk) (fun q => by simpa only [a_cnd, q, decide_true, decide_false, if_false, Bool.false_eq_true] using kk)
      · exact lv_if_le hx hb hd ht (fun q => by simpa only [a_cnd, q, decide_true, decide_false, if_true] using kk) (fun q => by simpa only [a_cnd, q, decide_true, decide_false, if_false, Bool.false_eq_true] using kk)
    · cases h
  · rename_i cd off
    split at h
    · rename_i y x r
      have ht := of_decide_eq_true hlk
      cases h
      cases cd
      · exact lv_icmp_eq hx hb hd ht (fun q => by simpa [a_cnd, q] using kk) (fun q => by simpa [a_cnd, q] using kk)
      · exact lv_icmp_ne hx hb hd ht (fun q => by simpa [a_cnd, q] using kk) (fun q => by simpa [a_cnd, q] using kk)
      · exact lv_icmp_lt hx hb hd ht (fun q => by simpa only [a_cnd, q, decide_true, decide_false, if_true] using kk) (fun q => by simpa only [a_cnd, q, decide_true, decide_false, if_false, Bool.false_eq_true] using kk)
      · exact lv_icmp_ge hx hb hd ht (fun q => by simpa only [a_cnd, q, decide_true, decide_false, if_true] using kk) (fun q => by simpa only [a_cnd, q, decide_true, decide_false, if_false, Bool.false_eq_true] using kk)
      · exact lv_icmp_gt hx hb hd ht (fun q => by simpa only [a_cnd, q, decide_true, decide_false, if_true] using kk) (fun q => by simpa only [a_cnd, q, decide_true, decide_false, if_false, Bool.false_eq_true] using kk)
      · exact lv_icmp_le hx hb hd ht (fun q => by simpa only [a_cnd, q, decide_true, decide_false, if_true] using kk) (fun q => by simpa only [a_cnd, q, decide_true, decide_false, if_false, Bool.false_eq_true] using kk)
    · cases h
  · cases h
    exact lv_goto hx hb hd (of_decide_eq_true hlk) kk
  · rename_i d lo hi offs
    split at h
    · rename_i x r
      split at h
      · rename_i hx'
        cases ht : a_tgt pc d with
        | none => rw [ht] at h; cases h
        | some t => rw [ht] at h; cases h; exact lv_tableOut hx hb hd hx' (a_tgt_s ht) kk
      · rename_i hx'
        split at h
        · rename_i o ho
          cases ht : a_tgt pc o with
          | none => rw [ht] at h; cases h
          | some t => rw [ht] at h; cases h; exact lv_tableIn hx hb hd (fun q => hx' (Or.inl q)) (fun q => hx' (Or.inr q)) ho (a_tgt_s ht) kk
        · cases h
    · cases h
  · cases h
end AST
