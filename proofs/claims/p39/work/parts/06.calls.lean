/-! ===== calls, and the whole ===== -/
def a_rm (d c s : Nat) : Room := { frames := d + 8, cells := c, slots := s, locals := 200 + 60 * d }
/-- a method's start and end on paper -/
def a_Pc (G : aG) (HA : Heap) (X : aX) (as : List Value) (h : aH) : Array Value → State → Prop := va_Pc (as.map (a_rn G)) (fun U => a_Kn G HA X U ∧ a_hr G HA h U.heap)
def a_Qc (G : aG) (HA : Heap) (v : Option Value) (h : aH) : Array Value → State → Outcome → State → Prop := fun _ st o t => o = .returned (v.map (a_rn G)) ∧ a_hr G HA h t.heap ∧ st.heap.size ≤ t.heap.size
theorem a_blind (G : aG) (HA : Heap) (X : aX) (as : List Value) (h : aH) : FrameBlind (a_Pc G HA X as h) := by
  intro a U g mk q
  obtain ⟨q1, q2, q3⟩ := q
  exact ⟨q1, a_Kn.warm (s := U) (U := U.calling g mk a) (State.WarmedH.refl U) q2, q3⟩
theorem a_goodOf {ws : List Cond} (h : ∀ w ∈ ws, w ∈ a_good) : GoodIn a_good ws := fun w hw => ⟨h w hw, good_of_word (List.mem_filter.mp (h w hw)).2⟩
theorem a_wsM_in {M : aM} (h : Cond.code M.1 M.2.1 M.2.2.1 M.2.2.2.1 ∈ a_good) : ∀ w ∈ a_wsM M, w ∈ a_good := by
  intro w hw
  rcases List.mem_cons.mp hw with e | hw
  · rw [e]; exact h
  · exact hw
section ACL
variable {p : Program} {l : Launch} {e : Env} {R : Room} {s : State} {m : MethodId} {args : Array Value} {below : List Frame} {meth : Method} {c : Code} {H : Heap} {locs : List Loc} {cells slots : Nat} {Q : State → Prop}
variable {Z : List aZ} {M M' : aM} {G : aG} {HA : Heap} {X : aX} {pc len : Nat} {i : Instr} {k : aK} {L : Array Slot} {h h' : aH} {st rest as : List Value} {Qc : Array Value → State → Outcome → State → Prop} {mc ms d : Nat}
theorem a_take {n : Nat} {v : Value} {r : List Value} (h : st.drop n = v :: r) : n < st.length ∧ st = st.take n ++ v :: r ∧ (st.take n).length = n := by
  have h1 : n < st.length := by
    rcases Nat.lt_or_ge n st.length with q | q
    · exact q
    · rw [List.drop_eq_nil_of_le q] at h; cases h
  exact ⟨h1, by rw [← h, List.take_append_drop], by rw [List.length_take]; omega⟩
theorem a_rev (G : aG) (q : List Value) : ((q.reverse).map (a_rn G)).reverse = q.map (a_rn G) := by rw [← List.map_reverse, List.reverse_reverse]
set_option maxHeartbeats 1000000 in
theorem a_sim_run (hZ : a_ZOK Z) (hF : a_Fr M p s m args meth c) (hK : a_Kn G HA X s) (hok : a_ok Z M pc i len k) (hr : a_hr G HA h H) (hsz : L.size = M.2.2.1) (ho : a_inv (Z.map Prod.fst) i k st h = some (M', as, rest)) (hk20 : k.1 ≠ 20) (hM : Met l M'.1 (a_wsM M') (a_rm d mc ms) (a_Pc G HA X as h) Qc mc ms (a_A G)) (hfr : d + 9 ≤ R.frames) (hlo : 200 + 60 * (d + 1) ≤ R.locals) (hc1 : cells + mc ≤ R.cells) (hs1 : slots + ms ≤ R.slots) :
    a_ln i len = 3 ∧ va_Run p l e R s m args below meth c H locs cells slots mc ms (F0 m pc L (st.map (a_rn G))) (rest.map (a_rn G)) (Qc (as.map (a_rn G)).toArray) (a_A G) := by
  obtain ⟨hx, hb, -, hml, hown, -, -, hts, -⟩ := hF
  obtain ⟨hd, hlen, hlk⟩ := hok
  rw [← hlen] at hd
  unfold a_inv at ho
  split at ho
  · cases ho
  · rename_i M0 hM0
    rw [List.getElem?_map] at hM0
    cases hq : Z[k.2.1]? with
    | none => rw [hq] at hM0; cases hM0
    | some q =>
    rw [hq] at hM0
    cases hM0
    obtain ⟨hL', hnm, hpl, hini, s0, s1', s2', -⟩ := a_mb_s (hZ q (List.mem_of_getElem? hq)).1
    have hR : (a_rm d mc ms).frames + 1 ≤ R.frames ∧ 8 + (q.1.2.2.1 + 11) + (a_rm d mc ms).locals ≤ R.locals := ⟨hfr, by show 8 + (q.1.2.2.1 + 11) + (200 + 60 * d) ≤ _; omega⟩
    split at ho
    · rename_i idx
      split at ho
      · rename_i hk
        split at ho
        · rename_i v r hdr
          split at ho
          · rename_i hcond
            cases ho
            refine ⟨rfl, ?_⟩
            obtain ⟨t1, t2, t3⟩ := a_take hdr
            obtain ⟨hs0, hl, ⟨T, N, hcl⟩, -⟩ := a_lk_virt hq hlk
            obtain ⟨hcode, hin, hsel⟩ := s0 hs0
            unfold a_recv at hcond
            obtain ⟨hrc, hw, -⟩ := hcond
            split at hrc
            · rename_i o
              split at hrc
              · rename_i ci fs hcell
                have hci : ci = k.2.2.1 := of_decide_eq_true hrc
                subst hci
                have hstack : (F0 m pc L (st.map (a_rn G))).stack = (((st.take q.1.2.2.2.2.1).reverse).map (a_rn G)).reverse ++ .ref (G.2.2.1 + o) :: rest.map (a_rn G) := by
                  show st.map (a_rn G) = _
                  rw [a_rev]
                  conv => lhs; rw [t2]
                  rw [List.map_append]
                  rfl
                have hrecv := va_recv hK.1 hr.2.2.2 hcl (a_ws_of hcell)
                have hpre : PreV s H q.1.1.cls (G.2.2.1 + o) (a_Pc G HA X (.ref (o + 2) :: (st.take q.1.2.2.2.2.1).reverse) h) (((st.take q.1.2.2.2.2.1).reverse).map (a_rn G)) :=
                  ⟨a_blind G HA X _ h, hrecv, fun U hU hW => ⟨rfl, hK.warm hW, by rw [hU]; exact hr⟩⟩
                have hlen' : (((st.take q.1.2.2.2.2.1).reverse).map (a_rn G)).length = q.1.2.2.2.2.1 := by rw [List.length_map, List.length_reverse, t3]
                have hroom : 2 * (F0 m pc L (st.map (a_rn G))).monitorRoom + ((rest.map (a_rn G)).map fun v => v.category).sum ≤ 8 := by
                  show 2 * 0 + _ ≤ 8
                  rw [a_wd_rn]; omega
                exact va_runV (Ts := a_good) (own := M.1.cls) (C := q.1.1.cls) ⟨hx, hb, hml, hown, hts⟩ hM (cwV q.1.2.2.2.2.1 hts (a_goodOf (by
                    intro w hw
                    simp only [wsV, List.mem_append, List.mem_cons, List.not_mem_nil, or_false] at hw
                    rcases hw with (rfl | rfl | rfl | rfl) | hw
                    · exact hl
                    · exact hin
                    · exact hsel
                    · exact hini
                    · exact a_wsM_in hcode w hw)) rfl rfl rfl ⟨rfl, hnm⟩ hR) hpre rfl hlen' hsz hstack hroom hd ⟨hc1, hs1⟩
              · cases hrc
            · cases hrc
          · cases ho
        · cases ho
      · cases ho
    · rename_i idx
      split at ho
      · rename_i hk
        split at ho
        · rename_i o r hdr
          split at ho
          · rename_i hcond
            cases ho
            refine ⟨rfl, ?_⟩
            obtain ⟨t1, t2, t3⟩ := a_take hdr
            obtain ⟨hs0, hl⟩ := a_lk_init hq hk hlk
            obtain ⟨hcode, hin, hinit, hret⟩ := s2' hs0
            have hG := a_goodOf (a_wsM_in hcode)
            have hstack : (F0 m pc L (st.map (a_rn G))).stack = (((st.take q.1.2.2.2.2.1).reverse).map (a_rn G)).reverse ++ .ref (a_ad G o) :: rest.map (a_rn G) := by
              show st.map (a_rn G) = _
              rw [a_rev]
              conv => lhs; rw [t2]
              rw [List.map_append]
              rfl
            have hpre : PreS s H (a_Pc G HA X (.ref o :: (st.take q.1.2.2.2.2.1).reverse) h) (.ref (a_ad G o) :: ((st.take q.1.2.2.2.2.1).reverse).map (a_rn G)) :=
              ⟨a_blind G HA X _ h, fun U hU hW => ⟨rfl, hK.warm hW, by rw [hU]; exact hr⟩⟩
            have hlen' : (((st.take q.1.2.2.2.2.1).reverse).map (a_rn G)).length = q.1.2.2.2.2.1 := by rw [List.length_map, List.length_reverse, t3]
            have hroom : 2 * (F0 m pc L (st.map (a_rn G))).monitorRoom + ((rest.map (a_rn G)).map fun v => v.category).sum ≤ 8 := by
              show 2 * 0 + _ ≤ 8
              rw [a_wd_rn]; have := hcond.1; omega
            have hw0 : a_wsM q.1 = Cond.code q.1.1 q.1.2.1 q.1.2.2.1 none :: a_good := by unfold a_wsM; rw [hret]
            exact va_runI (Ts := a_good) (own := M.1.cls) ⟨hx, hb, hml, hown, hts⟩ hM (cwI q.1.2.2.2.2.1 hts hG hw0 rfl rfl (hts _ hini) (hts _ hl) (hts _ hin) hinit hnm hR) hpre rfl hlen' hsz hstack hroom hd ⟨hc1, hs1⟩
          · cases ho
        · cases ho
      · cases ho
    · rename_i idx
      split at ho
      · rename_i hk
        split at ho
        · rename_i hcond
          cases ho
          refine ⟨rfl, ?_⟩
          obtain ⟨hs0, hl⟩ := a_lk_stat hq hk hlk
          rcases hs0 with ⟨hs0, -⟩ | ⟨-, e⟩
          · obtain ⟨hcode, hst⟩ := s1' hs0
            have t3 : (st.take q.1.2.2.2.2.1).length = q.1.2.2.2.2.1 := by rw [List.length_take]; have := hcond.1; omega
            have hstack : (F0 m pc L (st.map (a_rn G))).stack = (((st.take q.1.2.2.2.2.1).reverse).map (a_rn G)).reverse ++ (st.drop q.1.2.2.2.2.1).map (a_rn G) := by
              show st.map (a_rn G) = _
              rw [a_rev, ← List.map_append, List.take_append_drop]
            have hpre : PreS s H (a_Pc G HA X (st.take q.1.2.2.2.2.1).reverse h) (((st.take q.1.2.2.2.2.1).reverse).map (a_rn G)) :=
              ⟨a_blind G HA X _ h, fun U hU hW => ⟨rfl, hK.warm hW, by rw [hU]; exact hr⟩⟩
            have hlen' : (((st.take q.1.2.2.2.2.1).reverse).map (a_rn G)).length = q.1.2.2.2.2.1 := by rw [List.length_map, List.length_reverse, t3]
            have hroom : 2 * (F0 m pc L (st.map (a_rn G))).monitorRoom + (((st.drop q.1.2.2.2.2.1).map (a_rn G)).map fun v => v.category).sum ≤ 8 := by
              show 2 * 0 + _ ≤ 8
              rw [a_wd_rn]; have := hcond.2.1; omega
            exact va_runS (Ts := a_good) (own := M.1.cls) ⟨hx, hb, hml, hown, hts⟩ hM (va_cwS q.1.2.2.2.2.1 hts (a_goodOf (by
              intro w hw
              simp only [va_wsS, List.mem_append, List.mem_cons, List.not_mem_nil, or_false] at hw
              rcases hw with (rfl | rfl | rfl) | hw
              · exact hl
              · exact hst
              · exact hini
              · exact a_wsM_in hcode w hw)) rfl rfl rfl hnm hR) hpre rfl hlen' hsz hstack hroom hd ⟨hc1, hs1⟩
          · exact absurd e hk20
        · cases ho
      · cases ho
    · cases ho
/-- behind a call -/
theorem a_sim_back {v : Option Value} (hr : va_Run p l e R s m args below meth c H locs cells slots mc ms (F0 m pc L st) rest (a_Qc G HA v h' as.toArray) (a_A G)) (hH : a_H0 G HA s) (hS : va_S (a_A G) s.heap H locs) 
    (kk : ∀ (H' : Heap) (locs' : List Loc), a_hr G HA h' H' → va_S (a_A G) s.heap H' locs' → W p l e R s m args below meth c H' locs' (cells + mc) (slots + ms) Q (F0 m (pc + 3) L ((v.map (a_rn G)).toList ++ rest))) : W p l e R s m args below meth c H locs cells slots Q (F0 m pc L st) := by
  intro T hT Y
  obtain ⟨v', st₀, t, T', L', h0, Y', hL', e1, e2, ⟨hv, hq, hsz⟩, stp⟩ := hr T hT Y
  cases hv
  have hz : s.heap.size ≤ T'.heap.size := by
    rw [e1]
    rw [h0] at hsz
    exact Nat.le_trans hS.1 hsz
  obtain ⟨t2, a1, b1⟩ := kk T'.heap (locs ++ L') (by rw [e1]; exact hq) ⟨hz, fun q g1 g2 => by
      rcases Nat.lt_or_ge q G.2.2.1 with z | z
      · rw [e1, hq.2.2.1 q z, hH.2 q z]
      · exact absurd z g2, fun q hq => by
      rcases List.mem_append.mp hq with z | z
      · exact hS.2.2 q z
      · exact hL' q z⟩ T' rfl Y'
  exact ⟨t2, stp t2 a1, b1⟩
end ACL
def a_end (v : Option Value) (h : aH) : aH × Nat × Nat := match v with
  | some (.retAddr _) => (h ++ [.inr (a_exc, [])], 1, 6)
  | _ => (h, 0, 0)
theorem a_end_no {v : Option Value} (hno : ∀ n : Nat, v = some (.retAddr n) → False) (h : aH) : a_end v h = (h, 0, 0) := by
  unfold a_end
  split
  · exact absurd rfl (hno _)
  · rfl
theorem a_more_s {c s : Nat} {r : Option aQ} {v : Option Value} {h : aH} {c' s' : Nat} (e : a_more c s r = some (v, h, c', s')) : ∃ c2 s2, r = some (v, h, c2, s2) ∧ c' = c + c2 ∧ s' = s + s2 := by
  unfold a_more at e
  split at e
  · cases e; exact ⟨_, _, rfl, rfl, rfl⟩
  · cases e
/-- what a walk needs of its method's frame, besides the instruction -/
def a_Cx (G : aG) (HA : Heap) (X : aX) (M : aM) (p : Program) (s : State) (m : MethodId) (args : Array Value) (meth : Method) (c : Code) : Prop := a_Fr M p s m args meth c ∧ a_Kn G HA X s ∧ a_H0 G HA s
theorem a_toList (G : aG) (v : Option Value) (r : List Value) : (v.map (a_rn G)).toList ++ r.map (a_rn G) = (v.toList ++ r).map (a_rn G) := by cases v <;> simp
theorem a_inv_in {P : List aM} {i : Instr} {k : aK} {st : List Value} {h : aH} {q : aM × List Value × List Value} (ho : a_inv P i k st h = some q) : q.1 ∈ P ∧ (a_entry q.2.1).length ≤ q.1.2.2.1 := by
  unfold a_inv at ho
  split at ho
  · cases ho
  · rename_i M0 hM0
    have hin := List.mem_of_getElem? hM0
    split at ho
    · split at ho
      · split at ho
        · split at ho
          · rename_i hc
            cases ho
            exact ⟨hin, hc.2.2⟩
          · cases ho
        · cases ho
      · cases ho
    · split at ho
      · split at ho
        · split at ho
          · rename_i hc
            cases ho
            exact ⟨hin, hc.2⟩
          · cases ho
        · cases ho
      · cases ho
    · split at ho
      · split at ho
        · rename_i hc
          cases ho
          exact ⟨hin, hc.2.2⟩
        · cases ho
      · cases ho
    · cases ho
theorem a_sl_len (G : aG) (as : List Value) : (lg_sl (as.map (a_rn G))).length = (a_entry as).length := by
  induction as with
  | nil => rfl
  | cons v vs ih =>
    have e : lg_sl ((v :: vs).map (a_rn G)) = (if (a_rn G v).category = 2 then [.val (a_rn G v), .second] else [.val (a_rn G v)]) ++ lg_sl (vs.map (a_rn G)) := by simp [lg_sl]
    rw [e, List.length_append, ih, a_rn_cat]
    show _ = (if v.category = 2 then some v :: none :: a_entry vs else some v :: a_entry vs).length
    by_cases hc : v.category = 2
    · rw [if_pos hc, if_pos hc]; simp only [List.length_cons, List.length_nil]; omega
    · rw [if_neg hc, if_neg hc]; simp only [List.length_cons, List.length_nil]; omega
theorem a_ent_len {as : List Value} {n : Nat} (h : (a_entry as).length ≤ n) : (a_ent as n).length = n := by
  simp only [a_ent, List.length_append, List.length_replicate]
  omega
theorem a_entry_lv (G : aG) : ∀ (as : List Value) (o i : Nat) (v : Value), (a_entry as)[i]? = some (some v) → (o + i, a_rn G v) ∈ lv_args o (as.map (a_rn G)) := by
  intro as
  induction as with
  | nil => intro o i v h; simp [a_entry] at h
  | cons w ws ih =>
    intro o i v h
    unfold a_entry at h
    show _ ∈ (o, a_rn G w) :: lv_args (if (a_rn G w).category = 2 then o + 2 else o + 1) (ws.map (a_rn G))
    rw [a_rn_cat]
    split at h
    · rename_i hc
      rw [if_pos hc]
      match i, h with
      | 0, h => cases h; exact List.mem_cons_self
      | 1, h => cases h
      | i + 2, h =>
        have := ih (o + 2) i v h
        rw [show o + (i + 2) = o + 2 + i by omega]
        exact List.mem_cons_of_mem _ this
    · rename_i hc
      rw [if_neg hc]
      match i, h with
      | 0, h => cases h; exact List.mem_cons_self
      | i + 1, h =>
        have := ih (o + 1) i v h
        rw [show o + (i + 1) = o + 1 + i by omega]
        exact List.mem_cons_of_mem _ this
theorem a_ent_lv (G : aG) (as : List Value) (n : Nat) : ∀ q ∈ a_lv G (a_ent as n), q ∈ lv_args 0 (as.map (a_rn G)) := by
  intro q hq
  obtain ⟨i, w⟩ := q
  obtain ⟨v, hv, rfl⟩ := a_lv_in.mp hq
  unfold a_ent at hv
  rcases Nat.lt_or_ge i (a_entry as).length with hi | hi
  · rw [List.getElem?_append_left hi] at hv
    have := a_entry_lv G as 0 i v hv
    rw [Nat.zero_add] at this
    exact this
  · rw [List.getElem?_append_right hi, List.getElem?_replicate] at hv
    split at hv <;> cases hv
/-- a method's end -/
theorem a_sim_fin {p : Program} {l : Launch} {e : Env} {R : Room} {s : State} {m : MethodId} {args : Array Value} {below : List Frame} {meth : Method} {c : Code} {H : Heap} {locs : List Loc} {cells slots : Nat} {Z : List aZ} {M : aM} {G : aG} {HA : Heap} {pc len : Nat} {i : Instr} {k : aK} {L : Array Slot} {h : aH} {st : List Value} {v : Option Value}
    (hx : p.tables.exec = Jvm.exec) (hb : c.code = M.2.1) (hrt : meth.sig.returnType = M.2.2.2.1) (hlocks : meth.locks = false) (hok : a_ok Z M pc i len k) (hret : a_ret i k M.2.2.2.1 st = some v) (hno : ∀ n : Nat, v = some (.retAddr n) → False) (hr : a_hr G HA h H) (hS : va_S (a_A G) s.heap H locs) :
    W p l e R s m args below meth c H locs cells slots (MQ below (a_Qc G HA v h) args s cells slots (a_A G)) (F0 m pc L (st.map (a_rn G))) := by
  obtain ⟨hd, hlen, -⟩ := hok
  rw [← hlen] at hd
  have hq : ∀ t : State, t.heap = H → s.WarmedH t.vm → a_Qc G HA v h args s (.returned (v.map (a_rn G))) t := fun t ht _ => ⟨rfl, by rw [ht]; exact hr, by rw [ht]; exact hS.1⟩
  unfold a_ret at hret
  split at hret
  · split at hret
    · rename_i x e1
      cases hret
      exact W.iret hx hb (hrt.trans e1) hq hS.2.2 hd hlocks
    · rename_i x e1
      split at hret
      · rename_i hn
        cases hret
        exact W.zret hx hb (hrt.trans e1) hn hq hS.2.2 hd hlocks
      · cases hret
    · rename_i x e1
      split at hret
      · rename_i hn
        cases hret
        exact W.zret hx hb (hrt.trans e1) hn hq hS.2.2 hd hlocks
      · cases hret
    · cases hret
  · split at hret
    · rename_i x e1
      cases hret
      exact W.lret hx hb (hrt.trans e1) hq hS.2.2 hd hlocks
    · cases hret
  · split at hret
    · rename_i e1
      cases hret
      exact W.vret hx hb (hrt.trans e1) hq hS.2.2 hd hlocks
    · cases hret
  · split at hret
    · split at hret
      · cases hret
        exact absurd rfl (hno 0)
      · cases hret
    · cases hret
  · cases hret
/-- a throw, with the world behind it -/
def a_XC (G : aG) (HA : Heap) (h : aH) : String → State → State → Prop := fun E st t => E = a_excN ∧ a_hr G HA h t.heap ∧ st.heap.size ≤ t.heap.size
theorem a_thr_s {M : aM} {pc idx : Nat} {k : aK} (h : a_thr M pc idx k = true) : Cond.classLink M.1.cls idx a_excN ∈ a_good ∧ M.1.cls = "OddsInCourt" ∧ decode M.2.1 (pc + 3) = .ok (.dup, 1) ∧ (∃ q ∈ a_strs, decode M.2.1 (pc + 4) = .ok (.ldc_w q.1, 3)) ∧ decode M.2.1 (pc + 7) = .ok (.invokespecial a_ic, 3) ∧ decode M.2.1 (pc + 10) = .ok (.athrow, 1) := by
  simp only [a_thr, Bool.and_eq_true, decide_eq_true_eq, List.any_eq_true] at h
  obtain ⟨⟨⟨⟨⟨h1, h2⟩, h3⟩, h4⟩, h5⟩, h6⟩ := h
  exact ⟨a_has_in h1, h2, h3, h4, h5, h6⟩
theorem a_excI : Cond.initialized a_excN ∈ a_good := a_has_in (j := a_excP) (by decide +kernel)
set_option maxRecDepth 20000 in
theorem a_atS_g : ∀ w ∈ a_atX.filter goodWord, w ∈ lw_tbl := by decide +kernel
set_option maxRecDepth 20000 in
theorem a_atS_n : ∀ w ∈ a_nest, w.onTables = true := by decide +kernel
set_option maxRecDepth 20000 in
theorem a_atS_o : ∀ w ∈ a_atX, vx_ot w = true := by decide +kernel
theorem a_atS_at {args : Array Value} {s : State} (hts : ∀ w ∈ a_good, w.before args s = true) (hn : ∀ w ∈ a_nest, va_Nw w s) : ∀ w ∈ a_atX, w.before args s = true := by
  intro w hw
  cases hg : goodWord w with
  | true => exact hts w (List.mem_filter.mpr ⟨a_atS_g w (List.mem_filter.mpr ⟨hw, hg⟩), hg⟩)
  | false =>
    have hin : w ∈ a_nest := List.mem_cons_of_mem _ (List.mem_filter.mpr ⟨hw, by rw [hg]; rfl⟩)
    exact va_Nw.use (a_atS_n w hin) (hn w hin)
theorem a_excCl : vwCl[13]? = some (a_excN, a_T [], 0) := rfl
set_option maxHeartbeats 1000000 in
/-- the throw of a method that is known to throw -/
theorem a_sim_thr {p : Program} {l : Launch} {e : Env} {R : Room} {s : State} {m : MethodId} {args : Array Value} {below : List Frame} {meth : Method} {c : Code} {H : Heap} {locs : List Loc} {cells slots mc ms : Nat} {Z : List aZ} {M : aM} {G : aG} {HA : Heap} {X : aX} {pc len : Nat} {i : Instr} {k : aK} {L : Array Slot} {h : aH} {st : List Value} {n : Nat} {Qc : Array Value → State → Outcome → State → Prop}
    (hl : l.stackTraces = false) (hC : a_Cx G HA X M p s m args meth c) (hnt : ∀ x ∈ c.exceptionTable.toList, False) (hok : a_ok Z M pc i len k) (hret : a_ret i k M.2.2.2.1 st = some (some (.retAddr n))) (hr : a_hr G HA h H) (hS : va_S (a_A G) s.heap H locs) (hsz : L.size = M.2.2.1)
    (hfr : 8 ≤ R.frames) (hlo : 200 ≤ R.locals) (hc : cells + 1 ≤ R.cells) (hs : slots + 6 ≤ R.slots) (hmc : cells + 1 ≤ mc) (hms : slots + 6 ≤ ms) :
    W p l e R s m args below meth c H locs cells slots (vx_MQ below Qc (a_XC G HA (h ++ [.inr (a_exc, [])])) args s mc ms (a_A G)) (F0 m pc L (st.map (a_rn G))) := by
  obtain ⟨⟨hx, hb, hrt, hml, hown, hlocks, hname, hts, -⟩, hK, hH⟩ := hC
  obtain ⟨hd, hlen, hlk⟩ := hok
  rw [← hlen] at hd
  unfold a_ret at hret
  split at hret
  · split at hret
    · cases hret
    · split at hret <;> cases hret
    · split at hret <;> cases hret
    · cases hret
  · split at hret <;> cases hret
  · split at hret <;> cases hret
  · rename_i idx
    split at hret
    · rename_i hk17
      split at hret
      · simp only [a_lk, hk17, if_true] at hlk
        obtain ⟨h1, h2, h3, ⟨q, hq, h4⟩, h5, h6⟩ := a_thr_s hlk
        obtain ⟨sa, hsa⟩ := hK.2.2.2.2.2.2.2.2.2 q hq
        have hU : vx_Zq Bundle.tN "UNASSIGNED_STACK" Bundle.steD (a_A G) s s.heap := hK.2.2.2.2.2.2.2.1.kept (fun a ha _ => hH.2 a (by rw [← hr.2.1]; exact ha))
        have hN : vx_Zq Bundle.tN "SUPPRESSED_SENTINEL" Bundle.listD (a_A G) s s.heap := hK.2.2.2.2.2.2.2.2.1.kept (fun a ha _ => hH.2 a (by rw [← hr.2.1]; exact ha))
        rw [h2] at hown h1
        refine a_throwSW (own := "OddsInCourt") (cls := a_excN) (names := a_excs) (ik := idx) (is := q.1) (ic := a_ic) (text := q.2) (sa := sa) (ix := 13) (rx := prog_22_method_4_code) (A := a_A G) hx hb hl (by decide +kernel) (by decide +kernel) (by decide +kernel) (by decide +kernel) hown (by decide +kernel) (by decide +kernel) (hts _ h1) (hts _ a_excI) hsa (a_atS_at hts hK.2.1) ?_ hU hN hS (by rw [hml]; exact hsz) hd h3 h4 h5 h6 (fun x hx => (hnt x hx).elim) (by show 2 + 3 < _; omega) (by show 0 + (13 * (2 + 1) + 43) ≤ _; omega) hc hs hlocks ?_ (fun z hz => hS.2.2 z hz) hmc hms
        · intro w hw
          rcases List.mem_cons.mp hw with e | hw
          · subst e; exact Bool.or_eq_true_iff.mpr (Or.inr (List.mem_filter.mp h1).2)
          · rcases List.mem_cons.mp hw with e | hw
            · subst e; exact Bool.or_eq_true_iff.mpr (Or.inr (List.mem_filter.mp a_excI).2)
            · exact a_atS_o w hw
        · intro t ce hal hz hce hcv hcl hold
          refine ⟨rfl, a_pushed hr hz hold ⟨_, a_excCl, ?_⟩, by rw [hz]; exact Nat.le_succ_of_le hS.1⟩
          have hC13 := (hK.1.1 13 _ a_excCl).2.1
          rw [hr.1] at hce
          exact ⟨ce, hce, (Option.some.inj (hC13.symm.trans hcl)).symm, hcv, fun k hk => absurd hk (Nat.not_lt_zero k)⟩
      · cases hret
    · cases hret
  · cases hret
theorem a_cat_s {M : aM} {pc hp : Nat} (h : a_cat M pc hp = true) : ∃ a b t, a_hh M.1 = [(a, b, hp, t)] ∧ a ≤ pc ∧ pc < b ∧ t ≠ 0 ∧ M.2.2.2.1 = some .int ∧ ∃ n len, (decode M.2.1 hp = .ok (.astore n, len) ∧ len = 2 ∨ ∃ z : Fin 4, (z : Nat) = n ∧ decode M.2.1 hp = .ok (.astore_n z, len) ∧ len = 1) ∧ n < M.2.2.1 ∧ M.2.2.2.2.2.lookup (hp + len) = some (.iconst 1, 1, 0, 0, 0, 0) ∧ M.2.2.2.2.2.lookup (hp + len + 1) = some (.ireturn, 1, 0, 0, 0, 0) := by
  unfold a_cat at h
  split at h
  · rename_i a b hh t e
    simp only [Bool.and_eq_true, decide_eq_true_eq] at h
    obtain ⟨⟨⟨⟨⟨h1, h2⟩, h3⟩, h4⟩, h5⟩, h6⟩ := h
    subst h3
    refine ⟨a, b, t, e, h1, h2, h4, h5, ?_⟩
    split at h6
    · rename_i n hd
      simp only [Bool.and_eq_true, decide_eq_true_eq] at h6
      exact ⟨n, 2, Or.inl ⟨hd, rfl⟩, h6.1.1, h6.1.2, h6.2⟩
    · rename_i n hd
      simp only [Bool.and_eq_true, decide_eq_true_eq] at h6
      exact ⟨n, 1, Or.inr ⟨n, rfl, hd, rfl⟩, h6.1.1, h6.1.2, h6.2⟩
    · cases h6
  · cases h
theorem a_inv_code {Z : List aZ} (hZ : a_ZOK Z) {M M' : aM} {pc : Nat} {i : Instr} {k : aK} {st : List Value} {h : aH} {as rest : List Value} {q : aZ} (ho : a_inv (Z.map Prod.fst) i k st h = some (M', as, rest)) (hlk : a_lk Z M pc i k = true) (hq : Z[k.2.1]? = some q) (hk20 : k.1 ≠ 20) : Cond.code q.1.1 q.1.2.1 q.1.2.2.1 q.1.2.2.2.1 ∈ a_good := by
  obtain ⟨-, -, -, -, s0, s1, s2, -⟩ := a_mb_s (hZ q (List.mem_of_getElem? hq)).1
  unfold a_inv at ho
  split at ho
  · cases ho
  · split at ho
    · exact (s0 (a_lk_virt hq hlk).1).1
    · split at ho
      · rename_i hk
        exact (s2 (a_lk_init hq hk hlk).1).1
      · cases ho
    · split at ho
      · rename_i hk
        rcases (a_lk_stat hq hk hlk).1 with ⟨e, -⟩ | ⟨-, e⟩
        · exact (s1 e).1
        · exact absurd e hk20
      · cases ho
    · cases ho
set_option maxHeartbeats 1000000 in
/-- an instruction that is no call and no end -/
theorem a_sim_op {p : Program} {l : Launch} {e : Env} {R : Room} {s : State} {m : MethodId} {args : Array Value} {below : List Frame} {meth : Method} {c : Code} {H : Heap} {locs : List Loc} {cells slots : Nat} {Q : State → Prop} {Z : List aZ} {M : aM} {G : aG} {HA : Heap} {X : aX} {pc len pc' : Nat} {i : Instr} {k : aK} {L : Array Slot} {ls ls' : aL} {h h' : aH} {st st' : List Value} {c1 s1 : Nat}
    (hC : a_Cx G HA X M p s m args meth c) (hok : a_ok Z M pc i len k) (ho : a_op X i len k pc ls st h = some (pc', ls', st', h', c1, s1)) (hr : a_hr G HA h H) (hS : va_S (a_A G) s.heap H locs) (hl : lv_has L M.2.2.1 (a_lv G ls)) (hll : ls.length = M.2.2.1) (hfr : 1 ≤ R.frames) (hlo : 200 ≤ R.locals) (hc1 : cells + c1 ≤ R.cells) (hs1 : slots + s1 ≤ R.slots)
    (kk : ∀ (H' : Heap) (locs' : List Loc) (L' : Array Slot), a_hr G HA h' H' → va_S (a_A G) s.heap H' locs' → lv_has L' M.2.2.1 (a_lv G ls') → ls'.length = M.2.2.1 → W p l e R s m args below meth c H' locs' (cells + c1) (slots + s1) Q (F0 m pc' L' (st'.map (a_rn G)))) : W p l e R s m args below meth c H locs cells slots Q (F0 m pc L (st.map (a_rn G))) := by
  obtain ⟨hF, hK, hH⟩ := hC
  unfold a_op at ho
  split at ho
  · rename_i q hq
    cases ho
    exact a_sim_stk hF hok hq (kk H locs L hr hS hl hll)
  · split at ho
    · rename_i ls2 st2 hq
      cases ho
      exact a_sim_loc hF hok hq hl hll (fun L' h1 h2 => kk H locs L' hr hS h1 h2)
    · split at ho
      · rename_i pc2 st2 hq
        cases ho
        exact a_sim_br hF hok hq (kk H locs L hr hS hl hll)
      · split at ho
        · rename_i st2 h2 c2 s2 hq
          cases ho
          obtain ⟨hd, hlen, hlk⟩ := hok
          rw [← hlen] at hd kk
          have hsz : L.size = M.2.2.1 := hl.1
          have kk' : ∀ (H' : Heap) (locs' : List Loc), a_hr G HA h' H' → va_S (a_A G) s.heap H' locs' → W p l e R s m args below meth c H' locs' (cells + c1) (slots + s1) Q (F0 m (pc + a_ln i len) L (st'.map (a_rn G))) := fun H' locs' h1 h2 => kk H' locs' L h1 h2 hl hll
          clear kk
          have hq0 := hq
          unfold a_hp at hq
          split at hq
          · exact a_sim_get hF hK hd hlk hr hS hq kk'
          · exact a_sim_put hF hK hd hlk hr hS hq kk'
          · exact a_sim_ald hF hK (Or.inl rfl) hd hr hS hq0 kk'
          · exact a_sim_ald hF hK (Or.inr (Or.inl rfl)) hd hr hS hq0 kk'
          · exact a_sim_ald hF hK (Or.inr (Or.inr rfl)) hd hr hS hq0 kk'
          · exact a_sim_lald hF hK hH hd hr hS hq kk'
          · exact a_sim_aald hF hK hd hr hS hq kk'
          · exact a_sim_ast hF hK (Or.inl rfl) hd hr hS hq0 kk'
          · exact a_sim_ast hF hK (Or.inr (Or.inl rfl)) hd hr hS hq0 kk'
          · exact a_sim_ast hF hK (Or.inr (Or.inr rfl)) hd hr hS hq0 kk'
          · exact a_sim_last hF hK hd hr hS hq kk'
          · exact a_sim_aast hF hK hd hr hS hq kk'
          · exact a_sim_len hF hK hH hd hr hS hq kk'
          · exact a_sim_newa hF hK hd hlk hr hS hq hc1 hs1 kk'
          · split at hq
            · rename_i hk
              exact a_sim_newq hF hK hk hd hlk hr hS hq hc1 hs1 kk'
            · cases hq
          · split at hq
            · rename_i hk
              exact a_sim_newm hF hK hk hd hlk hr hS hq hc1 hs1 kk'
            · cases hq
          · split at hq
            · rename_i hk
              exact a_sim_new hF hK hk hd hlk hr hS hq hc1 hs1 kk'
            · cases hq
          · split at hq
            · rename_i hk
              cases hq
              exact a_sim_sta hF hK hH hk hd hlk hr hS (kk' H locs hr hS)
            · cases hq
          · split at hq
            · rename_i hk
              split at hq
              · split at hq
                · rename_i hw
                  cases hq
                  exact a_sim_obj hF hk hd hlk hw hfr hlo hsz (kk' H locs hr hS)
                · cases hq
              · cases hq
            · cases hq
          · split at hq
            · rename_i hk
              split at hq
              · rename_i hw
                exact a_sim_copy hF hK hk hd hlk hr hS hsz hfr hlo hw hq kk'
              · cases hq
            · cases hq
          · cases hq
        · split at ho
          · rename_i st2 hq
            cases ho
            have hd := hok.1
            rw [← hok.2.1] at hd kk
            exact a_sim_scr hF hK hH hd hr hS hq (kk H locs L hr hS hl hll)
          · cases ho
/-- a method that catches is known by its table of handlers -/
def a_x18 (M : aM) : Prop := (Cond.codeWith M.1 M.2.1 M.2.2.1 M.2.2.2.1 (a_hh M.1) ∈ a_good ∧ ∃ a b h t, a_hh M.1 = [(a, b, h, t)] ∧ Cond.classLink M.1.cls t a_excN ∈ a_good) ∨ ∀ e ∈ M.2.2.2.2.2, e.2.2.2.1 ≠ 18
def a_Z18 (Z : List aZ) : Prop := ∀ q ∈ Z, q.2.1 = 3 ∨ ∀ e ∈ q.1.2.2.2.2.2, e.2.2.2.1 ≠ 18
theorem a_x18_of {Z : List aZ} (hZ : a_ZOK Z) (h18 : a_Z18 Z) {q : aZ} (hq : q ∈ Z) : a_x18 q.1 := by
  rcases h18 q hq with e | e
  · obtain ⟨-, -, -, -, -, -, -, s3⟩ := a_mb_s (hZ q hq).1
    exact Or.inl ⟨(s3 e).1, (s3 e).2.2⟩
  · exact Or.inr e
/-- a method's table of instructions is right -/
def a_okM (Z : List aZ) (M : aM) : Prop := ∀ (pc : Nat) (i : Instr) (len : Nat) (k : aK), M.2.2.2.2.2.lookup pc = some (i, len, k) → a_ok Z M pc i len k
theorem a_lookup_in {l : List (Nat × aI)} {pc : Nat} {q : aI} (h : l.lookup pc = some q) : (pc, q) ∈ l := by
  induction l with
  | nil => cases h
  | cons e t ih =>
    obtain ⟨n, x⟩ := e
    rw [List.lookup_cons] at h
    split at h
    · rename_i e1
      cases h
      rw [beq_iff_eq] at e1
      subst e1
      exact List.mem_cons_self
    · exact List.mem_cons_of_mem _ (ih h)
theorem a_okM_of {Z : List aZ} {M : aM} (h : ∀ e ∈ M.2.2.2.2.2, a_okb Z M e = true) : a_okM Z M := by
  intro pc i len k hl
  have h1 := h _ (a_lookup_in hl)
  simp only [a_okb, Bool.and_eq_true, decide_eq_true_eq] at h1
  exact ⟨h1.1.1, h1.1.2, h1.2⟩
theorem a_inv_Z {Z : List aZ} {i : Instr} {k : aK} {st : List Value} {h : aH} {M' : aM} {as rest : List Value} (ho : a_inv (Z.map Prod.fst) i k st h = some (M', as, rest)) : ∃ q ∈ Z, q.1 = M' ∧ Z[k.2.1]? = some q := by
  unfold a_inv at ho
  split at ho
  · cases ho
  · rename_i M0 hM0
    rw [List.getElem?_map] at hM0
    cases hq : Z[k.2.1]? with
    | none => rw [hq] at hM0; cases hM0
    | some q =>
      rw [hq] at hM0
      cases hM0
      refine ⟨q, List.mem_of_getElem? hq, ?_, rfl⟩
      split at ho
      · split at ho
        · split at ho
          · split at ho
            · cases ho; rfl
            · cases ho
          · cases ho
        · cases ho
      · split at ho
        · split at ho
          · split at ho
            · cases ho; rfl
            · cases ho
          · cases ho
        · cases ho
      · split at ho
        · split at ho
          · cases ho; rfl
          · cases ho
        · cases ho
      · cases ho
def a_wsW (M : aM) : List Cond := Cond.codeWith M.1 M.2.1 M.2.2.1 M.2.2.2.1 (a_hh M.1) :: a_good
set_option maxHeartbeats 1000000 in
/-- a call of a method with a table of handlers -/
theorem a_sim_run20 {p : Program} {l : Launch} {e : Env} {R : Room} {s : State} {m : MethodId} {args : Array Value} {below : List Frame} {meth : Method} {c : Code} {H : Heap} {locs : List Loc} {cells slots : Nat} {Z : List aZ} {M : aM} {G : aG} {HA : Heap} {X : aX} {pc len : Nat} {i : Instr} {k : aK} {L : Array Slot} {h : aH} {st rest as : List Value} {Qc : Array Value → State → Outcome → State → Prop} {mc ms d : Nat} {q : aZ}
    (hZ : a_ZOK Z) (hF : a_Fr M p s m args meth c) (hK : a_Kn G HA X s) (hok : a_ok Z M pc i len k) (hr : a_hr G HA h H) (hsz : L.size = M.2.2.1) (ho : a_inv (Z.map Prod.fst) i k st h = some (q.1, as, rest)) (hq : Z[k.2.1]? = some q) (hk20 : k.1 = 20) (hM : Met l q.1.1 (a_wsW q.1) (a_rm d mc ms) (a_Pc G HA X as h) Qc mc ms (a_A G)) (hfr : d + 9 ≤ R.frames) (hlo : 200 + 60 * (d + 1) ≤ R.locals) (hc1 : cells + mc ≤ R.cells) (hs1 : slots + ms ≤ R.slots) :
    a_ln i len = 3 ∧ va_Run p l e R s m args below meth c H locs cells slots mc ms (F0 m pc L (st.map (a_rn G))) (rest.map (a_rn G)) (Qc (as.map (a_rn G)).toArray) (a_A G) := by
  obtain ⟨hx, hb, -, hml, hown, -, -, hts, -⟩ := hF
  obtain ⟨hd, hlen, hlk⟩ := hok
  rw [← hlen] at hd
  unfold a_inv at ho
  split at ho
  · cases ho
  · rename_i M0 hM0
    rw [List.getElem?_map, hq] at hM0
    cases hM0
    obtain ⟨hL', hnm, hpl, hini, -, -, -, s3⟩ := a_mb_s (hZ q (List.mem_of_getElem? hq)).1
    have hR : (a_rm d mc ms).frames + 1 ≤ R.frames ∧ 8 + (q.1.2.2.1 + 11) + (a_rm d mc ms).locals ≤ R.locals := ⟨hfr, by show 8 + (q.1.2.2.1 + 11) + (200 + 60 * d) ≤ _; omega⟩
    split at ho
    · split at ho
      · rename_i hk
        rw [hk20] at hk
        rcases hk with e | e <;> cases e
      · cases ho
    · split at ho
      · rename_i hk
        rw [hk20] at hk
        cases hk
      · cases ho
    · rename_i idx
      split at ho
      · rename_i hk
        split at ho
        · rename_i hcond
          cases ho
          refine ⟨rfl, ?_⟩
          obtain ⟨hs0, hl⟩ := a_lk_stat hq hk hlk
          rcases hs0 with ⟨-, e⟩ | ⟨hs0, -⟩
          · rw [hk20] at e
            cases e
          · obtain ⟨hcode, hst, -⟩ := s3 hs0
            have t3 : (st.take q.1.2.2.2.2.1).length = q.1.2.2.2.2.1 := by rw [List.length_take]; have := hcond.1; omega
            have hstack : (F0 m pc L (st.map (a_rn G))).stack = (((st.take q.1.2.2.2.2.1).reverse).map (a_rn G)).reverse ++ (st.drop q.1.2.2.2.2.1).map (a_rn G) := by
              show st.map (a_rn G) = _
              rw [a_rev, ← List.map_append, List.take_append_drop]
            have hpre : PreS s H (a_Pc G HA X (st.take q.1.2.2.2.2.1).reverse h) (((st.take q.1.2.2.2.2.1).reverse).map (a_rn G)) :=
              ⟨a_blind G HA X _ h, fun U hU hW => ⟨rfl, hK.warm hW, by rw [hU]; exact hr⟩⟩
            have hlen' : (((st.take q.1.2.2.2.2.1).reverse).map (a_rn G)).length = q.1.2.2.2.2.1 := by rw [List.length_map, List.length_reverse, t3]
            have hroom : 2 * (F0 m pc L (st.map (a_rn G))).monitorRoom + (((st.drop q.1.2.2.2.2.1).map (a_rn G)).map fun v => v.category).sum ≤ 8 := by
              show 2 * 0 + _ ≤ 8
              rw [a_wd_rn]; have := hcond.2.1; omega
            exact vx_runSW (Ts := a_good) (own := M.1.cls) ⟨hx, hb, hml, hown, hts⟩ hM (vx_cwSW q.1.2.2.2.2.1 hts (a_goodOf (by
              intro w hw
              simp only [va_wsS, List.mem_append, List.mem_cons, List.not_mem_nil, or_false] at hw
              rcases hw with (rfl | rfl | rfl) | hw
              · exact hl
              · exact hst
              · exact hini
              · rcases List.mem_cons.mp hw with e | hw
                · rw [e]; exact hcode
                · exact hw)) rfl rfl rfl hnm hR) hpre rfl hlen' hsz hstack hroom hd ⟨hc1, hs1⟩
        · cases ho
      · cases ho
    · cases ho
set_option maxHeartbeats 2000000 in
/-- a call that throws, caught by its caller, which answers 1 -/
theorem a_sim_catch {l : Launch} (hlt : l.stackTraces = false) {Z : List aZ} (hZ : a_ZOK Z) {G : aG} {HA : Heap} {X : aX} {p : Program} {e : Env} {R : Room} {s : State} {m : MethodId} {args : Array Value} {below : List Frame} {meth : Method} {c : Code} {H : Heap} {locs : List Loc} {cells slots : Nat} {Q : State → Prop} {L : Array Slot} {M : aM} {pc len d' : Nat} {i : Instr} {k : aK} {ls : aL} {st as rest : List Value} {h h' : aH} {c' s' : Nat} {q : aZ}
    (hC : a_Cx G HA X M p s m args meth c) (hMP : a_okM Z M) (hx8 : a_x18 M) (hlook : M.2.2.2.2.2.lookup pc = some (i, len, k)) (hk18 : k.1 = 18) (hr : a_hr G HA h H) (hS : va_S (a_A G) s.heap H locs) (hl : lv_has L M.2.2.1 (a_lv G ls)) (hfr : d' + 1 + 8 ≤ R.frames) (hlo : 200 + 60 * (d' + 1) ≤ R.locals) (hcc : cells + c' ≤ R.cells) (hss : slots + s' ≤ R.slots)
    (hinv : a_inv (Z.map Prod.fst) i k st h = some (q.1, as, rest)) (hq : Z[k.2.1]? = some q)
    (hbody : ∀ p2 e2 s2 m2 args2 below2 meth2 cd2 s₁, BodyLoose p2 l q.1.1 (headSpec (a_wsM q.1) (a_rm d' c' s')) q.1.2.1 q.1.2.2.1 q.1.2.2.2.1 e2 s2 m2 args2 below2 meth2 cd2 s₁ → cd2.maxLocals = q.1.2.2.1 → (∀ x ∈ cd2.exceptionTable.toList, False) → a_Pc G HA X as h args2 s2 →
      W p2 l e2 (headSpec (a_wsM q.1) (a_rm d' c' s')).room s2 m2 args2 below2 meth2 cd2 s2.heap [] 0 0 (vx_MQ below2 (fun _ _ _ _ => False) (a_XC G HA h') args2 s2 c' s' (a_A G)) (entryFrame m2 args2 q.1.2.2.1))
    (fin : ∀ (pc1 : Nat) (i : Instr) (len : Nat) (k : aK) (st1 : List Value) (h1 : aH) (c1 s1 : Nat) (H1 : Heap) (locs1 : List Loc) (L1 : Array Slot), a_ok Z M pc1 i len k → a_ret i k M.2.2.2.1 st1 = some (some (.int 1)) → a_hr G HA h1 H1 → va_S (a_A G) s.heap H1 locs1 → L1.size = M.2.2.1 → h' = (a_end (some (.int 1)) h1).1 → c' = c1 + (a_end (some (.int 1)) h1).2.1 → s' = s1 + (a_end (some (.int 1)) h1).2.2 →
      W p l e R s m args below meth c H1 locs1 (cells + c1) (slots + s1) Q (F0 m pc1 L1 (st1.map (a_rn G)))) :
    W p l e R s m args below meth c H locs cells slots Q (F0 m pc L (st.map (a_rn G))) := by
  have hok := hMP pc i len k hlook
  obtain ⟨⟨hx, hb, hrt, hml, hown, hlocks, hname, hts, htab⟩, hK, hH⟩ := id hC
  obtain ⟨hd, hlen, hlk⟩ := hok
  rw [← hlen] at hd
  have hx8' : Cond.codeWith M.1 M.2.1 M.2.2.1 M.2.2.2.1 (a_hh M.1) ∈ a_good ∧ ∃ a b h t, a_hh M.1 = [(a, b, h, t)] ∧ Cond.classLink M.1.cls t a_excN ∈ a_good := by
    rcases hx8 with e | e
    · exact e
    · exact absurd hk18 (e _ (a_lookup_in hlook))
  obtain ⟨hcw, a0, b0, h0, t0, ehh, hlinkT⟩ := hx8'
  unfold a_inv at hinv
  split at hinv
  · cases hinv
  · rename_i M0 hM0
    rw [List.getElem?_map, hq] at hM0
    cases hM0
    split at hinv
    · rename_i idx
      split at hinv
      · split at hinv
        · rename_i v r hdr
          split at hinv
          · rename_i hcond
            cases hinv
            obtain ⟨t1, t2, t3⟩ := a_take hdr
            obtain ⟨hs0, hlk1, ⟨T, N, hcl⟩, hcat⟩ := a_lk_virt hq hlk
            obtain ⟨hL', hnm, hpl, hini, s0, -⟩ := a_mb_s (hZ q (List.mem_of_getElem? hq)).1
            obtain ⟨hcode, hin, hsel⟩ := s0 hs0
            obtain ⟨a1, b1, tt, ehh2, hle1, hlt1, ht0, hrint, n0, ln0, hdec, hn0, hlk2, hlk3⟩ := a_cat_s (hcat hk18)
            have hMx : vx_Met l q.1.1 (a_wsM q.1) (a_rm d' c' s') (a_Pc G HA X (v :: (st.take q.1.2.2.2.2.1).reverse) h) (fun _ _ _ _ => False) (a_XC G HA h') c' s' (a_A G) := vx_ofW hpl rfl hbody
            unfold a_recv at hcond
            obtain ⟨hrc, hw, -⟩ := hcond
            split at hrc
            · rename_i o
              split at hrc
              · rename_i ci fs hcell
                have hci : ci = k.2.2.1 := of_decide_eq_true hrc
                subst hci
                have hstack : (F0 m pc L (st.map (a_rn G))).stack = (((st.take q.1.2.2.2.2.1).reverse).map (a_rn G)).reverse ++ .ref (G.2.2.1 + o) :: rest.map (a_rn G) := by
                  show st.map (a_rn G) = _
                  rw [a_rev]
                  conv => lhs; rw [t2]
                  rw [List.map_append]
                  rfl
                have hrecv := va_recv hK.1 hr.2.2.2 hcl (a_ws_of hcell)
                have hpre : PreV s H q.1.1.cls (G.2.2.1 + o) (a_Pc G HA X (.ref (o + 2) :: (st.take q.1.2.2.2.2.1).reverse) h) (((st.take q.1.2.2.2.2.1).reverse).map (a_rn G)) :=
                  ⟨a_blind G HA X _ h, hrecv, fun U hU hW => ⟨rfl, hK.warm hW, by rw [hU]; exact hr⟩⟩
                have hlen' : (((st.take q.1.2.2.2.2.1).reverse).map (a_rn G)).length = q.1.2.2.2.2.1 := by rw [List.length_map, List.length_reverse, t3]
                have hroom : 2 * (F0 m pc L (st.map (a_rn G))).monitorRoom + ((rest.map (a_rn G)).map fun v => v.category).sum ≤ 8 := by
                  show 2 * 0 + _ ≤ 8
                  rw [a_wd_rn]; omega
                have hR : (a_rm d' c' s').frames + 1 ≤ R.frames ∧ 8 + (q.1.2.2.1 + 11) + (a_rm d' c' s').locals ≤ R.locals := ⟨by show d' + 8 + 1 ≤ _; omega, by show 8 + (q.1.2.2.1 + 11) + (200 + 60 * d') ≤ _; omega⟩
                have hrun := vx_runV (e := e) (below := below) (meth := meth) (locs := locs) (cells := cells) (slots := slots) (Ts := a_good) (own := M.1.cls) (C := q.1.1.cls) ⟨hx, hb, hml, hown, hts⟩ hMx (cwV q.1.2.2.2.2.1 hts (a_goodOf (by
                    intro w hw
                    simp only [wsV, List.mem_append, List.mem_cons, List.not_mem_nil, or_false] at hw
                    rcases hw with (rfl | rfl | rfl | rfl) | hw
                    · exact hlk1
                    · exact hin
                    · exact hsel
                    · exact hini
                    · exact a_wsM_in hcode w hw)) rfl rfl rfl ⟨rfl, hnm⟩ hR) hpre rfl hlen' hl.1 hstack hroom hd ⟨hcc, hss⟩
                intro T0 hT0 Y
                rcases hrun T0 hT0 Y with ⟨v', st₀, t, T', L', -, -, -, -, -, hf, -⟩ | ⟨qx, st₀, t, T', L', E, ce, hh0, Y', hL', e1, e2, ⟨hE, hq1, hq2⟩, hce, hcv, hclE, stp⟩
                · exact hf.elim
                · subst hE
                  rw [ehh] at ehh2
                  cases ehh2
                  have hS' : va_S (a_A G) s.heap T'.heap (locs ++ L') := by
                    rw [hh0] at hq2
                    refine ⟨by rw [e1]; exact Nat.le_trans hS.1 hq2, fun z g1 g2 => ?_, fun z hz => ?_⟩
                    · rcases Nat.lt_or_ge z G.2.2.1 with y | y
                      · rw [e1, hq1.2.2.1 z y, hH.2 z y]
                      · exact absurd y g2
                    · rcases List.mem_append.mp hz with y | y
                      · exact hS.2.2 z y
                      · exact hL' z y
                  have hr' : a_hr G HA h' T'.heap := by rw [e1]; exact hq1
                  have hend : ∀ L1 : Array Slot, L1.size = M.2.2.1 → W p l e R s m args below meth c T'.heap (locs ++ L') (cells + c') (slots + s') Q (F0 m (k.2.2.2.toNat / 100000 + ln0) L1 []) := by
                    intro L1 hL1
                    have hoki := hMP _ _ _ _ hlk2
                    have hokr := hMP _ _ _ _ hlk3
                    refine lv_iconst (v := 1) hx hb hoki.1 (by decide) ?_
                    exact fin _ _ _ _ [.int 1] h' c' s' T'.heap (locs ++ L') L1 hokr (by rw [hrint]; rfl) hr' hS' hL1 rfl rfl rfl
                  have hcatch : vx_W p l e R s m args below meth c T'.heap (locs ++ L') (cells + c') (slots + s') Q (F0 m pc L (rest.map (a_rn G))) qx := by
                    refine vx_catch (own := M.1.cls) (name := a_excN) (E := a_excN) (ce := ce) hown [] ⟨a0, b0, k.2.2.2.toNat / 100000, t0⟩ [] (by rw [htab _ hcw, ehh]; rfl) (fun z hz => by cases hz) (by simp only [covers, Bool.and_eq_true, decide_eq_true_eq]; exact ⟨hle1, hlt1⟩) ht0 (hts _ hlinkT) (va_Nw.use rfl (hK.2.1 _ List.mem_cons_self)) (by rw [e1]; exact hce) hcv hclE ?_
                    rcases hdec with ⟨hd1, e9⟩ | ⟨z, hz, hd1, e9⟩
                    · subst e9
                      exact lv_astore hx hb hd1 hl (by omega) rfl (fun L1 h1 => hend L1 h1.1)
                    · subst e9
                      exact lv_astore_n hx hb hd1 hz hl (by omega) rfl (fun L1 h1 => hend L1 h1.1)
                  obtain ⟨t9, a9, b9⟩ := hcatch T' rfl Y'
                  exact ⟨t9, stp.trans a9, b9⟩
              · cases hrc
            · cases hrc
          · cases hinv
        · cases hinv
      · cases hinv
    · split at hinv
      · rename_i hk
        rw [hk18] at hk
        cases hk
      · cases hinv
    · split at hinv
      · rename_i hk
        rw [hk18] at hk
        rcases hk with e | e <;> cases e
      · cases hinv
    · cases hinv
set_option maxHeartbeats 1000000 in
/-- THE WALK OF A METHOD'S BODY, out of its run on paper -/
theorem a_sim {l : Launch} (hlt : l.stackTraces = false) {Z : List aZ} (hZ : a_ZOK Z) (h18 : a_Z18 Z) {G : aG} {HA : Heap} {X : aX} : ∀ (f d : Nat) (M : aM) (pc : Nat) (ls : aL) (st : List Value) (h : aH) (v : Option Value) (h' : aH) (c' s' : Nat), a_okM Z M → a_x18 M → aexec (Z.map Prod.fst) X f d M pc ls st h = some (v, h', c', s') →
    ∀ {p : Program} {e : Env} {R : Room} {s : State} {m : MethodId} {args : Array Value} {below : List Frame} {meth : Method} {c : Code} {H : Heap} {locs : List Loc} {cells slots : Nat} {Q : State → Prop} {L : Array Slot},
    a_Cx G HA X M p s m args meth c → a_hr G HA h H → va_S (a_A G) s.heap H locs → lv_has L M.2.2.1 (a_lv G ls) → ls.length = M.2.2.1 → d + 8 ≤ R.frames → 200 + 60 * d ≤ R.locals → cells + c' ≤ R.cells → slots + s' ≤ R.slots →
    (∀ (pc1 : Nat) (i : Instr) (len : Nat) (k : aK) (st1 : List Value) (h1 : aH) (c1 s1 : Nat) (H1 : Heap) (locs1 : List Loc) (L1 : Array Slot), a_ok Z M pc1 i len k → a_ret i k M.2.2.2.1 st1 = some v → a_hr G HA h1 H1 → va_S (a_A G) s.heap H1 locs1 → L1.size = M.2.2.1 → h' = (a_end v h1).1 → c' = c1 + (a_end v h1).2.1 → s' = s1 + (a_end v h1).2.2 →
      W p l e R s m args below meth c H1 locs1 (cells + c1) (slots + s1) Q (F0 m pc1 L1 (st1.map (a_rn G)))) →
    W p l e R s m args below meth c H locs cells slots Q (F0 m pc L (st.map (a_rn G))) := by
  intro f
  induction f with
  | zero => intro d M pc ls st h v h' c' s' _ _ he; cases he
  | succ f ih =>
    intro d M pc ls st h v h' c' s' hMP hx8 he p e R s m args below meth c H locs cells slots Q L hC hr hS hl hll hfr hlo hcc hss fin
    unfold aexec at he
    split at he
    · cases he
    · rename_i i len k hlook
      have hok : a_ok Z M pc i len k := hMP pc i len k hlook
      split at he
      · rename_i pc2 ls2 st2 h2 c2 s2 hop
        obtain ⟨c3, s3, he2, rfl, rfl⟩ := a_more_s he
        refine a_sim_op hC hok hop hr hS hl hll (by omega) (by omega) (by omega) (by omega) (fun H' locs' L' g1 g2 g3 g4 => ?_)
        refine ih d M pc2 ls2 st2 h2 v h' c3 s3 hMP hx8 he2 hC g1 g2 g3 g4 hfr hlo (by omega) (by omega) (fun pc1 i1 len1 k1 st1 h1 c1 s1 H1 locs1 L1 q1 q2 q3 q4 q5 q6 q7 q8 => ?_)
        have := fin pc1 i1 len1 k1 st1 h1 (c2 + c1) (s2 + s1) H1 locs1 L1 q1 q2 q3 q4 q5 q6 (by omega) (by omega)
        rw [Nat.add_assoc, Nat.add_assoc]
        exact this
      · split at he
        · rename_i v1 hret
          split at he
          · cases he
            exact fin pc i len k st h 0 0 H locs L hok hret hr hS hl.1 rfl rfl rfl
          · rename_i hno
            cases he
            have hE := a_end_no hno h
            exact fin pc i len k st h 0 0 H locs L hok hret hr hS hl.1 (by rw [hE]) (by rw [hE]; rfl) (by rw [hE]; rfl)
        · split at he
          · cases he
          · rename_i M' as rest hinv
            split at he
            · cases he
            · rename_i d'
              split at he
              · cases he
              · rename_i v1 h1 c1 s1 hcall
                split at he
                · rename_i n
                  split at he
                  · rename_i hk18
                    cases he
                    obtain ⟨q, hqZ, rfl, hq⟩ := a_inv_Z hinv
                    exact a_sim_catch hlt hZ hC hMP hx8 hlook hk18 hr hS hl hfr hlo hcc hss hinv hq (fun p2 e2 s2 m2 args2 below2 meth2 cd2 s₁ B hml hnt hv => by
                      obtain ⟨hL', hnm, hpl, -⟩ := a_mb_s (hZ q hqZ).1
                      obtain ⟨rfl, hK2, hr2⟩ := hv
                      have hts := atoms_spec (ws := a_wsM q.1) B.pre
                      have hsz : (lg_sl (as.map (a_rn G))).length ≤ q.1.2.2.1 := by rw [a_sl_len]; exact (a_inv_in hinv).2
                      have hl2 := lv_entry (as.map (a_rn G)) hsz
                      rw [lg_entry_eq]
                      generalize (lg_sl (as.map (a_rn G)) ++ List.replicate (q.1.2.2.1 - (lg_sl (as.map (a_rn G))).length) Slot.unset).toArray = L2 at hl2 ⊢
                      have hH2 : a_H0 G HA s2 := ⟨by rw [hr2.1]; exact Nat.le_add_right _ _, hr2.2.2.1⟩
                      have hC2 : a_Cx G HA X q.1 p2 s2 m2 (as.map (a_rn G)).toArray meth2 cd2 := ⟨⟨B.exec, B.bytes, B.returns, hml, findClass_of_methodNamed B.named, B.notSynchronized, (name_of_methodNamed B.named B.method).1, fun w hw => hts w (List.mem_cons_of_mem _ hw), fun hh hw => vx_table (x := q.1.1) B (hts _ (List.mem_cons_of_mem _ hw))⟩, hK2, hH2⟩
                      refine ih d' q.1 0 (a_ent as q.1.2.2.1) [] h _ h' c' s' (a_okM_of (hZ q hqZ).2) (a_x18_of hZ h18 hqZ) hcall (R := (headSpec (a_wsM q.1) (a_rm d' c' s')).room) (locs := []) (cells := 0) (slots := 0) hC2 hr2 va_S.rf (a_lv_has hl2 (a_ent_lv G as q.1.2.2.1)) (a_ent_len (a_inv_in hinv).2) (Nat.le_refl _) (Nat.le_refl _) (by show 0 + c' ≤ c'; omega) (by show 0 + s' ≤ s'; omega) ?_
                      intro pc1 i1 len1 k1 st1 h2 c2 s2' H1 locs1 L1 q1 q2 q3 q4 q5 q6 q7 q8
                      subst q6
                      have q7' : c' = c2 + 1 := q7
                      have q8' : s' = s2' + 6 := q8
                      subst q7'; subst q8'
                      rw [Nat.zero_add, Nat.zero_add]
                      exact a_sim_thr hlt hC2 hnt q1 q2 q3 q4 q5 (by show 8 ≤ d' + 8; omega) (by show 200 ≤ 200 + 60 * d'; omega) (Nat.le_refl _) (Nat.le_refl _) (Nat.le_refl _) (Nat.le_refl _)) fin
                  · cases he
                · rename_i hno
                  obtain ⟨c3, s3, he2, rfl, rfl⟩ := a_more_s he
                  obtain ⟨q, hqZ, rfl, hq⟩ := a_inv_Z hinv
                  have hMP' : a_okM Z q.1 := a_okM_of (hZ q hqZ).2
                  by_cases hk20 : k.1 = 20
                  · have hM : Met l q.1.1 (a_wsW q.1) (a_rm d' c1 s1) (a_Pc G HA X as h) (a_Qc G HA v1 h1) c1 s1 (a_A G) := by
                      obtain ⟨hL', hnm, hpl, -⟩ := a_mb_s (hZ q hqZ).1
                      refine a_MetWT (hh := a_hh q.1.1) (cc := q.1.2.1) (maxL := q.1.2.2.1) (ret := q.1.2.2.2.1) hpl rfl ?_
                      intro p2 e2 s2 m2 args2 below2 meth2 cd2 s₁ B hml hv
                      obtain ⟨rfl, hK2, hr2⟩ := hv
                      have hts := atoms_spec (ws := a_wsW q.1) B.pre
                      have hsz : (lg_sl (as.map (a_rn G))).length ≤ q.1.2.2.1 := by rw [a_sl_len]; exact (a_inv_in hinv).2
                      have hl2 := lv_entry (as.map (a_rn G)) hsz
                      rw [lg_entry_eq]
                      generalize (lg_sl (as.map (a_rn G)) ++ List.replicate (q.1.2.2.1 - (lg_sl (as.map (a_rn G))).length) Slot.unset).toArray = L2 at hl2 ⊢
                      have hH2 : a_H0 G HA s2 := ⟨by rw [hr2.1]; exact Nat.le_add_right _ _, hr2.2.2.1⟩
                      refine ih d' q.1 0 (a_ent as q.1.2.2.1) [] h v1 h1 c1 s1 hMP' (a_x18_of hZ h18 hqZ) hcall (R := (headSpec (a_wsW q.1) (a_rm d' c1 s1)).room) (locs := []) (cells := 0) (slots := 0) ⟨⟨B.exec, B.bytes, B.returns, hml, findClass_of_methodNamed B.named, B.notSynchronized, (name_of_methodNamed B.named B.method).1, fun w hw => hts w (List.mem_cons_of_mem _ hw), fun hh hw => vx_table (x := q.1.1) B (hts _ (List.mem_cons_of_mem _ hw))⟩, hK2, hH2⟩ hr2 va_S.rf (a_lv_has hl2 (a_ent_lv G as q.1.2.2.1)) (a_ent_len ((a_inv_in hinv).2)) (Nat.le_refl _) (Nat.le_refl _) (by show 0 + c1 ≤ c1; omega) (by show 0 + s1 ≤ s1; omega) ?_
                      intro pc1 i1 len1 k1 st1 h2 c2 s2' H1 locs1 L1 q1 q2 q3 q4 q5 q6 q7 q8
                      have hE := a_end_no hno h2
                      rw [hE] at q6 q7 q8
                      subst q6
                      have q7' : c1 = c2 := q7
                      have q8' : s1 = s2' := q8
                      subst q7'; subst q8'
                      rw [Nat.zero_add, Nat.zero_add]
                      exact a_sim_fin B.exec B.bytes B.returns B.notSynchronized q1 q2 hno q3 q4
                    obtain ⟨hl3, hrun⟩ := a_sim_run20 hZ (cells := cells) (slots := slots) (below := below) (locs := locs) (R := R) (e := e) hC.1 hC.2.1 hok hr hl.1 hinv hq hk20 hM (by omega) (by omega) (by omega) (by omega)
                    refine a_sim_back hrun hC.2.2 hS (fun H' locs' g1 g2 => ?_)
                    have h3 : len = 3 := by rw [← hok.2.1]; exact hl3
                    subst h3
                    rw [a_toList]
                    refine ih (d' + 1) M (pc + 3) ls (v1.toList ++ rest) h1 v h' c3 s3 hMP hx8 he2 hC g1 g2 hl hll hfr hlo (by omega) (by omega) (fun pc1 i1 len1 k1 st1 h2 c2 s2 H1 locs1 L1 q1 q2 q3 q4 q5 q6 q7 q8 => ?_)
                    have := fin pc1 i1 len1 k1 st1 h2 (c1 + c2) (s1 + s2) H1 locs1 L1 q1 q2 q3 q4 q5 q6 (by omega) (by omega)
                    rw [Nat.add_assoc, Nat.add_assoc]
                    exact this
                  · have hcode : Cond.code q.1.1 q.1.2.1 q.1.2.2.1 q.1.2.2.2.1 ∈ a_good := a_inv_code hZ hinv hok.2.2 hq hk20
                    have hM : Met l q.1.1 (a_wsM q.1) (a_rm d' c1 s1) (a_Pc G HA X as h) (a_Qc G HA v1 h1) c1 s1 (a_A G) := by
                      obtain ⟨hL', hnm, hpl, -⟩ := a_mb_s (hZ q hqZ).1
                      refine a_MetofW (cc := q.1.2.1) (maxL := q.1.2.2.1) (ret := q.1.2.2.2.1) hpl rfl ?_
                      intro p2 e2 s2 m2 args2 below2 meth2 cd2 s₁ B hml hv
                      obtain ⟨rfl, hK2, hr2⟩ := hv
                      have hts := atoms_spec (ws := a_wsM q.1) B.pre
                      have hsz : (lg_sl (as.map (a_rn G))).length ≤ q.1.2.2.1 := by rw [a_sl_len]; exact (a_inv_in hinv).2
                      have hl2 := lv_entry (as.map (a_rn G)) hsz
                      rw [lg_entry_eq]
                      generalize (lg_sl (as.map (a_rn G)) ++ List.replicate (q.1.2.2.1 - (lg_sl (as.map (a_rn G))).length) Slot.unset).toArray = L2 at hl2 ⊢
                      have hH2 : a_H0 G HA s2 := ⟨by rw [hr2.1]; exact Nat.le_add_right _ _, hr2.2.2.1⟩
                      refine ih d' q.1 0 (a_ent as q.1.2.2.1) [] h v1 h1 c1 s1 hMP' (a_x18_of hZ h18 hqZ) hcall (R := (headSpec (a_wsM q.1) (a_rm d' c1 s1)).room) (locs := []) (cells := 0) (slots := 0) ⟨⟨B.exec, B.bytes, B.returns, hml, findClass_of_methodNamed B.named, B.notSynchronized, (name_of_methodNamed B.named B.method).1, fun w hw => hts w (List.mem_cons_of_mem _ hw), fun hh hw => vx_table (x := q.1.1) B (hts _ (List.mem_cons_of_mem _ hw))⟩, hK2, hH2⟩ hr2 va_S.rf (a_lv_has hl2 (a_ent_lv G as q.1.2.2.1)) (a_ent_len ((a_inv_in hinv).2)) (Nat.le_refl _) (Nat.le_refl _) (by show 0 + c1 ≤ c1; omega) (by show 0 + s1 ≤ s1; omega) ?_
                      intro pc1 i1 len1 k1 st1 h2 c2 s2' H1 locs1 L1 q1 q2 q3 q4 q5 q6 q7 q8
                      have hE := a_end_no hno h2
                      rw [hE] at q6 q7 q8
                      subst q6
                      have q7' : c1 = c2 := q7
                      have q8' : s1 = s2' := q8
                      subst q7'; subst q8'
                      rw [Nat.zero_add, Nat.zero_add]
                      exact a_sim_fin B.exec B.bytes B.returns B.notSynchronized q1 q2 hno q3 q4
                    obtain ⟨hl3, hrun⟩ := a_sim_run hZ (cells := cells) (slots := slots) (below := below) (locs := locs) (R := R) (e := e) hC.1 hC.2.1 hok hr hl.1 hinv hk20 hM (by omega) (by omega) (by omega) (by omega)
                    refine a_sim_back hrun hC.2.2 hS (fun H' locs' g1 g2 => ?_)
                    have h3 : len = 3 := by rw [← hok.2.1]; exact hl3
                    subst h3
                    rw [a_toList]
                    refine ih (d' + 1) M (pc + 3) ls (v1.toList ++ rest) h1 v h' c3 s3 hMP hx8 he2 hC g1 g2 hl hll hfr hlo (by omega) (by omega) (fun pc1 i1 len1 k1 st1 h2 c2 s2 H1 locs1 L1 q1 q2 q3 q4 q5 q6 q7 q8 => ?_)
                    have := fin pc1 i1 len1 k1 st1 h2 (c1 + c2) (s1 + s2) H1 locs1 L1 q1 q2 q3 q4 q5 q6 (by omega) (by omega)
                    rw [Nat.add_assoc, Nat.add_assoc]
                    exact this
