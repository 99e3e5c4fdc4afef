/-! ===== v2: templates at cuts ===== -/
/-- where names come from (0 a local, 1 a field, 2 a name of the method's entry); bounds; differences; locals -/
abbrev zT : Type := List (Nat × Nat) × List zI × List (Nat × Nat × Int) × zL
def z_tG (n : Nat) (bs : List zI) : List (Nat × zI) := match bs with
  | [] => []
  | b :: r => (n, b) :: z_tG (n + 1) r
def z_tov (n : Nat) (src : List (Nat × Nat)) : zV := match src with
  | [] => []
  | (t, key) :: r => if t = 1 then (key, .inr (n, 0)) :: z_tov (n + 1) r else z_tov (n + 1) r
def z_tf (T : zT) : zF := (z_tG 0 T.2.1, T.2.2.1, [], [])
/-- a state that is as a template says, by these values of its names -/
def z_tm (J : aH → Prop) (D : Nat → Option zC) (ms : List Nat) (ρ : zR) (H0 H : aH) (ls : aL) (T : zT) : Prop := ρ.length = T.2.1.length ∧ z_sat ρ (z_tf T) ∧ z_nl ρ T.2.2.2 ∧ z_ovk ρ (z_tov 0 T.1) ∧ z_hr J D ρ (z_tov 0 T.1) H ∧ z_frm D ms H0 H ∧ a_lle (z_ls ρ T.2.2.2) ls
def z_src (ov : zV) (ls : zL) (gh : List zO) (s : Nat × Nat) : Option zO := if s.1 = 0 then (match ls[s.2]? with
  | some o => o
  | none => none) else if s.1 = 1 then ov.lookup s.2 else gh[s.2]?
def z_ops (ov : zV) (ls : zL) (gh : List zO) : List (Nat × Nat) → Option (List zO)
  | [] => some []
  | s :: r => match z_src ov ls gh s, z_ops ov ls gh r with
    | some o, some l => some (o :: l)
    | _, _ => none
def z_b1 (f : zF) (o : zO) (a : zI) : Bool := if a.1 = 1 then z_bt f o a.2.1 a.2.2 else if a.1 = 2 then (match z_lb f o with
  | some x => decide (a.2.1 ≤ x.1) && decide (x.2 ≤ a.2.2)
  | none => false) else false
def z_bs (f : zF) : List zO → List zI → Bool
  | [], [] => true
  | o :: r, a :: t => z_b1 f o a && z_bs f r t
  | _, _ => false
def z_ds (f : zF) (mp : List zO) (l : List (Nat × Nat × Int)) : Bool := l.all (fun q => match mp[q.1]?, mp[q.2.1]? with
  | some a, some b => z_le f a b q.2.2
  | _, _ => false)
/-- a field is as it is declared -/
def z_d0 (D : Nat → Option zC) (f : zF) (key : Nat) (x : zO) : Bool := match D (key / 128) with
  | some (.inr (.inl (_, ks))) => match ks[key % 128]? with
    | some (.inl a) => z_b1 f x a
    | some (.inr r) => decide (x = .inl (.ref r))
    | none => true
  | _ => true
def z_dcl (D : Nat → Option zC) (f : zF) (ov : zV) (src : List (Nat × Nat)) : Bool := ov.all (fun q => src.elem (1, q.1) || (match ov.lookup q.1 with
  | some x => z_d0 D f q.1 x
  | none => true))
def z_lc1 (src : List (Nat × Nat)) (ls : zL) (i : Nat) (o : Option zO) : Bool := match o with
  | none => true
  | some (.inl w) => decide (ls[i]? = some (some (.inl w)))
  | some (.inr (t, n)) => decide (n = 0) && decide (src[t]? = some (0, i))
def z_lcs (src : List (Nat × Nat)) (ls : zL) (n : Nat) : zL → Bool
  | [] => true
  | o :: r => z_lc1 src ls n o && z_lcs src ls (n + 1) r
def z_match (D : Nat → Option zC) (f : zF) (ov : zV) (ls : zL) (gh : List zO) (T : zT) : Option (List zO) := match z_ops ov ls gh T.1 with
  | some mp => if z_bs f mp T.2.1 && z_ds f mp T.2.2.1 && z_dcl D f ov T.1 && z_lcs T.1 ls 0 T.2.2.2 && decide (T.2.2.2.length = ls.length) then some mp else none
  | none => none
section ZM
variable {J : aH → Prop} {D : Nat → Option zC} {ρ : zR} {f : zF} {ov : zV} {H H0 : aH} {ms : List Nat} {ls : zL} {gh : List zO}
theorem z_b1_ok (hs : z_sat ρ f) {o : zO} {a : zI} (h : z_b1 f o a = true) : z_in a (z_v ρ o) := by
  unfold z_b1 at h
  split at h
  · rename_i h1
    obtain ⟨x, e, b⟩ := z_bt_ok hs h
    exact Or.inl ⟨h1, x, e, b⟩
  · split at h
    · rename_i h2
      split at h
      · rename_i y hy
        obtain ⟨x, e, -, b1, b2⟩ := z_lb_el hs hy
        simp only [Bool.and_eq_true, decide_eq_true_eq] at h
        exact Or.inr ⟨h2, x, e, by omega, by omega⟩
      · cases h
    · cases h
theorem z_in_nn {a : zI} {w : Value} (h : z_in a w) : w ≠ .null := by rcases h with ⟨_, x, rfl, _⟩ | ⟨_, x, rfl, _⟩ <;> exact fun q => by cases q
theorem z_bs_ok (hs : z_sat ρ f) : ∀ {mp : List zO} {bs : List zI}, z_bs f mp bs = true → mp.length = bs.length ∧ ∀ (k : Nat) (a : zI), bs[k]? = some a → ∃ o, mp[k]? = some o ∧ z_in a (z_v ρ o)
  | [], [], _ => ⟨rfl, fun k a h => by cases h⟩
  | o :: r, a :: t, h => by
    unfold z_bs at h
    simp only [Bool.and_eq_true] at h
    obtain ⟨h1, h2⟩ := z_bs_ok hs h.2
    refine ⟨by rw [List.length_cons, List.length_cons, h1], fun k b hk => ?_⟩
    cases k with
    | zero => cases hk; exact ⟨o, rfl, z_b1_ok hs h.1⟩
    | succ k => exact h2 k b hk
  | [], _ :: _, h => by cases h
  | _ :: _, [], h => by cases h
theorem z_tG_in {bs : List zI} : ∀ {n : Nat} {q : Nat × zI}, q ∈ z_tG n bs → ∃ k, q.1 = n + k ∧ bs[k]? = some q.2 := by
  induction bs with
  | nil => intro n q h; cases h
  | cons b r ih =>
    intro n q h
    unfold z_tG at h
    rcases List.mem_cons.mp h with rfl | h
    · exact ⟨0, rfl, rfl⟩
    · obtain ⟨k, e1, e2⟩ := ih h
      exact ⟨k + 1, by omega, e2⟩
theorem z_ops_ok {src : List (Nat × Nat)} : ∀ {mp : List zO}, z_ops ov ls gh src = some mp → ∀ (t : Nat) (s : Nat × Nat), src[t]? = some s → ∃ o, mp[t]? = some o ∧ z_src ov ls gh s = some o := by
  induction src with
  | nil => intro mp h t s hs; cases hs
  | cons s0 r ih =>
    intro mp h t s hs
    unfold z_ops at h
    split at h
    · rename_i o l h1 h2
      cases h
      cases t with
      | zero => cases hs; exact ⟨o, rfl, h1⟩
      | succ t => exact ih h2 t s hs
    · cases h
theorem z_tov_lk {src : List (Nat × Nat)} : ∀ {n key : Nat} {x : zO}, (z_tov n src).lookup key = some x → ∃ t, src[t]? = some (1, key) ∧ x = .inr (n + t, 0) := by
  induction src with
  | nil => intro n key x h; cases h
  | cons s r ih =>
    intro n key x h
    obtain ⟨t, k0⟩ := s
    unfold z_tov at h
    split at h
    · rename_i ht
      subst ht
      rw [List.lookup_cons] at h
      split at h
      · rename_i e
        cases h
        rw [beq_iff_eq] at e
        subst e
        exact ⟨0, rfl, rfl⟩
      · obtain ⟨t2, e1, e2⟩ := ih h
        exact ⟨t2 + 1, e1, by rw [e2]; congr 2; omega⟩
    · obtain ⟨t2, e1, e2⟩ := ih h
      exact ⟨t2 + 1, e1, by rw [e2]; congr 2; omega⟩
theorem z_tov_no {src : List (Nat × Nat)} : ∀ {n key : Nat}, (z_tov n src).lookup key = none → (1, key) ∉ src := by
  induction src with
  | nil => intro n key h q; cases q
  | cons s r ih =>
    intro n key h q
    obtain ⟨t, k0⟩ := s
    unfold z_tov at h
    split at h
    · rename_i ht
      subst ht
      rw [List.lookup_cons] at h
      split at h
      · cases h
      · rename_i e
        rcases List.mem_cons.mp q with q | q
        · cases q
          rw [beq_self_eq_true] at e
          cases e
        · exact ih h q
    · rename_i ht
      rcases List.mem_cons.mp q with q | q
      · cases q
        exact ht rfl
      · exact ih h q
theorem z_tov_in {src : List (Nat × Nat)} : ∀ {n : Nat} {q : Nat × zO}, q ∈ z_tov n src → ∃ t, src[t]? = some (1, q.1) ∧ q.2 = .inr (n + t, 0) := by
  induction src with
  | nil => intro n q h; cases h
  | cons s r ih =>
    intro n q h
    obtain ⟨t, k0⟩ := s
    unfold z_tov at h
    split at h
    · rename_i ht
      subst ht
      rcases List.mem_cons.mp h with rfl | h
      · exact ⟨0, rfl, rfl⟩
      · obtain ⟨t2, e1, e2⟩ := ih h
        exact ⟨t2 + 1, e1, by rw [e2]; congr 2; omega⟩
    · obtain ⟨t2, e1, e2⟩ := ih h
      exact ⟨t2 + 1, e1, by rw [e2]; congr 2; omega⟩
theorem z_v0 {ρ : zR} {k : Nat} {w : Value} (h : ρ[k]? = some w) : z_v ρ (.inr (k, 0)) = w := by
  unfold z_v
  dsimp only
  rw [h]
  cases w with
  | int x => dsimp only; rw [Int.add_zero, Int32.ofInt_toInt]
  | _ => rfl
/-- a name's value in the template's row -/
theorem z_vmp {mp : List zO} {t : Nat} {o : zO} (ho : mp[t]? = some o) : z_v (mp.map (z_v ρ)) (.inr (t, 0)) = z_v ρ o := z_v0 (by rw [List.getElem?_map, ho]; rfl)
theorem z_le_int (hs : z_sat ρ f) {a b : zO} {c : Int} (h : z_le f a b c = true) : ∃ x y : Int32, z_v ρ a = .int x ∧ z_v ρ b = .int y ∧ x.toInt ≤ y.toInt + c := by
  have h0 := h
  unfold z_le at h
  split at h
  · rename_i p q hp hq
    obtain ⟨x, vx, -⟩ := z_ib_ex hs hp
    obtain ⟨y, vy, -⟩ := z_ib_ex hs hq
    exact ⟨x, y, vx, vy, z_le_ok hs vx vy h0⟩
  · cases h
theorem z_lcs_at {src : List (Nat × Nat)} {l : zL} : ∀ {n i : Nat} {o : Option zO}, z_lcs src ls n l = true → l[i]? = some o → z_lc1 src ls (n + i) o = true := by
  induction l with
  | nil => intro n i o _ h; cases h
  | cons a r ih =>
    intro n i o h hi
    unfold z_lcs at h
    simp only [Bool.and_eq_true] at h
    cases i with
    | zero => cases hi; exact h.1
    | succ i =>
      have := ih h.2 hi
      rw [show n + (i + 1) = n + 1 + i by omega]
      exact this
theorem z_d0_ok (hs : z_sat ρ f) {key : Nat} {x : zO} {ci : Nat} {ks : List zK} {d : zK} (hD : D (key / 128) = some (.inr (.inl (ci, ks)))) (hd : ks[key % 128]? = some d) (h : z_d0 D f key x = true) : z_dk d (z_v ρ x) := by
  unfold z_d0 at h
  rw [hD] at h
  dsimp only at h
  rw [hd] at h
  cases d with
  | inl a => exact z_b1_ok hs h
  | inr r =>
    have := of_decide_eq_true h
    subst this
    rfl
theorem z_match_ok (hlen : z_len0 J D) (hs : z_sat ρ f) (hl : z_nl ρ ls) (hv : z_ovk ρ ov) (hr : z_hr J D ρ ov H) (hf : z_frm D ms H0 H) {T : zT} {mp : List zO} (h : z_match D f ov ls gh T = some mp) : z_tm J D ms (mp.map (z_v ρ)) H0 H (z_ls ρ ls) T := by
  unfold z_match at h
  split at h
  · rename_i mp' hop
    split at h
    · rename_i hc
      cases h
      simp only [Bool.and_eq_true, decide_eq_true_eq] at hc
      obtain ⟨⟨⟨⟨hb, hd⟩, hcl⟩, hk⟩, hn⟩ := hc
      obtain ⟨hle, hbs⟩ := z_bs_ok hs hb
      have hops := z_ops_ok hop
      have nm : ∀ {t : Nat} {o : zO}, mp[t]? = some o → ∃ a, z_in a (z_v ρ o) := by
        intro t o ho
        have hlt := (List.getElem?_eq_some_iff.mp ho).1
        have hb2 : T.2.1[t]? = some (T.2.1[t]'(by omega)) := List.getElem?_eq_getElem _
        obtain ⟨o', e1, e2⟩ := hbs t _ hb2
        rw [ho] at e1
        cases e1
        exact ⟨_, e2⟩
      refine ⟨by rw [List.length_map]; exact hle, ⟨fun q hq => ?_, fun q hq => ?_, fun q hq => absurd hq List.not_mem_nil, fun q hq => absurd hq List.not_mem_nil⟩, fun o ho => ?_, fun q hq => ?_, ⟨fun o c hc => ?_, hr.2⟩, hf, ?_⟩
      · obtain ⟨k, e1, e2⟩ := z_tG_in hq
        obtain ⟨o, g1, g2⟩ := hbs k _ e2
        exact ⟨z_v ρ o, by rw [e1, Nat.zero_add, List.getElem?_map, g1]; rfl, g2⟩
      · have h1 := List.all_eq_true.mp hd q hq
        split at h1
        · rename_i a b ha hb'
          obtain ⟨x, y, vx, vy, e⟩ := z_le_int hs h1
          exact ⟨x, y, by rw [List.getElem?_map, ha, Option.map_some, vx], by rw [List.getElem?_map, hb', Option.map_some, vy], by omega⟩
        · cases h1
      · obtain ⟨i, hi⟩ := List.mem_iff_getElem?.mp ho
        have h1 := z_lcs_at hk hi
        unfold z_lc1 at h1
        split at h1
        · rename_i e; cases e
        · rename_i w e
          cases e
          have h2 := of_decide_eq_true h1
          exact hl _ (List.mem_of_getElem? h2)
        · rename_i t n e
          cases e
          simp only [Bool.and_eq_true, decide_eq_true_eq] at h1
          obtain ⟨rfl, h2⟩ := h1
          obtain ⟨o', g1, g2⟩ := hops t _ h2
          obtain ⟨a, ha⟩ := nm g1
          rw [z_vmp g1]
          exact z_in_nn ha
      · obtain ⟨t, e1, e2⟩ := z_tov_in hq
        obtain ⟨o', g1, g2⟩ := hops t _ e1
        obtain ⟨a, ha⟩ := nm g1
        rw [e2, Nat.zero_add, z_vmp g1]
        exact z_in_nn ha
      · obtain ⟨e, h1, h2⟩ := hr.1 o c hc
        refine ⟨e, h1, ?_⟩
        unfold z_cell at h2 ⊢
        split
        · exact h2
        · rename_i ci ks
          obtain ⟨vs, e1, e2, e3⟩ := h2
          refine ⟨vs, e1, e2, fun k d hd' => ?_⟩
          obtain ⟨w, w1, w2, w3⟩ := e3 k d hd'
          have hk128 : k < 128 := Nat.lt_of_lt_of_le (List.getElem?_eq_some_iff.mp hd').1 (hlen.1 _ _ _ hc)
          refine ⟨w, w1, fun x hx => ?_, fun hno => ?_⟩
          · obtain ⟨t, g1, g2⟩ := z_tov_lk hx
            obtain ⟨o', g3, g4⟩ := hops t _ g1
            have g5 : ov.lookup (o * 128 + k) = some o' := by
              unfold z_src at g4
              rw [if_neg (show ¬ (1 : Nat) = 0 by decide), if_pos rfl] at g4
              exact g4
            rw [g2, Nat.zero_add, z_vmp g3]
            exact w2 o' g5
          · have g1 := z_tov_no hno
            cases hlk : ov.lookup (o * 128 + k) with
            | none => exact w3 hlk
            | some x =>
              rw [w2 x hlk]
              have h3 := List.all_eq_true.mp hcl _ (z_lk_in hlk)
              simp only [Bool.or_eq_true] at h3
              rcases h3 with h3 | h3
              · exact absurd (List.elem_iff.mp h3) g1
              · rw [hlk] at h3
                have k1 : (o * 128 + k) / 128 = o := by omega
                have k2 : (o * 128 + k) % 128 = k := by omega
                exact z_d0_ok hs (by rw [k1]; exact hc) (by rw [k2]; exact hd') h3
        · exact h2
      · refine ⟨by rw [z_ls_len, z_ls_len]; exact hn, fun i v hi => ?_⟩
        rw [z_ls_get] at hi ⊢
        cases ht : T.2.2.2[i]? with
        | none => rw [ht] at hi; cases hi
        | some o =>
          rw [ht] at hi
          cases o with
          | none => cases hi
          | some o =>
            have h1 := z_lcs_at hk ht
            rw [Nat.zero_add] at h1
            have hv' : z_v (mp.map (z_v ρ)) o = v := by
              simp only [Option.map_some, Option.some.injEq] at hi
              exact hi
            unfold z_lc1 at h1
            split at h1
            · rename_i e; cases e
            · rename_i w e
              cases e
              have h2 := of_decide_eq_true h1
              rw [h2, ← hv']
              rfl
            · rename_i t n e
              cases e
              simp only [Bool.and_eq_true, decide_eq_true_eq] at h1
              obtain ⟨rfl, h2⟩ := h1
              obtain ⟨o', g1, g2⟩ := hops t _ h2
              rw [z_vmp g1] at hv'
              unfold z_src at g2
              rw [if_pos rfl] at g2
              dsimp only at g2
              split at g2
              · rename_i o2 ho2
                subst g2
                rw [ho2, ← hv']
                rfl
              · cases g2
    · cases h
  · cases h
end ZM
