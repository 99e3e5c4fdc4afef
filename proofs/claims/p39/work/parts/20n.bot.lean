/-! ===== v2: measures, and the method at the bottom ===== -/
def z_lexlt : List Nat → List Nat → Prop
  | a' :: r', a :: r => a' < a ∨ (a' = a ∧ z_lexlt r' r)
  | _, _ => False
theorem z_lexi : ∀ (n : Nat) (Q : List Nat → Prop), (∀ l, l.length = n → (∀ l', l'.length = n → z_lexlt l' l → Q l') → Q l) → ∀ l, l.length = n → Q l
  | 0, Q, h, l, hl => h l hl (fun l' hl' hlt => by
      have e : l = [] := List.eq_nil_of_length_eq_zero hl
      subst e
      cases l' <;> exact hlt.elim)
  | n + 1, Q, h, l, hl => by
    have key : ∀ (a : Nat) (r : List Nat), r.length = n → Q (a :: r) := by
      intro a
      induction a using Nat.strongRecOn with
      | _ a ih =>
        intro r hr
        refine z_lexi n (fun r => Q (a :: r)) (fun r hr ih2 => ?_) r hr
        refine h (a :: r) (by rw [List.length_cons, hr]) (fun l' hl' hlt => ?_)
        cases l' with
        | nil => exact hlt.elim
        | cons a' r' =>
          have hr' : r'.length = n := by rw [List.length_cons] at hl'; omega
          rcases hlt with q | ⟨rfl, q⟩
          · exact ih a' q r' hr'
          · exact ih2 r' hr' q
    cases l with
    | nil => cases hl
    | cons a r => exact key a r (by rw [List.length_cons] at hl; omega)
/-- the method at the bottom, and its depth -/
def z_bm (M : aM) : List zFr → aM
  | [] => M
  | q :: fs => z_bm q.1 fs
def z_bot (M0 : aM) (d0 : Nat) (c : zS) : Prop := z_bm c.2.1 c.2.2.2.2.2.1 = M0 ∧ c.1 + c.2.2.2.2.2.1.length = d0
section ZBOT
variable {J : aH → Prop} {D : Nat → Option zC} {ms : List Nat} {P : List aM} {X : aX} {ρ0 : zR} {H0 : aH} {C S : Nat} {K0 : Option Value → aH → Nat → Nat → Prop} {cl : zCl} {M0 : aM} {d0 : Nat}
theorem z_step_bot {c : zS} {L : List zS} (q : z_step D ms P cl c = some L) (hb : z_bot M0 d0 c) : ∀ c' ∈ L, z_bot M0 d0 c' := by
  obtain ⟨d, M, pc, ls, st, fs, ov, f, nx⟩ := c
  have one : ∀ {c1 : zS}, z_bot M0 d0 c1 → ∀ c' ∈ [c1], z_bot M0 d0 c' := fun h c' hc => by rw [List.mem_singleton.mp hc]; exact h
  unfold z_step at q
  dsimp only at q
  split at q
  · cases q
  · split at q
    · cases q; exact one hb
    · split at q
      · cases q; exact one hb
      · split at q
        · cases q; exact one hb
        · split at q
          · cases q; exact one hb
          · split at q
            · cases q; exact one hb
            · split at q
              · cases q
                intro c' hc
                obtain ⟨w, -, rfl⟩ := List.mem_map.mp hc
                exact hb
              · split at q
                · split at q
                  · cases q
                  · rename_i M2 pc2 ls2 rest fs'
                    cases q
                    refine one ⟨hb.1, ?_⟩
                    have := hb.2
                    dsimp only [List.length_cons] at this ⊢
                    omega
                · split at q
                  · split at q
                    · cases q
                    · rename_i d'
                      split at q
                      · cases q
                        intro c' hc
                        obtain ⟨w, -, rfl⟩ := List.mem_map.mp hc
                        exact hb
                      · cases q
                        refine one ⟨hb.1, ?_⟩
                        have := hb.2
                        dsimp only [List.length_cons] at this ⊢
                        omega
                  · split at q
                    · cases q
                      intro c' hc
                      obtain ⟨w, -, rfl⟩ := List.mem_map.mp hc
                      exact hb
                    · cases q
/-- runs, where cuts are asked of the method at the bottom alone -/
theorem z_run_bot (hlen : z_len0 J D) (hcl : z_clok J D ms P X H0 C S cl) {ct : zS → Bool} {rt : zA → Bool} (hct : ∀ c, z_bot M0 d0 c → ct c = true → z_mean J D ms P X ρ0 H0 C S K0 c)
    (hrt : ∀ a, rt a = true → ∀ (l : zR) (H : aH), (ρ0 ++ l).length = a.2.2.2 → z_sat (ρ0 ++ l) a.2.2.1 → z_ovk (ρ0 ++ l) a.2.1 → z_hr J D (ρ0 ++ l) a.2.1 H → z_frm D ms H0 H → (∀ o, a.1 = some o → z_v (ρ0 ++ l) o ≠ .null) → (∀ n, a.1.map (z_v (ρ0 ++ l)) ≠ some (.retAddr n)) → K0 (a.1.map (z_v (ρ0 ++ l))) H C S) : ∀ (n : Nat) (c : zS), z_bot M0 d0 c → z_run D ms P cl ct rt n c = true → z_mean J D ms P X ρ0 H0 C S K0 c
  | 0, _, _, h => by cases h
  | n + 1, c, hb, h => by
    unfold z_run at h
    split at h
    · rename_i hc
      exact hct c hb hc
    · split at h
      · rename_i a ha
        unfold z_fin at ha
        split at ha
        · rename_i d M pc ls st ov f nx _
          split at ha
          · rename_i i len k hlk
            split at ha
            · rename_i v hv
              cases ha
              intro l H hrel
              obtain ⟨h1, h2, h3, h4, h5, h6, h7, h8⟩ := hrel
              obtain ⟨e1, e2, e3, e4⟩ := z_ret_ok (X := X) (len := len) (k := k) (pc := pc) (ls := z_ls (ρ0 ++ l) ls) (h := H) h2 hv
              exact aOK_ret hlk e1 e2 e3 (hrt _ h l H h1 h2 h6 h7 h8 (fun o ho => (e4 o ho).2) e3)
            · cases ha
          · cases ha
        · cases ha
      · split at h
        · cases h
        · rename_i L hL
          exact z_step_ok hlen hcl hL (fun c hc => z_run_bot hlen hcl hct hrt n c (z_step_bot hL hb c hc) (List.all_eq_true.mp h c hc))
/-- a run from a template: its first step is taken before cuts are asked -/
def z_go (D : Nat → Option zC) (ms : List Nat) (P : List aM) (cl : zCl) (ct : zS → Bool) (rt : zA → Bool) (n : Nat) (c : zS) : Bool := match z_step D ms P cl c with
  | none => false
  | some l => l.all (z_run D ms P cl ct rt n)
def z_tc (d : Nat) (M : aM) (pc : Nat) (T : zT) : zS := (d, M, pc, T.2.2.2, [], [], z_tov 0 T.1, z_tf T, T.2.1.length)
theorem z_tc_rel {ρ : zR} {H : aH} {ls : aL} {T : zT} {d pc : Nat} {M : aM} (h : z_tm J D ms ρ H0 H ls T) : z_rel J D ms (ρ ++ []) H0 H (z_tc d M pc T) := by
  obtain ⟨h1, h2, h3, h4, h5, h6, h7⟩ := h
  rw [List.append_nil]
  exact ⟨h1, h2, h3, fun o ho => absurd ho List.not_mem_nil, fun q hq => absurd hq List.not_mem_nil, h4, h5, h6⟩
theorem z_go_ok (hlen : z_len0 J D) (hcl : z_clok J D ms P X H0 C S cl) {ct : zS → Bool} {rt : zA → Bool} {n d pc : Nat} {M : aM} {T : zT} (hct : ∀ c, z_bot M d c → ct c = true → z_mean J D ms P X ρ0 H0 C S K0 c)
    (hrt : ∀ a, rt a = true → ∀ (l : zR) (H : aH), (ρ0 ++ l).length = a.2.2.2 → z_sat (ρ0 ++ l) a.2.2.1 → z_ovk (ρ0 ++ l) a.2.1 → z_hr J D (ρ0 ++ l) a.2.1 H → z_frm D ms H0 H → (∀ o, a.1 = some o → z_v (ρ0 ++ l) o ≠ .null) → (∀ n, a.1.map (z_v (ρ0 ++ l)) ≠ some (.retAddr n)) → K0 (a.1.map (z_v (ρ0 ++ l))) H C S)
    (h : z_go D ms P cl ct rt n (z_tc d M pc T) = true) {H : aH} {ls : aL} (hm : z_tm J D ms ρ0 H0 H ls T) : aOK P X d M pc ls [] H C S K0 := by
  unfold z_go at h
  split at h
  · cases h
  · rename_i L hL
    have hb : z_bot M d (z_tc d M pc T) := ⟨rfl, rfl⟩
    have hmean := z_step_ok hlen hcl hL (fun c hc => z_run_bot hlen hcl hct hrt n c (z_step_bot hL hb c hc) (List.all_eq_true.mp h c hc)) [] H (z_tc_rel hm)
    rw [List.append_nil] at hmean
    exact aOK_lle hm.2.2.2.2.2.2 hmean
end ZBOT
