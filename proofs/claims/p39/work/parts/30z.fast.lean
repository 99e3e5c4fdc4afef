/-! ===== v2: the checker, quicker: an instruction's kind is asked first ===== -/
noncomputable def z_fd (l : List (Nat × aI)) : Nat → Option aI := List.rec (motive := fun _ => Nat → Option aI) (fun _ => none) (fun q _ ih pc => cond (Nat.beq q.1 pc) (some q.2) (ih pc)) l
theorem z_fd_eq : ∀ (l : List (Nat × aI)) (pc : Nat), z_fd l pc = l.lookup pc := by
  intro l
  induction l with
  | nil => intro pc; rfl
  | cons q l ih =>
    intro pc
    obtain ⟨p, a⟩ := q
    show cond (Nat.beq p pc) (some a) (z_fd l pc) = _
    rw [List.lookup_cons, ih]
    cases hb : Nat.beq p pc with
    | true =>
      rw [Nat.eq_of_beq_eq_true hb, beq_self_eq_true]
      rfl
    | false =>
      have hn : (pc == p) = false := beq_eq_false_iff_ne.mpr (fun e => Nat.ne_of_beq_eq_false hb e.symm)
      rw [hn]
      rfl
/-- an instruction's kind -/
def z_kd (i : Instr) : Nat := match i with
  | .iload_n _ => 1
  | .iload _ => 1
  | .lload_n _ => 1
  | .lload _ => 1
  | .aload_n _ => 1
  | .aload _ => 1
  | .istore_n _ => 1
  | .istore _ => 1
  | .lstore_n _ => 1
  | .lstore _ => 1
  | .astore_n _ => 1
  | .astore _ => 1
  | .iinc _ _ => 2
  | .goto _ => 3
  | .getfield _ => 4
  | .putfield _ => 4
  | .iaload => 4
  | .baload => 4
  | .caload => 4
  | .laload => 4
  | .iastore => 4
  | .bastore => 4
  | .castore => 4
  | .lastore => 4
  | .arraylength => 4
  | .ifCond _ _ => 5
  | .if_icmp _ _ => 5
  | .ireturn => 6
  | .lreturn => 6
  | .return_ => 6
  | .invokevirtual _ => 7
  | .iconst _ => 8
  | .bipush _ => 8
  | .sipush _ => 8
  | .lconst _ => 8
  | _ => 0
section ZF
variable {f : zF} {nx : Nat} {i : Instr} {k : aK} {st : List zO} {ls : zL} {ov : zV} {D : Nat → Option zC} {ms : List Nat} {pc : Nat}
theorem z_stk_no (h1 : 1 ≤ z_kd i) (h7 : z_kd i ≤ 7) : z_stk f nx i k st = none := by
  have c1 : s_con i k = none := by
    unfold s_con
    split <;> first
      | rfl
      | exact absurd h7 (show ¬ 8 ≤ 7 by decide)
      | exact absurd h1 (show ¬ 1 ≤ 0 by decide)
  have c2 : s_isu i = false := by
    unfold s_isu
    split <;> first
      | rfl
      | exact absurd h1 (show ¬ 1 ≤ 0 by decide)
  have c3 : ∀ t u, s_b i t u = 0 := by
    intro t u
    unfold s_b
    split <;> first
      | rfl
      | exact absurd h1 (show ¬ 1 ≤ 0 by decide)
  have c4 : ∀ a b, z_bin f nx i a b = none := fun a b => by
    unfold z_bin
    rw [if_pos (Or.inl (c3 _ _))]
  unfold z_stk
  rw [c1]
  dsimp only
  split
  · exact absurd h1 (show ¬ 1 ≤ 0 by decide)
  · exact absurd h1 (show ¬ 1 ≤ 0 by decide)
  · exact absurd h1 (show ¬ 1 ≤ 0 by decide)
  · rw [c2]
    rw [if_neg (by decide)]
    split
    · rw [c4]
    · rfl
theorem z_loc_no (h1 : 2 ≤ z_kd i) : z_loc f i ls st = none := by
  unfold z_loc
  split <;> first
    | rfl
    | exact absurd h1 (show ¬ 2 ≤ 1 by decide)
theorem z_inc_no (h1 : 3 ≤ z_kd i) : z_inc f nx i ls = none := by
  unfold z_inc
  split <;> first
    | rfl
    | exact absurd h1 (show ¬ 3 ≤ 2 by decide)
theorem z_jmp_no (h1 : 4 ≤ z_kd i) : z_jmp f i k pc st = none := by
  unfold z_jmp
  split <;> first
    | rfl
    | exact absurd h1 (show ¬ 4 ≤ 3 by decide)
    | exact absurd h1 (show ¬ 4 ≤ 0 by decide)
theorem z_hp_no (h1 : 5 ≤ z_kd i) : z_hp D ms f nx ov i k st = none := by
  unfold z_hp
  split <;> first
    | rfl
    | exact absurd h1 (show ¬ 5 ≤ 4 by decide)
    | exact absurd h1 (show ¬ 5 ≤ 0 by decide)
theorem z_tst_no (h1 : 6 ≤ z_kd i) : z_tst f i st = none := by
  unfold z_tst
  split <;> first
    | rfl
    | exact absurd h1 (show ¬ 6 ≤ 5 by decide)
theorem z_ret_no {r : Option FieldType} (h1 : z_kd i ≠ 6) : z_ret f i r st = none := by
  unfold z_ret
  split <;> first
    | rfl
    | exact absurd rfl h1
end ZF
noncomputable def z_st1 (D : Nat → Option zC) (ms : List Nat) (P : List aM) (cl : zCl) (c : zS) (i : Instr) (len : Nat) (k : aK) : Option (List zS) := match c with
  | (d, M, pc, ls, st, fs, ov, f, nx) => match z_kd i with
    | 1 => (match z_loc f i ls st with
      | some (ls', st') => some [(d, M, pc + len, ls', st', fs, ov, f, nx)]
      | none => z_step D ms P cl (d, M, pc, ls, st, fs, ov, f, nx))
    | 2 => (match z_inc f nx i ls with
      | some (ls', f', n') => some [(d, M, pc + len, ls', st, fs, ov, f', n')]
      | none => z_step D ms P cl (d, M, pc, ls, st, fs, ov, f, nx))
    | 3 => (match z_jmp f i k pc st with
      | some (pc', st') => some [(d, M, pc', ls, st', fs, ov, f, nx)]
      | none => z_step D ms P cl (d, M, pc, ls, st, fs, ov, f, nx))
    | 4 => (match z_hp D ms f nx ov i k st with
      | some (st', ov', f', n') => some [(d, M, pc + len, ls, st', fs, ov', f', n')]
      | none => z_step D ms P cl (d, M, pc, ls, st, fs, ov, f, nx))
    | 5 => (match z_tst f i st with
      | some (l, r) => some (l.map (fun q => (d, M, if q.1 then k.2.1 else pc + 3, ls, r, fs, ov, q.2, nx)))
      | none => z_step D ms P cl (d, M, pc, ls, st, fs, ov, f, nx))
    | 7 => (match z_inv D P f i k st with
      | some (M', as, rest) => (match d with
        | 0 => none
        | d' + 1 => (match cl d' k.2.1 as ov f nx with
          | some outs => some (outs.map (fun a => (d' + 1, M, pc + len, ls, a.1.toList ++ rest, fs, a.2.1, a.2.2.1, a.2.2.2)))
          | none => some [(d', M', 0, z_ent f as M'.2.2.1, [], (M, pc + len, ls, rest) :: fs, ov, f, nx)]))
      | none => z_step D ms P cl (d, M, pc, ls, st, fs, ov, f, nx))
    | 8 => (match s_con i k with
      | some w => some [(d, M, pc + len, ls, .inl w :: st, fs, ov, f, nx)]
      | none => z_step D ms P cl (d, M, pc, ls, st, fs, ov, f, nx))
    | _ => z_step D ms P cl (d, M, pc, ls, st, fs, ov, f, nx)
section ZG
variable {D : Nat → Option zC} {ms : List Nat} {P : List aM} {cl : zCl} {ct : zS → Bool} {rt : zA → Bool}
theorem z_st1_eq {d : Nat} {M : aM} {pc : Nat} {ls : zL} {st : List zO} {fs : List zFr} {ov : zV} {f : zF} {nx : Nat} {i : Instr} {len : Nat} {k : aK} (hl : M.2.2.2.2.2.lookup pc = some (i, len, k)) : z_st1 D ms P cl (d, M, pc, ls, st, fs, ov, f, nx) i len k = z_step D ms P cl (d, M, pc, ls, st, fs, ov, f, nx) := by
  unfold z_st1
  dsimp only
  split
  · rename_i hk
    split
    · rename_i e
      unfold z_step
      dsimp only
      rw [hl]
      dsimp only
      rw [z_stk_no (by omega) (by omega), e]
    · rfl
  · rename_i hk
    split
    · rename_i e
      unfold z_step
      dsimp only
      rw [hl]
      dsimp only
      rw [z_stk_no (by omega) (by omega), z_loc_no (by omega), e]
    · rfl
  · rename_i hk
    split
    · rename_i e
      unfold z_step
      dsimp only
      rw [hl]
      dsimp only
      rw [z_stk_no (by omega) (by omega), z_loc_no (by omega), z_inc_no (by omega), e]
    · rfl
  · rename_i hk
    split
    · rename_i e
      unfold z_step
      dsimp only
      rw [hl]
      dsimp only
      rw [z_stk_no (by omega) (by omega), z_loc_no (by omega), z_inc_no (by omega), z_jmp_no (by omega), e]
    · rfl
  · rename_i hk
    split
    · rename_i e
      unfold z_step
      dsimp only
      rw [hl]
      dsimp only
      rw [z_stk_no (by omega) (by omega), z_loc_no (by omega), z_inc_no (by omega), z_jmp_no (by omega), z_hp_no (by omega), e]
    · rfl
  · rename_i hk
    split
    · rename_i e
      unfold z_step
      dsimp only
      rw [hl]
      dsimp only
      rw [z_stk_no (by omega) (by omega), z_loc_no (by omega), z_inc_no (by omega), z_jmp_no (by omega), z_hp_no (by omega), z_tst_no (by omega), z_ret_no (by omega), e]
      rfl
    · rfl
  · rename_i hk
    split
    · rename_i w e
      unfold z_step
      dsimp only
      rw [hl]
      dsimp only
      rw [show z_stk f nx i k st = some (.inl w :: st, f, nx) by unfold z_stk; rw [e]]
    · rfl
  · rfl
noncomputable def z_run2 (D : Nat → Option zC) (ms : List Nat) (P : List aM) (cl : zCl) (ct : zS → Bool) (rt : zA → Bool) : Nat → zS → Bool
  | 0, _ => false
  | n + 1, c => cond (ct c) true (match z_fd c.2.1.2.2.2.2.2 c.2.2.1 with
    | none => false
    | some (i, len, k) => cond (Nat.beq (z_kd i) 6) (match z_fin c with
        | some a => rt a
        | none => (match z_step D ms P cl c with
          | none => false
          | some l => l.all (z_run2 D ms P cl ct rt n))) (match z_st1 D ms P cl c i len k with
        | none => false
        | some l => l.all (z_run2 D ms P cl ct rt n)))
theorem z_run2_eq : ∀ (n : Nat) (c : zS), z_run2 D ms P cl ct rt n c = z_run D ms P cl ct rt n c := by
  intro n
  induction n with
  | zero => intro c; rfl
  | succ n ih =>
    intro c
    have hf : z_run2 D ms P cl ct rt n = z_run D ms P cl ct rt n := funext ih
    obtain ⟨d, M, pc, ls, st, fs, ov, f, nx⟩ := c
    unfold z_run2 z_run
    rw [hf]
    cases hc : ct (d, M, pc, ls, st, fs, ov, f, nx) with
    | true => rfl
    | false =>
      rw [if_neg (by decide)]
      show (match z_fd M.2.2.2.2.2 pc with
        | none => false
        | some (i, len, k) => _) = _
      rw [z_fd_eq]
      cases hl : M.2.2.2.2.2.lookup pc with
      | none =>
        have e1 : z_fin (d, M, pc, ls, st, fs, ov, f, nx) = none := by
          cases fs with
          | nil =>
            unfold z_fin
            dsimp only
            rw [hl]
          | cons a r => rfl
        have e2 : z_step D ms P cl (d, M, pc, ls, st, fs, ov, f, nx) = none := by
          unfold z_step
          dsimp only
          rw [hl]
        rw [e1, e2]
      | some q =>
        obtain ⟨i, len, k⟩ := q
        dsimp only
        cases hk : Nat.beq (z_kd i) 6 with
        | true => rfl
        | false =>
          have e1 : z_fin (d, M, pc, ls, st, fs, ov, f, nx) = none := by
            cases fs with
            | nil =>
              unfold z_fin
              dsimp only
              rw [hl]
              dsimp only
              rw [z_ret_no (Nat.ne_of_beq_eq_false hk)]
            | cons a r => rfl
          rw [e1, z_st1_eq hl]
          rfl
end ZG
noncomputable def z_go2 (D : Nat → Option zC) (ms : List Nat) (P : List aM) (cl : zCl) (ct : zS → Bool) (rt : zA → Bool) (n : Nat) (c : zS) : Bool := match z_step D ms P cl c with
  | none => false
  | some l => l.all (z_run2 D ms P cl ct rt n)
theorem z_go2_eq {D : Nat → Option zC} {ms : List Nat} {P : List aM} {cl : zCl} {ct : zS → Bool} {rt : zA → Bool} {n : Nat} {c : zS} : z_go2 D ms P cl ct rt n c = z_go D ms P cl ct rt n c := by
  unfold z_go2 z_go
  rw [show z_run2 D ms P cl ct rt n = z_run D ms P cl ct rt n from funext (z_run2_eq n)]
  rfl
noncomputable def z_chk12 (D : Nat → Option zC) (P : List aM) (cl : zCl) (n : Nat) (Q : zQ) (M : aM) (cut : zCut) : Bool := z_mok cut.2.1.2.1.length cut.2.2 && decide (cut.2.2.length = Q.1.2.2.2) && decide (cut.2.1.1.length = cut.2.1.2.1.length) && (decide (cut.1 ≠ 0) || decide (Q.1.2.2.1 ≤ cut.2.1.2.1.length)) && z_go2 D Q.2.2.2 P cl (z_ctq D Q cut) (z_rtq D Q cut) n (z_tc Q.1.2.1 M cut.1 cut.2.1)
noncomputable def z_chk2 (D : Nat → Option zC) (P : List aM) (cl : zCl) (n : Nat) (Q : zQ) : Bool := match P[Q.1.1]? with
  | some M => Q.2.1.all (z_chk12 D P cl n Q M)
  | none => false
theorem z_chk2_ok {D : Nat → Option zC} {P : List aM} {cl : zCl} {n : Nat} {Q : zQ} (h : z_chk2 D P cl n Q = true) : z_chk D P cl n Q = true := by
  unfold z_chk2 at h
  unfold z_chk
  split at h
  · rename_i M hM
    rw [hM]
    dsimp only
    rw [show z_chk1 D P cl n Q M = z_chk12 D P cl n Q M from funext (fun cut => by
      unfold z_chk1 z_chk12
      rw [z_go2_eq])]
    exact h
  · cases h
