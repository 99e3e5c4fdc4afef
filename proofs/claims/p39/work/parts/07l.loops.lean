/-! ===== loops that are told, not run (laid by wip/tools/loops.py) ===== -/
def s_gcd : Nat → Int64 → Int64 → Int64
  | 0, x, _ => x
  | n + 1, x, y => if y = 0 then x else s_gcd n y (x - x / y * y)
theorem s_gcd_ne : ∀ (n : Nat) (x y : Int64), x ≠ 0 → s_gcd n x y ≠ 0
  | 0, _, _, h => h
  | n + 1, x, y, h => by
    unfold s_gcd
    split
    · exact h
    · rename_i hy; exact s_gcd_ne n y _ hy
def s_mny (a b : Int32) : Nat → Int64 → Int32 → Int32
  | 0, _, _ => (Int8.ofInt (-2)).toInt32
  | n + 1, l, k => if l ≤ Int64.ofInt 500000000 then k else s_mny a b n (l * (b - a).toInt64 / b.toInt64) (k + Int32.ofInt 1)
section SLOOP
variable {P : List aM} {X : aX} {d : Nat} {M : aM} {h : aH} {C S : Nat} {K : Option Value → aH → Nat → Nat → Prop}
theorem aOK_op0 {pc pc' len : Nat} {i : Instr} {k : aK} {ls ls' : aL} {st st' : List Value} (hl : M.2.2.2.2.2.lookup pc = some (i, len, k)) (ho : a_op X i len k pc ls st h = some (pc', ls', st', h, 0, 0)) (hk : aOK P X d M pc' ls' st' h C S K) : aOK P X d M pc ls st h C S K := aOK_op hl ho hk
theorem s_lrem {ls : aL} {pc len : Nat} {k : aK} {x y : Int64} {r : List Value} (hy : y ≠ 0) : a_op X .lrem len k pc ls (.long y :: .long x :: r) h = some (pc + len, ls, .long (x - x / y * y) :: r, h, 0, 0) := by
  simp only [a_op, a_stk, a_lln, if_neg hy]
theorem s_ldiv {ls : aL} {pc len : Nat} {k : aK} {x y : Int64} {r : List Value} (hy : y ≠ 0) : a_op X .ldiv len k pc ls (.long y :: .long x :: r) h = some (pc + len, ls, .long (x / y) :: r, h, 0, 0) := by
  simp only [a_op, a_stk, a_lln, if_neg hy]
theorem s_lreturn {ls : aL} {pc len : Nat} {k : aK} {st : List Value} : a_op X .lreturn len k pc ls st h = none := by cases X <;> rfl
theorem s_ireturn {ls : aL} {pc len : Nat} {k : aK} {st : List Value} : a_op X .ireturn len k pc ls st h = none := by cases X <;> rfl
theorem s_i64rem (x y : Int64) : (x - (x / y) * y).toInt = x.toInt.tmod y.toInt := by
  have a := (x % y).toInt_lt
  have b := (x % y).le_toInt
  rw [Int64.toInt_mod] at a b
  rw [Int64.toInt_sub, Int64.toInt_mul, Int64.toInt_div, Int.bmod_mul_bmod, Int.sub_bmod_bmod, Int.mul_comm, ← Int.tmod_def]
  exact Int.bmod_eq_of_le (Int.le_trans (by decide) b) (Int.lt_of_lt_of_le a (by decide))
theorem cd_0 : a_m41.2.2.2.2.2.lookup 0 = some (.lload_n 0, 1, (0, 0, 0, 0)) := rfl
theorem cd_1 : a_m41.2.2.2.2.2.lookup 1 = some (.lstore 4, 2, (0, 0, 0, 0)) := rfl
theorem cd_3 : a_m41.2.2.2.2.2.lookup 3 = some (.lload_n 2, 1, (0, 0, 0, 0)) := rfl
theorem cd_4 : a_m41.2.2.2.2.2.lookup 4 = some (.lstore 6, 2, (0, 0, 0, 0)) := rfl
theorem cd_6 : a_m41.2.2.2.2.2.lookup 6 = some (.iconst 0, 1, (0, 0, 0, 0)) := rfl
theorem cd_7 : a_m41.2.2.2.2.2.lookup 7 = some (.istore 8, 2, (0, 0, 0, 0)) := rfl
theorem cd_9 : a_m41.2.2.2.2.2.lookup 9 = some (.iload 8, 2, (0, 0, 0, 0)) := rfl
theorem cd_11 : a_m41.2.2.2.2.2.lookup 11 = some (.sipush 200, 3, (0, 0, 0, 0)) := rfl
theorem cd_14 : a_m41.2.2.2.2.2.lookup 14 = some (.if_icmp .ge 31, 3, (0, 45, 0, 0)) := rfl
theorem cd_17 : a_m41.2.2.2.2.2.lookup 17 = some (.lload 6, 2, (0, 0, 0, 0)) := rfl
theorem cd_19 : a_m41.2.2.2.2.2.lookup 19 = some (.lconst 0, 1, (0, 0, 0, 0)) := rfl
theorem cd_20 : a_m41.2.2.2.2.2.lookup 20 = some (.lcmp, 1, (0, 0, 0, 0)) := rfl
theorem cd_21 : a_m41.2.2.2.2.2.lookup 21 = some (.ifCond .eq 24, 3, (0, 45, 0, 0)) := rfl
theorem cd_24 : a_m41.2.2.2.2.2.lookup 24 = some (.lload 4, 2, (0, 0, 0, 0)) := rfl
theorem cd_26 : a_m41.2.2.2.2.2.lookup 26 = some (.lload 6, 2, (0, 0, 0, 0)) := rfl
theorem cd_28 : a_m41.2.2.2.2.2.lookup 28 = some (.lrem, 1, (0, 0, 0, 0)) := rfl
theorem cd_29 : a_m41.2.2.2.2.2.lookup 29 = some (.lstore 9, 2, (0, 0, 0, 0)) := rfl
theorem cd_31 : a_m41.2.2.2.2.2.lookup 31 = some (.lload 6, 2, (0, 0, 0, 0)) := rfl
theorem cd_33 : a_m41.2.2.2.2.2.lookup 33 = some (.lstore 4, 2, (0, 0, 0, 0)) := rfl
theorem cd_35 : a_m41.2.2.2.2.2.lookup 35 = some (.lload 9, 2, (0, 0, 0, 0)) := rfl
theorem cd_37 : a_m41.2.2.2.2.2.lookup 37 = some (.lstore 6, 2, (0, 0, 0, 0)) := rfl
theorem cd_39 : a_m41.2.2.2.2.2.lookup 39 = some (.iinc 8 1, 3, (0, 0, 0, 0)) := rfl
theorem cd_42 : a_m41.2.2.2.2.2.lookup 42 = some (.goto (-33), 3, (0, 9, 0, 0)) := rfl
theorem cd_45 : a_m41.2.2.2.2.2.lookup 45 = some (.lload 4, 2, (0, 0, 0, 0)) := rfl
theorem cd_47 : a_m41.2.2.2.2.2.lookup 47 = some (.lreturn, 1, (0, 0, 0, 0)) := rfl
theorem s_cd_loop (a b : Int64) : ∀ (n : Nat) (x y : Int64) (i : Int32) (o : Option Value), i.toInt = 200 - (n : Int) → n ≤ 200 → K (some (.long (s_gcd n x y))) h C S → aOK P X d a_m41 9 [some (.long (a)), none, some (.long (b)), none, some (.long (x)), none, some (.long (y)), none, some (.int (i)), o, none] [] h C S K
  | 0, x, y, i, o, hi, hn, hk => by
    have hge : a_cnd .ge i ((Int16.ofInt 200).toInt32) = true := decide_eq_true (Int32.le_iff_toInt_le.mpr (by rw [hi]; decide))
    refine aOK_op0 (pc' := 11) (ls' := [some (.long (a)), none, some (.long (b)), none, some (.long (x)), none, some (.long (y)), none, some (.int (i)), o, none]) (st' := [.int (i)]) cd_9 rfl ?_
    refine aOK_op0 (pc' := 14) (ls' := [some (.long (a)), none, some (.long (b)), none, some (.long (x)), none, some (.long (y)), none, some (.int (i)), o, none]) (st' := [.int ((Int16.ofInt 200).toInt32), .int (i)]) cd_11 rfl ?_
    refine aOK_op0 (pc' := if a_cnd .ge (i) ((Int16.ofInt 200).toInt32) then 45 else 17) (ls' := [some (.long (a)), none, some (.long (b)), none, some (.long (x)), none, some (.long (y)), none, some (.int (i)), o, none]) (st' := []) cd_14 rfl ?_
    rw [if_pos hge]
    refine aOK_op0 (pc' := 47) (ls' := [some (.long (a)), none, some (.long (b)), none, some (.long (x)), none, some (.long (y)), none, some (.int (i)), o, none]) (st' := [.long (x)]) cd_45 rfl ?_
    exact aOK_ret cd_47 s_lreturn rfl (fun n e => by cases e) (hk)
  | n + 1, x, y, i, o, hi, hn, hk => by
    have hge : ¬ a_cnd .ge i ((Int16.ofInt 200).toInt32) = true := fun q => by
      have q2 := Int32.le_iff_toInt_le.mp (of_decide_eq_true q)
      have q3 : ((Int16.ofInt 200).toInt32).toInt = 200 := by decide
      rw [q3, hi] at q2
      omega
    by_cases hy : y = 0
    · have hy0 : a_cnd .eq (lg_cmp y (Int64.ofNat 0)) 0 = true := decide_eq_true ((lg_cmp_eq _ _).mpr hy)
      rw [s_gcd, if_pos hy] at hk
      refine aOK_op0 (pc' := 11) (ls' := [some (.long (a)), none, some (.long (b)), none, some (.long (x)), none, some (.long (y)), none, some (.int (i)), o, none]) (st' := [.int (i)]) cd_9 rfl ?_
      refine aOK_op0 (pc' := 14) (ls' := [some (.long (a)), none, some (.long (b)), none, some (.long (x)), none, some (.long (y)), none, some (.int (i)), o, none]) (st' := [.int ((Int16.ofInt 200).toInt32), .int (i)]) cd_11 rfl ?_
      refine aOK_op0 (pc' := if a_cnd .ge (i) ((Int16.ofInt 200).toInt32) then 45 else 17) (ls' := [some (.long (a)), none, some (.long (b)), none, some (.long (x)), none, some (.long (y)), none, some (.int (i)), o, none]) (st' := []) cd_14 rfl ?_
      rw [if_neg hge]
      refine aOK_op0 (pc' := 19) (ls' := [some (.long (a)), none, some (.long (b)), none, some (.long (x)), none, some (.long (y)), none, some (.int (i)), o, none]) (st' := [.long (y)]) cd_17 rfl ?_
      refine aOK_op0 (pc' := 20) (ls' := [some (.long (a)), none, some (.long (b)), none, some (.long (x)), none, some (.long (y)), none, some (.int (i)), o, none]) (st' := [.long (Int64.ofNat 0), .long (y)]) cd_19 rfl ?_
      refine aOK_op0 (pc' := 21) (ls' := [some (.long (a)), none, some (.long (b)), none, some (.long (x)), none, some (.long (y)), none, some (.int (i)), o, none]) (st' := [.int (lg_cmp (y) (Int64.ofNat 0))]) cd_20 rfl ?_
      refine aOK_op0 (pc' := if a_cnd .eq (lg_cmp (y) (Int64.ofNat 0)) (0) then 45 else 24) (ls' := [some (.long (a)), none, some (.long (b)), none, some (.long (x)), none, some (.long (y)), none, some (.int (i)), o, none]) (st' := []) cd_21 rfl ?_
      rw [if_pos hy0]
      refine aOK_op0 (pc' := 47) (ls' := [some (.long (a)), none, some (.long (b)), none, some (.long (x)), none, some (.long (y)), none, some (.int (i)), o, none]) (st' := [.long (x)]) cd_45 rfl ?_
      exact aOK_ret cd_47 s_lreturn rfl (fun n e => by cases e) (hk)
    · have hy0 : ¬ a_cnd .eq (lg_cmp y (Int64.ofNat 0)) 0 = true := fun q => hy ((lg_cmp_eq _ _).mp (of_decide_eq_true q))
      rw [s_gcd, if_neg hy] at hk
      refine aOK_op0 (pc' := 11) (ls' := [some (.long (a)), none, some (.long (b)), none, some (.long (x)), none, some (.long (y)), none, some (.int (i)), o, none]) (st' := [.int (i)]) cd_9 rfl ?_
      refine aOK_op0 (pc' := 14) (ls' := [some (.long (a)), none, some (.long (b)), none, some (.long (x)), none, some (.long (y)), none, some (.int (i)), o, none]) (st' := [.int ((Int16.ofInt 200).toInt32), .int (i)]) cd_11 rfl ?_
      refine aOK_op0 (pc' := if a_cnd .ge (i) ((Int16.ofInt 200).toInt32) then 45 else 17) (ls' := [some (.long (a)), none, some (.long (b)), none, some (.long (x)), none, some (.long (y)), none, some (.int (i)), o, none]) (st' := []) cd_14 rfl ?_
      rw [if_neg hge]
      refine aOK_op0 (pc' := 19) (ls' := [some (.long (a)), none, some (.long (b)), none, some (.long (x)), none, some (.long (y)), none, some (.int (i)), o, none]) (st' := [.long (y)]) cd_17 rfl ?_
      refine aOK_op0 (pc' := 20) (ls' := [some (.long (a)), none, some (.long (b)), none, some (.long (x)), none, some (.long (y)), none, some (.int (i)), o, none]) (st' := [.long (Int64.ofNat 0), .long (y)]) cd_19 rfl ?_
      refine aOK_op0 (pc' := 21) (ls' := [some (.long (a)), none, some (.long (b)), none, some (.long (x)), none, some (.long (y)), none, some (.int (i)), o, none]) (st' := [.int (lg_cmp (y) (Int64.ofNat 0))]) cd_20 rfl ?_
      refine aOK_op0 (pc' := if a_cnd .eq (lg_cmp (y) (Int64.ofNat 0)) (0) then 45 else 24) (ls' := [some (.long (a)), none, some (.long (b)), none, some (.long (x)), none, some (.long (y)), none, some (.int (i)), o, none]) (st' := []) cd_21 rfl ?_
      rw [if_neg hy0]
      refine aOK_op0 (pc' := 26) (ls' := [some (.long (a)), none, some (.long (b)), none, some (.long (x)), none, some (.long (y)), none, some (.int (i)), o, none]) (st' := [.long (x)]) cd_24 rfl ?_
      refine aOK_op0 (pc' := 28) (ls' := [some (.long (a)), none, some (.long (b)), none, some (.long (x)), none, some (.long (y)), none, some (.int (i)), o, none]) (st' := [.long (y), .long (x)]) cd_26 rfl ?_
      refine aOK_op0 (pc' := 29) (ls' := [some (.long (a)), none, some (.long (b)), none, some (.long (x)), none, some (.long (y)), none, some (.int (i)), o, none]) (st' := [.long ((x) - (x) / (y) * (y))]) cd_28 (s_lrem hy) ?_
      refine aOK_op0 (pc' := 31) (ls' := [some (.long (a)), none, some (.long (b)), none, some (.long (x)), none, some (.long (y)), none, some (.int (i)), some (.long ((x) - (x) / (y) * (y))), none]) (st' := []) cd_29 rfl ?_
      refine aOK_op0 (pc' := 33) (ls' := [some (.long (a)), none, some (.long (b)), none, some (.long (x)), none, some (.long (y)), none, some (.int (i)), some (.long ((x) - (x) / (y) * (y))), none]) (st' := [.long (y)]) cd_31 rfl ?_
      refine aOK_op0 (pc' := 35) (ls' := [some (.long (a)), none, some (.long (b)), none, some (.long (y)), none, some (.long (y)), none, some (.int (i)), some (.long ((x) - (x) / (y) * (y))), none]) (st' := []) cd_33 rfl ?_
      refine aOK_op0 (pc' := 37) (ls' := [some (.long (a)), none, some (.long (b)), none, some (.long (y)), none, some (.long (y)), none, some (.int (i)), some (.long ((x) - (x) / (y) * (y))), none]) (st' := [.long ((x) - (x) / (y) * (y))]) cd_35 rfl ?_
      refine aOK_op0 (pc' := 39) (ls' := [some (.long (a)), none, some (.long (b)), none, some (.long (y)), none, some (.long ((x) - (x) / (y) * (y))), none, some (.int (i)), some (.long ((x) - (x) / (y) * (y))), none]) (st' := []) cd_37 rfl ?_
      refine aOK_op0 (pc' := 42) (ls' := [some (.long (a)), none, some (.long (b)), none, some (.long (y)), none, some (.long ((x) - (x) / (y) * (y))), none, some (.int ((i) + Int32.ofInt 1)), some (.long ((x) - (x) / (y) * (y))), none]) (st' := []) cd_39 rfl ?_
      refine aOK_op0 (pc' := 9) (ls' := [some (.long (a)), none, some (.long (b)), none, some (.long (y)), none, some (.long ((x) - (x) / (y) * (y))), none, some (.int ((i) + Int32.ofInt 1)), some (.long ((x) - (x) / (y) * (y))), none]) (st' := []) cd_42 rfl ?_
      exact s_cd_loop a b n y _ _ _ (by
        rw [Int32.toInt_add, hi]
        have e1 : (Int32.ofInt 1).toInt = 1 := by decide
        rw [e1, Int.bmod_eq_of_le (by omega) (by omega)]
        omega) (by omega) hk
theorem s_cd_ok (a b : Int64) (hk : K (some (.long (s_gcd 200 a b))) h C S) : aOK P X d a_m41 0 [some (.long (a)), none, some (.long (b)), none, none, none, none, none, none, none, none] [] h C S K := by
  refine aOK_op0 (pc' := 1) (ls' := [some (.long (a)), none, some (.long (b)), none, none, none, none, none, none, none, none]) (st' := [.long (a)]) cd_0 rfl ?_
  refine aOK_op0 (pc' := 3) (ls' := [some (.long (a)), none, some (.long (b)), none, some (.long (a)), none, none, none, none, none, none]) (st' := []) cd_1 rfl ?_
  refine aOK_op0 (pc' := 4) (ls' := [some (.long (a)), none, some (.long (b)), none, some (.long (a)), none, none, none, none, none, none]) (st' := [.long (b)]) cd_3 rfl ?_
  refine aOK_op0 (pc' := 6) (ls' := [some (.long (a)), none, some (.long (b)), none, some (.long (a)), none, some (.long (b)), none, none, none, none]) (st' := []) cd_4 rfl ?_
  refine aOK_op0 (pc' := 7) (ls' := [some (.long (a)), none, some (.long (b)), none, some (.long (a)), none, some (.long (b)), none, none, none, none]) (st' := [.int (Int32.ofInt 0)]) cd_6 rfl ?_
  refine aOK_op0 (pc' := 9) (ls' := [some (.long (a)), none, some (.long (b)), none, some (.long (a)), none, some (.long (b)), none, some (.int (Int32.ofInt 0)), none, none]) (st' := []) cd_7 rfl ?_
  exact s_cd_loop a b 200 a b _ none (by decide) (Nat.le_refl _) hk
theorem cm_0 : a_m195.2.2.2.2.2.lookup 0 = some (.lload_n 0, 1, (0, 0, 0, 0)) := rfl
theorem cm_1 : a_m195.2.2.2.2.2.lookup 1 = some (.lconst 0, 1, (0, 0, 0, 0)) := rfl
theorem cm_2 : a_m195.2.2.2.2.2.lookup 2 = some (.lcmp, 1, (0, 0, 0, 0)) := rfl
theorem cm_3 : a_m195.2.2.2.2.2.lookup 3 = some (.ifCond .ge 8, 3, (0, 11, 0, 0)) := rfl
theorem cm_11 : a_m195.2.2.2.2.2.lookup 11 = some (.lload_n 0, 1, (0, 0, 0, 0)) := rfl
theorem cm_12 : a_m195.2.2.2.2.2.lookup 12 = some (.lstore 4, 2, (0, 0, 0, 0)) := rfl
theorem cm_14 : a_m195.2.2.2.2.2.lookup 14 = some (.lload_n 2, 1, (0, 0, 0, 0)) := rfl
theorem cm_15 : a_m195.2.2.2.2.2.lookup 15 = some (.lconst 0, 1, (0, 0, 0, 0)) := rfl
theorem cm_16 : a_m195.2.2.2.2.2.lookup 16 = some (.lcmp, 1, (0, 0, 0, 0)) := rfl
theorem cm_17 : a_m195.2.2.2.2.2.lookup 17 = some (.ifCond .ge 8, 3, (0, 25, 0, 0)) := rfl
theorem cm_20 : a_m195.2.2.2.2.2.lookup 20 = some (.lload_n 2, 1, (0, 0, 0, 0)) := rfl
theorem cm_21 : a_m195.2.2.2.2.2.lookup 21 = some (.lneg, 1, (0, 0, 0, 0)) := rfl
theorem cm_22 : a_m195.2.2.2.2.2.lookup 22 = some (.goto 4, 3, (0, 26, 0, 0)) := rfl
theorem cm_25 : a_m195.2.2.2.2.2.lookup 25 = some (.lload_n 2, 1, (0, 0, 0, 0)) := rfl
theorem cm_26 : a_m195.2.2.2.2.2.lookup 26 = some (.lstore 6, 2, (0, 0, 0, 0)) := rfl
theorem cm_28 : a_m195.2.2.2.2.2.lookup 28 = some (.lload 6, 2, (0, 0, 0, 0)) := rfl
theorem cm_30 : a_m195.2.2.2.2.2.lookup 30 = some (.lconst 0, 1, (0, 0, 0, 0)) := rfl
theorem cm_31 : a_m195.2.2.2.2.2.lookup 31 = some (.lcmp, 1, (0, 0, 0, 0)) := rfl
theorem cm_32 : a_m195.2.2.2.2.2.lookup 32 = some (.ifCond .eq 21, 3, (0, 53, 0, 0)) := rfl
theorem cm_35 : a_m195.2.2.2.2.2.lookup 35 = some (.lload 4, 2, (0, 0, 0, 0)) := rfl
theorem cm_37 : a_m195.2.2.2.2.2.lookup 37 = some (.lload 6, 2, (0, 0, 0, 0)) := rfl
theorem cm_39 : a_m195.2.2.2.2.2.lookup 39 = some (.lrem, 1, (0, 0, 0, 0)) := rfl
theorem cm_40 : a_m195.2.2.2.2.2.lookup 40 = some (.lstore 8, 2, (0, 0, 0, 0)) := rfl
theorem cm_42 : a_m195.2.2.2.2.2.lookup 42 = some (.lload 6, 2, (0, 0, 0, 0)) := rfl
theorem cm_44 : a_m195.2.2.2.2.2.lookup 44 = some (.lstore 4, 2, (0, 0, 0, 0)) := rfl
theorem cm_46 : a_m195.2.2.2.2.2.lookup 46 = some (.lload 8, 2, (0, 0, 0, 0)) := rfl
theorem cm_48 : a_m195.2.2.2.2.2.lookup 48 = some (.lstore 6, 2, (0, 0, 0, 0)) := rfl
theorem cm_50 : a_m195.2.2.2.2.2.lookup 50 = some (.goto (-22), 3, (0, 28, 0, 0)) := rfl
theorem cm_53 : a_m195.2.2.2.2.2.lookup 53 = some (.lload 4, 2, (0, 0, 0, 0)) := rfl
theorem cm_55 : a_m195.2.2.2.2.2.lookup 55 = some (.lreturn, 1, (0, 0, 0, 0)) := rfl
theorem s_rem_lt (x y : Int64) (hy : y ≠ 0) : (x - x / y * y).toInt.natAbs < y.toInt.natAbs := by
  rw [s_i64rem, Int.natAbs_tmod]
  exact Nat.mod_lt _ (Nat.pos_of_ne_zero (fun q => hy (Int64.toInt_inj.mp (Int.natAbs_eq_zero.mp q))))
theorem s_cm_loop (a b : Int64) : ∀ (n : Nat) (x y : Int64) (o : Option Value), y.toInt.natAbs < n → K (some (.long (s_gcd n x y))) h C S → aOK P X d a_m195 28 [some (.long (a)), none, some (.long (b)), none, some (.long (x)), none, some (.long (y)), none, o, none] [] h C S K
  | 0, x, y, o, hn, hk => absurd hn (Nat.not_lt_zero _)
  | n + 1, x, y, o, hn, hk => by
    by_cases hy : y = 0
    · have hy0 : a_cnd .eq (lg_cmp y (Int64.ofNat 0)) 0 = true := decide_eq_true ((lg_cmp_eq _ _).mpr hy)
      rw [s_gcd, if_pos hy] at hk
      refine aOK_op0 (pc' := 30) (ls' := [some (.long (a)), none, some (.long (b)), none, some (.long (x)), none, some (.long (y)), none, o, none]) (st' := [.long (y)]) cm_28 rfl ?_
      refine aOK_op0 (pc' := 31) (ls' := [some (.long (a)), none, some (.long (b)), none, some (.long (x)), none, some (.long (y)), none, o, none]) (st' := [.long (Int64.ofNat 0), .long (y)]) cm_30 rfl ?_
      refine aOK_op0 (pc' := 32) (ls' := [some (.long (a)), none, some (.long (b)), none, some (.long (x)), none, some (.long (y)), none, o, none]) (st' := [.int (lg_cmp (y) (Int64.ofNat 0))]) cm_31 rfl ?_
      refine aOK_op0 (pc' := if a_cnd .eq (lg_cmp (y) (Int64.ofNat 0)) (0) then 53 else 35) (ls' := [some (.long (a)), none, some (.long (b)), none, some (.long (x)), none, some (.long (y)), none, o, none]) (st' := []) cm_32 rfl ?_
      rw [if_pos hy0]
      refine aOK_op0 (pc' := 55) (ls' := [some (.long (a)), none, some (.long (b)), none, some (.long (x)), none, some (.long (y)), none, o, none]) (st' := [.long (x)]) cm_53 rfl ?_
      exact aOK_ret cm_55 s_lreturn rfl (fun n e => by cases e) (hk)
    · have hy0 : ¬ a_cnd .eq (lg_cmp y (Int64.ofNat 0)) 0 = true := fun q => hy ((lg_cmp_eq _ _).mp (of_decide_eq_true q))
      rw [s_gcd, if_neg hy] at hk
      refine aOK_op0 (pc' := 30) (ls' := [some (.long (a)), none, some (.long (b)), none, some (.long (x)), none, some (.long (y)), none, o, none]) (st' := [.long (y)]) cm_28 rfl ?_
      refine aOK_op0 (pc' := 31) (ls' := [some (.long (a)), none, some (.long (b)), none, some (.long (x)), none, some (.long (y)), none, o, none]) (st' := [.long (Int64.ofNat 0), .long (y)]) cm_30 rfl ?_
      refine aOK_op0 (pc' := 32) (ls' := [some (.long (a)), none, some (.long (b)), none, some (.long (x)), none, some (.long (y)), none, o, none]) (st' := [.int (lg_cmp (y) (Int64.ofNat 0))]) cm_31 rfl ?_
      refine aOK_op0 (pc' := if a_cnd .eq (lg_cmp (y) (Int64.ofNat 0)) (0) then 53 else 35) (ls' := [some (.long (a)), none, some (.long (b)), none, some (.long (x)), none, some (.long (y)), none, o, none]) (st' := []) cm_32 rfl ?_
      rw [if_neg hy0]
      refine aOK_op0 (pc' := 37) (ls' := [some (.long (a)), none, some (.long (b)), none, some (.long (x)), none, some (.long (y)), none, o, none]) (st' := [.long (x)]) cm_35 rfl ?_
      refine aOK_op0 (pc' := 39) (ls' := [some (.long (a)), none, some (.long (b)), none, some (.long (x)), none, some (.long (y)), none, o, none]) (st' := [.long (y), .long (x)]) cm_37 rfl ?_
      refine aOK_op0 (pc' := 40) (ls' := [some (.long (a)), none, some (.long (b)), none, some (.long (x)), none, some (.long (y)), none, o, none]) (st' := [.long ((x) - (x) / (y) * (y))]) cm_39 (s_lrem hy) ?_
      refine aOK_op0 (pc' := 42) (ls' := [some (.long (a)), none, some (.long (b)), none, some (.long (x)), none, some (.long (y)), none, some (.long ((x) - (x) / (y) * (y))), none]) (st' := []) cm_40 rfl ?_
      refine aOK_op0 (pc' := 44) (ls' := [some (.long (a)), none, some (.long (b)), none, some (.long (x)), none, some (.long (y)), none, some (.long ((x) - (x) / (y) * (y))), none]) (st' := [.long (y)]) cm_42 rfl ?_
      refine aOK_op0 (pc' := 46) (ls' := [some (.long (a)), none, some (.long (b)), none, some (.long (y)), none, some (.long (y)), none, some (.long ((x) - (x) / (y) * (y))), none]) (st' := []) cm_44 rfl ?_
      refine aOK_op0 (pc' := 48) (ls' := [some (.long (a)), none, some (.long (b)), none, some (.long (y)), none, some (.long (y)), none, some (.long ((x) - (x) / (y) * (y))), none]) (st' := [.long ((x) - (x) / (y) * (y))]) cm_46 rfl ?_
      refine aOK_op0 (pc' := 50) (ls' := [some (.long (a)), none, some (.long (b)), none, some (.long (y)), none, some (.long ((x) - (x) / (y) * (y))), none, some (.long ((x) - (x) / (y) * (y))), none]) (st' := []) cm_48 rfl ?_
      refine aOK_op0 (pc' := 28) (ls' := [some (.long (a)), none, some (.long (b)), none, some (.long (y)), none, some (.long ((x) - (x) / (y) * (y))), none, some (.long ((x) - (x) / (y) * (y))), none]) (st' := []) cm_50 rfl ?_
      exact s_cm_loop a b n y _ _ (by have := s_rem_lt x y hy; omega) hk
def s_abs (b : Int64) : Int64 := if 0 ≤ b then b else -b
def s_big : Nat := 9223372036854775810
theorem s_lt_big (x : Int64) : x.toInt.natAbs < s_big := by
  have h1 := x.le_toInt
  have h2 := x.toInt_lt
  unfold s_big
  omega
theorem s_cm_ok (a b : Int64) (ha0 : 0 ≤ a) (hk : K (some (.long (s_gcd s_big a (s_abs b)))) h C S) : aOK P X d a_m195 0 [some (.long (a)), none, some (.long (b)), none, none, none, none, none, none, none] [] h C S K := by
  have ha : a_cnd .ge (lg_cmp a (Int64.ofNat 0)) 0 = true := decide_eq_true ((lg_cmp_ge _ _).mpr ha0)
  by_cases hb0 : 0 ≤ b
  · have hb : a_cnd .ge (lg_cmp b (Int64.ofNat 0)) 0 = true := decide_eq_true ((lg_cmp_ge _ _).mpr hb0)
    rw [show s_abs b = b from if_pos hb0] at hk
    refine aOK_op0 (pc' := 1) (ls' := [some (.long (a)), none, some (.long (b)), none, none, none, none, none, none, none]) (st' := [.long (a)]) cm_0 rfl ?_
    refine aOK_op0 (pc' := 2) (ls' := [some (.long (a)), none, some (.long (b)), none, none, none, none, none, none, none]) (st' := [.long (Int64.ofNat 0), .long (a)]) cm_1 rfl ?_
    refine aOK_op0 (pc' := 3) (ls' := [some (.long (a)), none, some (.long (b)), none, none, none, none, none, none, none]) (st' := [.int (lg_cmp (a) (Int64.ofNat 0))]) cm_2 rfl ?_
    refine aOK_op0 (pc' := if a_cnd .ge (lg_cmp (a) (Int64.ofNat 0)) (0) then 11 else 6) (ls' := [some (.long (a)), none, some (.long (b)), none, none, none, none, none, none, none]) (st' := []) cm_3 rfl ?_
    rw [if_pos ha]
    refine aOK_op0 (pc' := 12) (ls' := [some (.long (a)), none, some (.long (b)), none, none, none, none, none, none, none]) (st' := [.long (a)]) cm_11 rfl ?_
    refine aOK_op0 (pc' := 14) (ls' := [some (.long (a)), none, some (.long (b)), none, some (.long (a)), none, none, none, none, none]) (st' := []) cm_12 rfl ?_
    refine aOK_op0 (pc' := 15) (ls' := [some (.long (a)), none, some (.long (b)), none, some (.long (a)), none, none, none, none, none]) (st' := [.long (b)]) cm_14 rfl ?_
    refine aOK_op0 (pc' := 16) (ls' := [some (.long (a)), none, some (.long (b)), none, some (.long (a)), none, none, none, none, none]) (st' := [.long (Int64.ofNat 0), .long (b)]) cm_15 rfl ?_
    refine aOK_op0 (pc' := 17) (ls' := [some (.long (a)), none, some (.long (b)), none, some (.long (a)), none, none, none, none, none]) (st' := [.int (lg_cmp (b) (Int64.ofNat 0))]) cm_16 rfl ?_
    refine aOK_op0 (pc' := if a_cnd .ge (lg_cmp (b) (Int64.ofNat 0)) (0) then 25 else 20) (ls' := [some (.long (a)), none, some (.long (b)), none, some (.long (a)), none, none, none, none, none]) (st' := []) cm_17 rfl ?_
    rw [if_pos hb]
    refine aOK_op0 (pc' := 26) (ls' := [some (.long (a)), none, some (.long (b)), none, some (.long (a)), none, none, none, none, none]) (st' := [.long (b)]) cm_25 rfl ?_
    refine aOK_op0 (pc' := 28) (ls' := [some (.long (a)), none, some (.long (b)), none, some (.long (a)), none, some (.long (b)), none, none, none]) (st' := []) cm_26 rfl ?_
    exact s_cm_loop a b s_big a b none (s_lt_big _) hk
  · have hb : ¬ a_cnd .ge (lg_cmp b (Int64.ofNat 0)) 0 = true := fun q => hb0 ((lg_cmp_ge _ _).mp (of_decide_eq_true q))
    rw [show s_abs b = -b from if_neg hb0] at hk
    refine aOK_op0 (pc' := 1) (ls' := [some (.long (a)), none, some (.long (b)), none, none, none, none, none, none, none]) (st' := [.long (a)]) cm_0 rfl ?_
    refine aOK_op0 (pc' := 2) (ls' := [some (.long (a)), none, some (.long (b)), none, none, none, none, none, none, none]) (st' := [.long (Int64.ofNat 0), .long (a)]) cm_1 rfl ?_
    refine aOK_op0 (pc' := 3) (ls' := [some (.long (a)), none, some (.long (b)), none, none, none, none, none, none, none]) (st' := [.int (lg_cmp (a) (Int64.ofNat 0))]) cm_2 rfl ?_
    refine aOK_op0 (pc' := if a_cnd .ge (lg_cmp (a) (Int64.ofNat 0)) (0) then 11 else 6) (ls' := [some (.long (a)), none, some (.long (b)), none, none, none, none, none, none, none]) (st' := []) cm_3 rfl ?_
    rw [if_pos ha]
    refine aOK_op0 (pc' := 12) (ls' := [some (.long (a)), none, some (.long (b)), none, none, none, none, none, none, none]) (st' := [.long (a)]) cm_11 rfl ?_
    refine aOK_op0 (pc' := 14) (ls' := [some (.long (a)), none, some (.long (b)), none, some (.long (a)), none, none, none, none, none]) (st' := []) cm_12 rfl ?_
    refine aOK_op0 (pc' := 15) (ls' := [some (.long (a)), none, some (.long (b)), none, some (.long (a)), none, none, none, none, none]) (st' := [.long (b)]) cm_14 rfl ?_
    refine aOK_op0 (pc' := 16) (ls' := [some (.long (a)), none, some (.long (b)), none, some (.long (a)), none, none, none, none, none]) (st' := [.long (Int64.ofNat 0), .long (b)]) cm_15 rfl ?_
    refine aOK_op0 (pc' := 17) (ls' := [some (.long (a)), none, some (.long (b)), none, some (.long (a)), none, none, none, none, none]) (st' := [.int (lg_cmp (b) (Int64.ofNat 0))]) cm_16 rfl ?_
    refine aOK_op0 (pc' := if a_cnd .ge (lg_cmp (b) (Int64.ofNat 0)) (0) then 25 else 20) (ls' := [some (.long (a)), none, some (.long (b)), none, some (.long (a)), none, none, none, none, none]) (st' := []) cm_17 rfl ?_
    rw [if_neg hb]
    refine aOK_op0 (pc' := 21) (ls' := [some (.long (a)), none, some (.long (b)), none, some (.long (a)), none, none, none, none, none]) (st' := [.long (b)]) cm_20 rfl ?_
    refine aOK_op0 (pc' := 22) (ls' := [some (.long (a)), none, some (.long (b)), none, some (.long (a)), none, none, none, none, none]) (st' := [.long (-(b))]) cm_21 rfl ?_
    refine aOK_op0 (pc' := 26) (ls' := [some (.long (a)), none, some (.long (b)), none, some (.long (a)), none, none, none, none, none]) (st' := [.long (-(b))]) cm_22 rfl ?_
    refine aOK_op0 (pc' := 28) (ls' := [some (.long (a)), none, some (.long (b)), none, some (.long (a)), none, some (.long (-(b))), none, none, none]) (st' := []) cm_26 rfl ?_
    exact s_cm_loop a b s_big a (-b) none (s_lt_big _) hk
theorem mcl_17 : a_c145.lookup 17 = some (.iload 5, 2, (0, 0, 0, 0)) := rfl
theorem mcl_19 : a_c145.lookup 19 = some (.ldc_w 348, 3, (15, 5057, 0, 100000)) := rfl
theorem mcl_22 : a_c145.lookup 22 = some (.if_icmp .gt 30, 3, (0, 52, 0, 0)) := rfl
theorem mcl_25 : a_c145.lookup 25 = some (.lload_n 3, 1, (0, 0, 0, 0)) := rfl
theorem mcl_26 : a_c145.lookup 26 = some (.ldc2_w 349, 3, (16, 5058, 0, 500000000)) := rfl
theorem mcl_29 : a_c145.lookup 29 = some (.lcmp, 1, (0, 0, 0, 0)) := rfl
theorem mcl_30 : a_c145.lookup 30 = some (.ifCond .gt 6, 3, (0, 36, 0, 0)) := rfl
theorem mcl_33 : a_c145.lookup 33 = some (.iload 5, 2, (0, 0, 0, 0)) := rfl
theorem mcl_35 : a_c145.lookup 35 = some (.ireturn, 1, (0, 0, 0, 0)) := rfl
theorem mcl_36 : a_c145.lookup 36 = some (.lload_n 3, 1, (0, 0, 0, 0)) := rfl
theorem mcl_37 : a_c145.lookup 37 = some (.iload_n 2, 1, (0, 0, 0, 0)) := rfl
theorem mcl_38 : a_c145.lookup 38 = some (.iload_n 1, 1, (0, 0, 0, 0)) := rfl
theorem mcl_39 : a_c145.lookup 39 = some (.isub, 1, (0, 0, 0, 0)) := rfl
theorem mcl_40 : a_c145.lookup 40 = some (.i2l, 1, (0, 0, 0, 0)) := rfl
theorem mcl_41 : a_c145.lookup 41 = some (.lmul, 1, (0, 0, 0, 0)) := rfl
theorem mcl_42 : a_c145.lookup 42 = some (.iload_n 2, 1, (0, 0, 0, 0)) := rfl
theorem mcl_43 : a_c145.lookup 43 = some (.i2l, 1, (0, 0, 0, 0)) := rfl
theorem mcl_44 : a_c145.lookup 44 = some (.ldiv, 1, (0, 0, 0, 0)) := rfl
theorem mcl_45 : a_c145.lookup 45 = some (.lstore_n 3, 1, (0, 0, 0, 0)) := rfl
theorem mcl_46 : a_c145.lookup 46 = some (.iinc 5 1, 3, (0, 0, 0, 0)) := rfl
theorem mcl_49 : a_c145.lookup 49 = some (.goto (-32), 3, (0, 17, 0, 0)) := rfl
theorem mcl_52 : a_c145.lookup 52 = some (.bipush (-2), 2, (0, 0, 0, 0)) := rfl
theorem mcl_54 : a_c145.lookup 54 = some (.ireturn, 1, (0, 0, 0, 0)) := rfl
theorem s_mc_loop (hM : M.2.2.2.2.2 = a_c145) (hR : M.2.2.2.1 = some .int) (t : Value) (a b : Int32) (hb : b.toInt64 ≠ 0) : ∀ (n : Nat) (l : Int64) (k : Int32), k.toInt = 100001 - (n : Int) → n ≤ 100001 → K (some (.int (s_mny a b n l k))) h C S → aOK P X d M 17 [some ((t)), some (.int (a)), some (.int (b)), some (.long (l)), none, some (.int (k))] [] h C S K
  | 0, l, k, hi, hn, hk => by
    have hgt : a_cnd .gt k (Int32.ofInt 100000) = true := decide_eq_true (Int32.lt_iff_toInt_lt.mpr (by rw [hi]; decide))
    refine aOK_op0 (pc' := 19) (ls' := [some ((t)), some (.int (a)), some (.int (b)), some (.long (l)), none, some (.int (k))]) (st' := [.int (k)]) (by rw [hM]; exact mcl_17) rfl ?_
    refine aOK_op0 (pc' := 22) (ls' := [some ((t)), some (.int (a)), some (.int (b)), some (.long (l)), none, some (.int (k))]) (st' := [.int (Int32.ofInt 100000), .int (k)]) (by rw [hM]; exact mcl_19) rfl ?_
    refine aOK_op0 (pc' := if a_cnd .gt (k) (Int32.ofInt 100000) then 52 else 25) (ls' := [some ((t)), some (.int (a)), some (.int (b)), some (.long (l)), none, some (.int (k))]) (st' := []) (by rw [hM]; exact mcl_22) rfl ?_
    rw [if_pos hgt]
    refine aOK_op0 (pc' := 54) (ls' := [some ((t)), some (.int (a)), some (.int (b)), some (.long (l)), none, some (.int (k))]) (st' := [.int ((Int8.ofInt (-2)).toInt32)]) (by rw [hM]; exact mcl_52) rfl ?_
    exact aOK_ret (by rw [hM]; exact mcl_54) s_ireturn (by rw [hR]; rfl) (fun n e => by cases e) (hk)
  | n + 1, l, k, hi, hn, hk => by
    have hgt : ¬ a_cnd .gt k (Int32.ofInt 100000) = true := fun q => by
      have q2 := Int32.lt_iff_toInt_lt.mp (of_decide_eq_true q)
      have q3 : (Int32.ofInt 100000).toInt = 100000 := by decide
      rw [q3, hi] at q2
      omega
    by_cases hl : l ≤ Int64.ofInt 500000000
    · have hl0 : ¬ a_cnd .gt (lg_cmp l (Int64.ofInt 500000000)) 0 = true := fun q => absurd ((lg_cmp_gt _ _).mp (of_decide_eq_true q)) (Int64.not_lt.mpr hl)
      rw [s_mny, if_pos hl] at hk
      refine aOK_op0 (pc' := 19) (ls' := [some ((t)), some (.int (a)), some (.int (b)), some (.long (l)), none, some (.int (k))]) (st' := [.int (k)]) (by rw [hM]; exact mcl_17) rfl ?_
      refine aOK_op0 (pc' := 22) (ls' := [some ((t)), some (.int (a)), some (.int (b)), some (.long (l)), none, some (.int (k))]) (st' := [.int (Int32.ofInt 100000), .int (k)]) (by rw [hM]; exact mcl_19) rfl ?_
      refine aOK_op0 (pc' := if a_cnd .gt (k) (Int32.ofInt 100000) then 52 else 25) (ls' := [some ((t)), some (.int (a)), some (.int (b)), some (.long (l)), none, some (.int (k))]) (st' := []) (by rw [hM]; exact mcl_22) rfl ?_
      rw [if_neg hgt]
      refine aOK_op0 (pc' := 26) (ls' := [some ((t)), some (.int (a)), some (.int (b)), some (.long (l)), none, some (.int (k))]) (st' := [.long (l)]) (by rw [hM]; exact mcl_25) rfl ?_
      refine aOK_op0 (pc' := 29) (ls' := [some ((t)), some (.int (a)), some (.int (b)), some (.long (l)), none, some (.int (k))]) (st' := [.long (Int64.ofInt 500000000), .long (l)]) (by rw [hM]; exact mcl_26) rfl ?_
      refine aOK_op0 (pc' := 30) (ls' := [some ((t)), some (.int (a)), some (.int (b)), some (.long (l)), none, some (.int (k))]) (st' := [.int (lg_cmp (l) (Int64.ofInt 500000000))]) (by rw [hM]; exact mcl_29) rfl ?_
      refine aOK_op0 (pc' := if a_cnd .gt (lg_cmp (l) (Int64.ofInt 500000000)) (0) then 36 else 33) (ls' := [some ((t)), some (.int (a)), some (.int (b)), some (.long (l)), none, some (.int (k))]) (st' := []) (by rw [hM]; exact mcl_30) rfl ?_
      rw [if_neg hl0]
      refine aOK_op0 (pc' := 35) (ls' := [some ((t)), some (.int (a)), some (.int (b)), some (.long (l)), none, some (.int (k))]) (st' := [.int (k)]) (by rw [hM]; exact mcl_33) rfl ?_
      exact aOK_ret (by rw [hM]; exact mcl_35) s_ireturn (by rw [hR]; rfl) (fun n e => by cases e) (hk)
    · have hl0 : a_cnd .gt (lg_cmp l (Int64.ofInt 500000000)) 0 = true := decide_eq_true ((lg_cmp_gt _ _).mpr (Int64.not_le.mp hl))
      rw [s_mny, if_neg hl] at hk
      refine aOK_op0 (pc' := 19) (ls' := [some ((t)), some (.int (a)), some (.int (b)), some (.long (l)), none, some (.int (k))]) (st' := [.int (k)]) (by rw [hM]; exact mcl_17) rfl ?_
      refine aOK_op0 (pc' := 22) (ls' := [some ((t)), some (.int (a)), some (.int (b)), some (.long (l)), none, some (.int (k))]) (st' := [.int (Int32.ofInt 100000), .int (k)]) (by rw [hM]; exact mcl_19) rfl ?_
      refine aOK_op0 (pc' := if a_cnd .gt (k) (Int32.ofInt 100000) then 52 else 25) (ls' := [some ((t)), some (.int (a)), some (.int (b)), some (.long (l)), none, some (.int (k))]) (st' := []) (by rw [hM]; exact mcl_22) rfl ?_
      rw [if_neg hgt]
      refine aOK_op0 (pc' := 26) (ls' := [some ((t)), some (.int (a)), some (.int (b)), some (.long (l)), none, some (.int (k))]) (st' := [.long (l)]) (by rw [hM]; exact mcl_25) rfl ?_
      refine aOK_op0 (pc' := 29) (ls' := [some ((t)), some (.int (a)), some (.int (b)), some (.long (l)), none, some (.int (k))]) (st' := [.long (Int64.ofInt 500000000), .long (l)]) (by rw [hM]; exact mcl_26) rfl ?_
      refine aOK_op0 (pc' := 30) (ls' := [some ((t)), some (.int (a)), some (.int (b)), some (.long (l)), none, some (.int (k))]) (st' := [.int (lg_cmp (l) (Int64.ofInt 500000000))]) (by rw [hM]; exact mcl_29) rfl ?_
      refine aOK_op0 (pc' := if a_cnd .gt (lg_cmp (l) (Int64.ofInt 500000000)) (0) then 36 else 33) (ls' := [some ((t)), some (.int (a)), some (.int (b)), some (.long (l)), none, some (.int (k))]) (st' := []) (by rw [hM]; exact mcl_30) rfl ?_
      rw [if_pos hl0]
      refine aOK_op0 (pc' := 37) (ls' := [some ((t)), some (.int (a)), some (.int (b)), some (.long (l)), none, some (.int (k))]) (st' := [.long (l)]) (by rw [hM]; exact mcl_36) rfl ?_
      refine aOK_op0 (pc' := 38) (ls' := [some ((t)), some (.int (a)), some (.int (b)), some (.long (l)), none, some (.int (k))]) (st' := [.int (b), .long (l)]) (by rw [hM]; exact mcl_37) rfl ?_
      refine aOK_op0 (pc' := 39) (ls' := [some ((t)), some (.int (a)), some (.int (b)), some (.long (l)), none, some (.int (k))]) (st' := [.int (a), .int (b), .long (l)]) (by rw [hM]; exact mcl_38) rfl ?_
      refine aOK_op0 (pc' := 40) (ls' := [some ((t)), some (.int (a)), some (.int (b)), some (.long (l)), none, some (.int (k))]) (st' := [.int ((b) - (a)), .long (l)]) (by rw [hM]; exact mcl_39) rfl ?_
      refine aOK_op0 (pc' := 41) (ls' := [some ((t)), some (.int (a)), some (.int (b)), some (.long (l)), none, some (.int (k))]) (st' := [.long (((b) - (a)).toInt64), .long (l)]) (by rw [hM]; exact mcl_40) rfl ?_
      refine aOK_op0 (pc' := 42) (ls' := [some ((t)), some (.int (a)), some (.int (b)), some (.long (l)), none, some (.int (k))]) (st' := [.long ((l) * (((b) - (a)).toInt64))]) (by rw [hM]; exact mcl_41) rfl ?_
      refine aOK_op0 (pc' := 43) (ls' := [some ((t)), some (.int (a)), some (.int (b)), some (.long (l)), none, some (.int (k))]) (st' := [.int (b), .long ((l) * (((b) - (a)).toInt64))]) (by rw [hM]; exact mcl_42) rfl ?_
      refine aOK_op0 (pc' := 44) (ls' := [some ((t)), some (.int (a)), some (.int (b)), some (.long (l)), none, some (.int (k))]) (st' := [.long ((b).toInt64), .long ((l) * (((b) - (a)).toInt64))]) (by rw [hM]; exact mcl_43) rfl ?_
      refine aOK_op0 (pc' := 45) (ls' := [some ((t)), some (.int (a)), some (.int (b)), some (.long (l)), none, some (.int (k))]) (st' := [.long (((l) * (((b) - (a)).toInt64)) / ((b).toInt64))]) (by rw [hM]; exact mcl_44) (s_ldiv hb) ?_
      refine aOK_op0 (pc' := 46) (ls' := [some ((t)), some (.int (a)), some (.int (b)), some (.long (((l) * (((b) - (a)).toInt64)) / ((b).toInt64))), none, some (.int (k))]) (st' := []) (by rw [hM]; exact mcl_45) rfl ?_
      refine aOK_op0 (pc' := 49) (ls' := [some ((t)), some (.int (a)), some (.int (b)), some (.long (((l) * (((b) - (a)).toInt64)) / ((b).toInt64))), none, some (.int ((k) + Int32.ofInt 1))]) (st' := []) (by rw [hM]; exact mcl_46) rfl ?_
      refine aOK_op0 (pc' := 17) (ls' := [some ((t)), some (.int (a)), some (.int (b)), some (.long (((l) * (((b) - (a)).toInt64)) / ((b).toInt64))), none, some (.int ((k) + Int32.ofInt 1))]) (st' := []) (by rw [hM]; exact mcl_49) rfl ?_
      exact s_mc_loop hM hR t a b hb n _ _ (by
        rw [Int32.toInt_add, hi]
        have e1 : (Int32.ofInt 1).toInt = 1 := by decide
        rw [e1, Int.bmod_eq_of_le (by omega) (by omega)]
        omega) (by omega) hk
theorem mrl_22 : a_c267.lookup 22 = some (.iload 5, 2, (0, 0, 0, 0)) := rfl
theorem mrl_24 : a_c267.lookup 24 = some (.ldc_w 442, 3, (15, 7151, 0, 100000)) := rfl
theorem mrl_27 : a_c267.lookup 27 = some (.if_icmp .gt 30, 3, (0, 57, 0, 0)) := rfl
theorem mrl_30 : a_c267.lookup 30 = some (.lload_n 3, 1, (0, 0, 0, 0)) := rfl
theorem mrl_31 : a_c267.lookup 31 = some (.ldc2_w 443, 3, (16, 7152, 0, 500000000)) := rfl
theorem mrl_34 : a_c267.lookup 34 = some (.lcmp, 1, (0, 0, 0, 0)) := rfl
theorem mrl_35 : a_c267.lookup 35 = some (.ifCond .gt 6, 3, (0, 41, 0, 0)) := rfl
theorem mrl_38 : a_c267.lookup 38 = some (.iload 5, 2, (0, 0, 0, 0)) := rfl
theorem mrl_40 : a_c267.lookup 40 = some (.ireturn, 1, (0, 0, 0, 0)) := rfl
theorem mrl_41 : a_c267.lookup 41 = some (.lload_n 3, 1, (0, 0, 0, 0)) := rfl
theorem mrl_42 : a_c267.lookup 42 = some (.iload_n 2, 1, (0, 0, 0, 0)) := rfl
theorem mrl_43 : a_c267.lookup 43 = some (.iload_n 1, 1, (0, 0, 0, 0)) := rfl
theorem mrl_44 : a_c267.lookup 44 = some (.isub, 1, (0, 0, 0, 0)) := rfl
theorem mrl_45 : a_c267.lookup 45 = some (.i2l, 1, (0, 0, 0, 0)) := rfl
theorem mrl_46 : a_c267.lookup 46 = some (.lmul, 1, (0, 0, 0, 0)) := rfl
theorem mrl_47 : a_c267.lookup 47 = some (.iload_n 2, 1, (0, 0, 0, 0)) := rfl
theorem mrl_48 : a_c267.lookup 48 = some (.i2l, 1, (0, 0, 0, 0)) := rfl
theorem mrl_49 : a_c267.lookup 49 = some (.ldiv, 1, (0, 0, 0, 0)) := rfl
theorem mrl_50 : a_c267.lookup 50 = some (.lstore_n 3, 1, (0, 0, 0, 0)) := rfl
theorem mrl_51 : a_c267.lookup 51 = some (.iinc 5 1, 3, (0, 0, 0, 0)) := rfl
theorem mrl_54 : a_c267.lookup 54 = some (.goto (-32), 3, (0, 22, 0, 0)) := rfl
theorem mrl_57 : a_c267.lookup 57 = some (.bipush (-2), 2, (0, 0, 0, 0)) := rfl
theorem mrl_59 : a_c267.lookup 59 = some (.ireturn, 1, (0, 0, 0, 0)) := rfl
theorem s_mr_loop (hM : M.2.2.2.2.2 = a_c267) (hR : M.2.2.2.1 = some .int) (t : Value) (a b : Int32) (hb : b.toInt64 ≠ 0) : ∀ (n : Nat) (l : Int64) (k : Int32), k.toInt = 100001 - (n : Int) → n ≤ 100001 → K (some (.int (s_mny a b n l k))) h C S → aOK P X d M 22 [some ((t)), some (.int (a)), some (.int (b)), some (.long (l)), none, some (.int (k))] [] h C S K
  | 0, l, k, hi, hn, hk => by
    have hgt : a_cnd .gt k (Int32.ofInt 100000) = true := decide_eq_true (Int32.lt_iff_toInt_lt.mpr (by rw [hi]; decide))
    refine aOK_op0 (pc' := 24) (ls' := [some ((t)), some (.int (a)), some (.int (b)), some (.long (l)), none, some (.int (k))]) (st' := [.int (k)]) (by rw [hM]; exact mrl_22) rfl ?_
    refine aOK_op0 (pc' := 27) (ls' := [some ((t)), some (.int (a)), some (.int (b)), some (.long (l)), none, some (.int (k))]) (st' := [.int (Int32.ofInt 100000), .int (k)]) (by rw [hM]; exact mrl_24) rfl ?_
    refine aOK_op0 (pc' := if a_cnd .gt (k) (Int32.ofInt 100000) then 57 else 30) (ls' := [some ((t)), some (.int (a)), some (.int (b)), some (.long (l)), none, some (.int (k))]) (st' := []) (by rw [hM]; exact mrl_27) rfl ?_
    rw [if_pos hgt]
    refine aOK_op0 (pc' := 59) (ls' := [some ((t)), some (.int (a)), some (.int (b)), some (.long (l)), none, some (.int (k))]) (st' := [.int ((Int8.ofInt (-2)).toInt32)]) (by rw [hM]; exact mrl_57) rfl ?_
    exact aOK_ret (by rw [hM]; exact mrl_59) s_ireturn (by rw [hR]; rfl) (fun n e => by cases e) (hk)
  | n + 1, l, k, hi, hn, hk => by
    have hgt : ¬ a_cnd .gt k (Int32.ofInt 100000) = true := fun q => by
      have q2 := Int32.lt_iff_toInt_lt.mp (of_decide_eq_true q)
      have q3 : (Int32.ofInt 100000).toInt = 100000 := by decide
      rw [q3, hi] at q2
      omega
    by_cases hl : l ≤ Int64.ofInt 500000000
    · have hl0 : ¬ a_cnd .gt (lg_cmp l (Int64.ofInt 500000000)) 0 = true := fun q => absurd ((lg_cmp_gt _ _).mp (of_decide_eq_true q)) (Int64.not_lt.mpr hl)
      rw [s_mny, if_pos hl] at hk
      refine aOK_op0 (pc' := 24) (ls' := [some ((t)), some (.int (a)), some (.int (b)), some (.long (l)), none, some (.int (k))]) (st' := [.int (k)]) (by rw [hM]; exact mrl_22) rfl ?_
      refine aOK_op0 (pc' := 27) (ls' := [some ((t)), some (.int (a)), some (.int (b)), some (.long (l)), none, some (.int (k))]) (st' := [.int (Int32.ofInt 100000), .int (k)]) (by rw [hM]; exact mrl_24) rfl ?_
      refine aOK_op0 (pc' := if a_cnd .gt (k) (Int32.ofInt 100000) then 57 else 30) (ls' := [some ((t)), some (.int (a)), some (.int (b)), some (.long (l)), none, some (.int (k))]) (st' := []) (by rw [hM]; exact mrl_27) rfl ?_
      rw [if_neg hgt]
      refine aOK_op0 (pc' := 31) (ls' := [some ((t)), some (.int (a)), some (.int (b)), some (.long (l)), none, some (.int (k))]) (st' := [.long (l)]) (by rw [hM]; exact mrl_30) rfl ?_
      refine aOK_op0 (pc' := 34) (ls' := [some ((t)), some (.int (a)), some (.int (b)), some (.long (l)), none, some (.int (k))]) (st' := [.long (Int64.ofInt 500000000), .long (l)]) (by rw [hM]; exact mrl_31) rfl ?_
      refine aOK_op0 (pc' := 35) (ls' := [some ((t)), some (.int (a)), some (.int (b)), some (.long (l)), none, some (.int (k))]) (st' := [.int (lg_cmp (l) (Int64.ofInt 500000000))]) (by rw [hM]; exact mrl_34) rfl ?_
      refine aOK_op0 (pc' := if a_cnd .gt (lg_cmp (l) (Int64.ofInt 500000000)) (0) then 41 else 38) (ls' := [some ((t)), some (.int (a)), some (.int (b)), some (.long (l)), none, some (.int (k))]) (st' := []) (by rw [hM]; exact mrl_35) rfl ?_
      rw [if_neg hl0]
      refine aOK_op0 (pc' := 40) (ls' := [some ((t)), some (.int (a)), some (.int (b)), some (.long (l)), none, some (.int (k))]) (st' := [.int (k)]) (by rw [hM]; exact mrl_38) rfl ?_
      exact aOK_ret (by rw [hM]; exact mrl_40) s_ireturn (by rw [hR]; rfl) (fun n e => by cases e) (hk)
    · have hl0 : a_cnd .gt (lg_cmp l (Int64.ofInt 500000000)) 0 = true := decide_eq_true ((lg_cmp_gt _ _).mpr (Int64.not_le.mp hl))
      rw [s_mny, if_neg hl] at hk
      refine aOK_op0 (pc' := 24) (ls' := [some ((t)), some (.int (a)), some (.int (b)), some (.long (l)), none, some (.int (k))]) (st' := [.int (k)]) (by rw [hM]; exact mrl_22) rfl ?_
      refine aOK_op0 (pc' := 27) (ls' := [some ((t)), some (.int (a)), some (.int (b)), some (.long (l)), none, some (.int (k))]) (st' := [.int (Int32.ofInt 100000), .int (k)]) (by rw [hM]; exact mrl_24) rfl ?_
      refine aOK_op0 (pc' := if a_cnd .gt (k) (Int32.ofInt 100000) then 57 else 30) (ls' := [some ((t)), some (.int (a)), some (.int (b)), some (.long (l)), none, some (.int (k))]) (st' := []) (by rw [hM]; exact mrl_27) rfl ?_
      rw [if_neg hgt]
      refine aOK_op0 (pc' := 31) (ls' := [some ((t)), some (.int (a)), some (.int (b)), some (.long (l)), none, some (.int (k))]) (st' := [.long (l)]) (by rw [hM]; exact mrl_30) rfl ?_
      refine aOK_op0 (pc' := 34) (ls' := [some ((t)), some (.int (a)), some (.int (b)), some (.long (l)), none, some (.int (k))]) (st' := [.long (Int64.ofInt 500000000), .long (l)]) (by rw [hM]; exact mrl_31) rfl ?_
      refine aOK_op0 (pc' := 35) (ls' := [some ((t)), some (.int (a)), some (.int (b)), some (.long (l)), none, some (.int (k))]) (st' := [.int (lg_cmp (l) (Int64.ofInt 500000000))]) (by rw [hM]; exact mrl_34) rfl ?_
      refine aOK_op0 (pc' := if a_cnd .gt (lg_cmp (l) (Int64.ofInt 500000000)) (0) then 41 else 38) (ls' := [some ((t)), some (.int (a)), some (.int (b)), some (.long (l)), none, some (.int (k))]) (st' := []) (by rw [hM]; exact mrl_35) rfl ?_
      rw [if_pos hl0]
      refine aOK_op0 (pc' := 42) (ls' := [some ((t)), some (.int (a)), some (.int (b)), some (.long (l)), none, some (.int (k))]) (st' := [.long (l)]) (by rw [hM]; exact mrl_41) rfl ?_
      refine aOK_op0 (pc' := 43) (ls' := [some ((t)), some (.int (a)), some (.int (b)), some (.long (l)), none, some (.int (k))]) (st' := [.int (b), .long (l)]) (by rw [hM]; exact mrl_42) rfl ?_
      refine aOK_op0 (pc' := 44) (ls' := [some ((t)), some (.int (a)), some (.int (b)), some (.long (l)), none, some (.int (k))]) (st' := [.int (a), .int (b), .long (l)]) (by rw [hM]; exact mrl_43) rfl ?_
      refine aOK_op0 (pc' := 45) (ls' := [some ((t)), some (.int (a)), some (.int (b)), some (.long (l)), none, some (.int (k))]) (st' := [.int ((b) - (a)), .long (l)]) (by rw [hM]; exact mrl_44) rfl ?_
      refine aOK_op0 (pc' := 46) (ls' := [some ((t)), some (.int (a)), some (.int (b)), some (.long (l)), none, some (.int (k))]) (st' := [.long (((b) - (a)).toInt64), .long (l)]) (by rw [hM]; exact mrl_45) rfl ?_
      refine aOK_op0 (pc' := 47) (ls' := [some ((t)), some (.int (a)), some (.int (b)), some (.long (l)), none, some (.int (k))]) (st' := [.long ((l) * (((b) - (a)).toInt64))]) (by rw [hM]; exact mrl_46) rfl ?_
      refine aOK_op0 (pc' := 48) (ls' := [some ((t)), some (.int (a)), some (.int (b)), some (.long (l)), none, some (.int (k))]) (st' := [.int (b), .long ((l) * (((b) - (a)).toInt64))]) (by rw [hM]; exact mrl_47) rfl ?_
      refine aOK_op0 (pc' := 49) (ls' := [some ((t)), some (.int (a)), some (.int (b)), some (.long (l)), none, some (.int (k))]) (st' := [.long ((b).toInt64), .long ((l) * (((b) - (a)).toInt64))]) (by rw [hM]; exact mrl_48) rfl ?_
      refine aOK_op0 (pc' := 50) (ls' := [some ((t)), some (.int (a)), some (.int (b)), some (.long (l)), none, some (.int (k))]) (st' := [.long (((l) * (((b) - (a)).toInt64)) / ((b).toInt64))]) (by rw [hM]; exact mrl_49) (s_ldiv hb) ?_
      refine aOK_op0 (pc' := 51) (ls' := [some ((t)), some (.int (a)), some (.int (b)), some (.long (((l) * (((b) - (a)).toInt64)) / ((b).toInt64))), none, some (.int (k))]) (st' := []) (by rw [hM]; exact mrl_50) rfl ?_
      refine aOK_op0 (pc' := 54) (ls' := [some ((t)), some (.int (a)), some (.int (b)), some (.long (((l) * (((b) - (a)).toInt64)) / ((b).toInt64))), none, some (.int ((k) + Int32.ofInt 1))]) (st' := []) (by rw [hM]; exact mrl_51) rfl ?_
      refine aOK_op0 (pc' := 22) (ls' := [some ((t)), some (.int (a)), some (.int (b)), some (.long (((l) * (((b) - (a)).toInt64)) / ((b).toInt64))), none, some (.int ((k) + Int32.ofInt 1))]) (st' := []) (by rw [hM]; exact mrl_54) rfl ?_
      exact s_mr_loop hM hR t a b hb n _ _ (by
        rw [Int32.toInt_add, hi]
        have e1 : (Int32.ofInt 1).toInt = 1 := by decide
        rw [e1, Int.bmod_eq_of_le (by omega) (by omega)]
        omega) (by omega) hk
end SLOOP
