/-! ===== v2: arithmetic on bounds ===== -/
def z_full : Int × Int := (-2147483648, 2147483647)
def z_cl (lo hi : Int) : Int × Int := if -2147483648 ≤ lo ∧ hi ≤ 2147483647 then (lo, hi) else z_full
def z_mx (a b : Int) : Int := if a < b then b else a
def z_p2 (n : Int) : Int := (2 ^ (n.toNat.log2 + 1) : Nat) - 1
section ZT
variable {x y : Int32} {a b : Int × Int}
theorem z_fl (x : Int32) : z_full.1 ≤ x.toInt ∧ x.toInt ≤ z_full.2 := s_i32 x
theorem z_t_add (hx : a.1 ≤ x.toInt ∧ x.toInt ≤ a.2) (hy : b.1 ≤ y.toInt ∧ y.toInt ≤ b.2) : (z_cl (a.1 + b.1) (a.2 + b.2)).1 ≤ (x + y).toInt ∧ (x + y).toInt ≤ (z_cl (a.1 + b.1) (a.2 + b.2)).2 := by
  unfold z_cl
  split
  · rw [Kit.i32_add (by omega) (by omega)]; dsimp only; omega
  · exact z_fl _
theorem z_t_sub {lo hi : Int} (h : lo ≤ x.toInt - y.toInt ∧ x.toInt - y.toInt ≤ hi) : (z_cl lo hi).1 ≤ (x - y).toInt ∧ (x - y).toInt ≤ (z_cl lo hi).2 := by
  unfold z_cl
  split
  · rw [Kit.i32_sub (by omega) (by omega)]; exact h
  · exact z_fl _
def z_mulc (a : Int × Int) (c : Int) : Int × Int := if 0 ≤ c then z_cl (a.1 * c) (a.2 * c) else z_cl (a.2 * c) (a.1 * c)
theorem z_t_mul (hx : a.1 ≤ x.toInt ∧ x.toInt ≤ a.2) : (z_mulc a y.toInt).1 ≤ (x * y).toInt ∧ (x * y).toInt ≤ (z_mulc a y.toInt).2 := by
  unfold z_mulc
  split
  · rename_i hc
    have h1 := Int.mul_le_mul_of_nonneg_right hx.1 hc
    have h2 := Int.mul_le_mul_of_nonneg_right hx.2 hc
    unfold z_cl
    split
    · rw [Kit.i32_mul (by omega) (by omega)]; exact ⟨h1, h2⟩
    · exact z_fl _
  · rename_i hc
    have hc' : y.toInt ≤ 0 := by omega
    have h1 := Int.mul_le_mul_of_nonpos_right hx.1 hc'
    have h2 := Int.mul_le_mul_of_nonpos_right hx.2 hc'
    unfold z_cl
    split
    · rw [Kit.i32_mul (by omega) (by omega)]; exact ⟨h2, h1⟩
    · exact z_fl _
theorem z_nat {x : Int32} (h : 0 ≤ x.toInt) : x.toInt = (x.toBitVec.toNat : Int) ∧ x.toBitVec.toNat < 2147483648 := by
  have e : x.toInt = x.toBitVec.toInt := rfl
  have hl := x.toBitVec.isLt
  rw [e, BitVec.toInt_eq_toNat_cond] at h ⊢
  split
  · rename_i h2
    exact ⟨rfl, by omega⟩
  · rename_i h2
    rw [if_neg h2] at h
    omega
theorem z_ofnat {x : Int32} {n : Nat} (h : x.toBitVec.toNat = n) (hn : n < 2147483648) : x.toInt = (n : Int) := by
  have e : x.toInt = x.toBitVec.toInt := rfl
  rw [e, BitVec.toInt_eq_toNat_cond, h, if_pos (by omega)]
theorem z_t_and (hy : 0 ≤ y.toInt) : 0 ≤ (x &&& y).toInt ∧ (x &&& y).toInt ≤ y.toInt := by
  obtain ⟨h1, h2⟩ := z_nat hy
  have h3 : (x &&& y).toBitVec.toNat = x.toBitVec.toNat &&& y.toBitVec.toNat := by
    show (x.toBitVec &&& y.toBitVec).toNat = _
    rw [BitVec.toNat_and]
  have h4 : x.toBitVec.toNat &&& y.toBitVec.toNat ≤ y.toBitVec.toNat := Nat.and_le_right
  rw [z_ofnat h3 (by omega), h1]
  omega
theorem z_and_comm (x y : Int32) : x &&& y = y &&& x := Int32.and_comm x y
theorem z_t_or (hx : 0 ≤ x.toInt ∧ x.toInt ≤ a.2) (hy : 0 ≤ y.toInt ∧ y.toInt ≤ b.2) (hm : z_p2 (z_mx a.2 b.2) ≤ 2147483647) : 0 ≤ (x ||| y).toInt ∧ (x ||| y).toInt ≤ z_p2 (z_mx a.2 b.2) := by
  obtain ⟨h1, h2⟩ := z_nat hx.1
  obtain ⟨g1, g2⟩ := z_nat hy.1
  generalize hM : (z_mx a.2 b.2) = m at hm ⊢
  have hma : a.2 ≤ m := by rw [← hM]; unfold z_mx; split <;> omega
  have hmb : b.2 ≤ m := by rw [← hM]; unfold z_mx; split <;> omega
  unfold z_p2 at hm ⊢
  have hlt : m.toNat < 2 ^ (m.toNat.log2 + 1) := Nat.lt_log2_self
  have h3 : (x ||| y).toBitVec.toNat = x.toBitVec.toNat ||| y.toBitVec.toNat := by
    show (x.toBitVec ||| y.toBitVec).toNat = _
    rw [BitVec.toNat_or]
  have h4 : x.toBitVec.toNat ||| y.toBitVec.toNat < 2 ^ (m.toNat.log2 + 1) := Nat.or_lt_two_pow (by omega) (by omega)
  rw [z_ofnat h3 (by omega)]
  omega
theorem z_sh31 {y : Int32} (h : 0 ≤ y.toInt ∧ y.toInt ≤ 31) : ((y &&& 31).toBitVec.smod 32).toNat = y.toInt.toNat := by
  obtain ⟨h1, h2⟩ := z_nat h.1
  have e : y = Int32.ofNat y.toBitVec.toNat := by
    apply Int32.toBitVec_inj.mp
    show _ = BitVec.ofNat 32 _
    rw [BitVec.ofNat_toNat, BitVec.setWidth_eq]
  have hk : y.toBitVec.toNat ≤ 31 := by omega
  rw [h1, Int.toNat_natCast]
  generalize y.toBitVec.toNat = k at e hk
  subst e
  have all : ∀ k : Nat, k ≤ 31 → ((Int32.ofNat k &&& 31).toBitVec.smod 32).toNat = k := by decide
  exact all k hk
theorem z_t_shl (hx : 0 ≤ a.1 ∧ a.1 ≤ x.toInt ∧ x.toInt ≤ a.2) (hy : 0 ≤ b.1 ∧ b.1 ≤ y.toInt ∧ y.toInt ≤ b.2 ∧ b.2 ≤ 31) (hm : a.2 * 2 ^ b.2.toNat ≤ 2147483647) : a.1 * 2 ^ b.1.toNat ≤ (x <<< (y &&& 31)).toInt ∧ (x <<< (y &&& 31)).toInt ≤ a.2 * 2 ^ b.2.toNat := by
  have hk := z_sh31 (y := y) (by omega)
  have p1 : (2 : Int) ^ b.1.toNat ≤ 2 ^ y.toInt.toNat := by
    have := Nat.pow_le_pow_right (n := 2) (by omega) (show b.1.toNat ≤ y.toInt.toNat by omega)
    exact_mod_cast this
  have p2 : (2 : Int) ^ y.toInt.toNat ≤ 2 ^ b.2.toNat := by
    have := Nat.pow_le_pow_right (n := 2) (by omega) (show y.toInt.toNat ≤ b.2.toNat by omega)
    exact_mod_cast this
  have p0 : (0 : Int) ≤ 2 ^ b.1.toNat := Int.le_of_lt (Int.pow_pos (by omega))
  have q0 : (0 : Int) ≤ 2 ^ y.toInt.toNat := Int.le_of_lt (Int.pow_pos (by omega))
  have m1 : a.1 * 2 ^ b.1.toNat ≤ x.toInt * 2 ^ y.toInt.toNat := Int.mul_le_mul hx.2.1 p1 p0 (by omega)
  have m2 : x.toInt * 2 ^ y.toInt.toNat ≤ a.2 * 2 ^ b.2.toNat := Int.mul_le_mul hx.2.2 p2 q0 (by omega)
  have m3 : 0 ≤ x.toInt * 2 ^ y.toInt.toNat := Int.mul_nonneg (by omega) q0
  rw [Kit.i32_shl x _ hk (by omega) (by omega)]
  exact ⟨m1, m2⟩
theorem z_t_shr (hx : a.1 ≤ x.toInt ∧ x.toInt ≤ a.2) (hy : 0 ≤ y.toInt ∧ y.toInt ≤ 31) : a.1 / 2 ^ y.toInt.toNat ≤ (x >>> (y &&& 31)).toInt ∧ (x >>> (y &&& 31)).toInt ≤ a.2 / 2 ^ y.toInt.toNat := by
  rw [Kit.i32_shr x _ (z_sh31 hy)]
  have p : (0 : Int) < 2 ^ y.toInt.toNat := Int.pow_pos (by omega)
  exact ⟨Int.ediv_le_ediv p hx.1, Int.ediv_le_ediv p hx.2⟩
theorem z_t_div (hx : 0 ≤ a.1 ∧ a.1 ≤ x.toInt ∧ x.toInt ≤ a.2) (hy : 0 < y.toInt) : a.1 / y.toInt ≤ (x / y).toInt ∧ (x / y).toInt ≤ a.2 / y.toInt := by
  rw [Kit.i32_div (by omega), Int.tdiv_eq_ediv_of_nonneg (by omega)]
  exact ⟨Int.ediv_le_ediv hy hx.2.1, Int.ediv_le_ediv hy hx.2.2⟩
end ZT
/-- bounds of an int operation -/
def z_ti (i : Instr) (a b : Int × Int) : Int × Int := match i with
  | .iadd => z_cl (a.1 + b.1) (a.2 + b.2)
  | .imul => if b.1 = b.2 then z_mulc a b.1 else if a.1 = a.2 then z_mulc b a.1 else z_full
  | .iand => if 0 ≤ b.1 then (0, if 0 ≤ a.1 ∧ a.2 < b.2 then a.2 else b.2) else if 0 ≤ a.1 then (0, a.2) else z_full
  | .ior => if 0 ≤ a.1 ∧ 0 ≤ b.1 ∧ z_p2 (z_mx a.2 b.2) ≤ 2147483647 then (0, z_p2 (z_mx a.2 b.2)) else z_full
  | .ishl => if 0 ≤ a.1 ∧ 0 ≤ b.1 ∧ b.2 ≤ 31 ∧ a.2 * 2 ^ b.2.toNat ≤ 2147483647 then (a.1 * 2 ^ b.1.toNat, a.2 * 2 ^ b.2.toNat) else z_full
  | .ishr => if b.1 = b.2 ∧ 0 ≤ b.1 ∧ b.1 ≤ 31 then (a.1 / 2 ^ b.1.toNat, a.2 / 2 ^ b.1.toNat) else z_full
  | .idiv => if b.1 = b.2 ∧ 0 < b.1 ∧ 0 ≤ a.1 then (a.1 / b.1, a.2 / b.1) else z_full
  | _ => z_full
/-- the ints' instructions, as functions -/
def z_fi (i : Instr) (x y : Int32) : Int32 := match s_top i [.int y, .int x] with
  | .int n => n
  | _ => 0
theorem z_ti_ok {i : Instr} {x y : Int32} {a b : Int × Int} (hx : a.1 ≤ x.toInt ∧ x.toInt ≤ a.2) (hy : b.1 ≤ y.toInt ∧ y.toInt ≤ b.2) (h0 : s_div i = true → y ≠ 0) : (z_ti i a b).1 ≤ (z_fi i x y).toInt ∧ (z_fi i x y).toInt ≤ (z_ti i a b).2 := by
  unfold z_ti
  split
  · exact z_t_add hx hy
  · split
    · rename_i e
      have e2 : b.1 = y.toInt := by omega
      rw [e2]
      exact z_t_mul (y := y) hx
    · split
      · rename_i e
        have e2 : a.1 = x.toInt := by omega
        rw [e2]
        have := z_t_mul (x := y) (y := x) hy
        rw [Int32.mul_comm] at this
        exact this
      · exact z_fl _
  · split
    · rename_i hb
      have h1 := z_t_and (x := x) (y := y) (by omega)
      show 0 ≤ (x &&& y).toInt ∧ (x &&& y).toInt ≤ _
      split
      · rename_i ha
        have h2 := z_t_and (x := y) (y := x) (by omega)
        rw [z_and_comm] at h2
        exact ⟨h1.1, by omega⟩
      · exact ⟨h1.1, by omega⟩
    · split
      · rename_i ha
        have h2 := z_t_and (x := y) (y := x) (by omega)
        rw [z_and_comm] at h2
        exact ⟨h2.1, by show (x &&& y).toInt ≤ a.2; omega⟩
      · exact z_fl _
  · split
    · rename_i hc
      exact z_t_or ⟨by omega, hx.2⟩ ⟨by omega, hy.2⟩ hc.2.2
    · exact z_fl _
  · split
    · rename_i hc
      exact z_t_shl ⟨hc.1, hx⟩ ⟨hc.2.1, hy.1, hy.2, hc.2.2.1⟩ hc.2.2.2
    · exact z_fl _
  · split
    · rename_i hc
      have e2 : b.1 = y.toInt := by omega
      rw [e2]
      exact z_t_shr hx (by omega)
    · exact z_fl _
  · split
    · rename_i hc
      have e2 : b.1 = y.toInt := by omega
      have hy0 : y ≠ 0 := h0 rfl
      have e3 : z_fi .idiv x y = x / y := by
        unfold z_fi
        simp only [s_top, a_stk, a_iin, if_neg hy0, Option.getD_some, List.headD_cons]
      rw [e2, e3]
      exact z_t_div ⟨hc.2.2, hx⟩ (by omega)
    · exact z_fl _
  · exact z_fl _
