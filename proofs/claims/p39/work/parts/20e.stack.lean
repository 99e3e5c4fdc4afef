/-! ===== v2: the stack ===== -/
def z_ty (f : zF) (o : zO) : Nat := match z_ib f o with
  | some _ => 1
  | none => match z_lb f o with
    | some _ => 2
    | none => match o with
      | .inl (.ref _) => 3
      | _ => 0
def z_nz (f : zF) (o : zO) : Bool := match z_ib f o with
  | some y => decide (0 < y.1) || decide (y.2 < 0)
  | none => match z_lb f o with
    | some y => decide (0 < y.1) || decide (y.2 < 0)
    | none => false
/-- an int and a constant -/
def z_off (f : zF) (i : Instr) (a b : zO) : Option zO := match i, a, b with
  | .iadd, .inr (k, n), .inl (.int c) => if (z_ib f (.inr (k, n))).isSome ∧ (z_ib f (.inr (k, n + c.toInt))).isSome then some (.inr (k, n + c.toInt)) else none
  | .iadd, .inl (.int c), .inr (k, n) => if (z_ib f (.inr (k, n))).isSome ∧ (z_ib f (.inr (k, n + c.toInt))).isSome then some (.inr (k, n + c.toInt)) else none
  | .isub, .inr (k, n), .inl (.int c) => if (z_ib f (.inr (k, n))).isSome ∧ (z_ib f (.inr (k, n - c.toInt))).isSome then some (.inr (k, n - c.toInt)) else none
  | _, _, _ => none
def z_sb (f : zF) (a b : zO) (x y : Int × Int) : Int × Int := z_cl (match z_df f b a with
  | some w => z_mx (x.1 - y.2) (-w)
  | none => x.1 - y.2) (match z_df f a b with
  | some w => z_mn (x.2 - y.1) w
  | none => x.2 - y.1)
def z_isub (i : Instr) : Bool := match i with
  | .isub => true
  | _ => false
def z_ilc (i : Instr) : Bool := match i with
  | .lcmp => true
  | _ => false
def z_res (f : zF) (i : Instr) (a b : zO) : zI := if s_b i (z_ty f a) (z_ty f b) = 1 then (match z_ib f a, z_ib f b with
  | some x, some y => (1, if z_isub i then z_sb f a b x y else z_ti i x y)
  | _, _ => if z_ilc i then (1, -1, 1) else (1, z_full)) else (2, z_lf)
def z_bin (f : zF) (nx : Nat) (i : Instr) (a b : zO) : Option (zO × zF × Nat) := if s_b i (z_ty f a) (z_ty f b) = 0 ∨ (s_div i && !z_nz f b) = true then none else match a, b with
  | .inl x, .inl y => some (.inl (s_top i [y, x]), f, nx)
  | _, _ => match z_off f i a b with
    | some o => some (o, f, nx)
    | none => some (.inr (nx, 0), ((nx, z_res f i a b) :: f.1, f.2.1, if z_ilc i then (nx, a, b) :: f.2.2.1 else f.2.2.1, f.2.2.2), nx + 1)
/-- bounds of an operation on one -/
def z_ru (i : Instr) (t : Nat) : zI := if s_u i t = 1 then (1, match i with
  | .i2c => (0, 65535)
  | _ => z_full) else (2, z_lf)
def z_il (i : Instr) : Bool := match i with
  | .i2l => true
  | _ => false
def z_un (f : zF) (nx : Nat) (i : Instr) (a : zO) : Option (zO × zF × Nat) := if s_u i (z_ty f a) = 0 then none else match a with
  | .inl x => some (.inl (s_top i [x]), f, nx)
  | _ => if z_il i then (match z_ib f a with
      | some x => some (.inr (nx, 0), ((nx, (2, x)) :: f.1, f.2.1, f.2.2.1, (nx, a) :: f.2.2.2), nx + 1)
      | none => none) else some (.inr (nx, 0), ((nx, z_ru i (z_ty f a)) :: f.1, f.2), nx + 1)
theorem z_lc2 {t t' : Nat} (h : s_b .lcmp t t' ≠ 0) : t = 2 ∧ t' = 2 := by
  unfold s_b at h
  split at h <;> first | exact ⟨rfl, rfl⟩ | simp_all
section ZE
variable {ρ : zR} {f : zF}
theorem z_ty_ok (hs : z_sat ρ f) (o : zO) : s_tv (z_ty f o) (z_v ρ o) := by
  unfold z_ty
  split
  · rename_i x hx
    obtain ⟨y, e, -⟩ := z_ib_ex hs hx
    rw [e]; exact s_tv_int y
  · split
    · rename_i x hx
      obtain ⟨y, e, -⟩ := z_lb_el hs hx
      rw [e]; exact s_tv_long y
    · split
      · exact ⟨fun e => absurd e (by decide), fun e => absurd e (by decide), fun _ => ⟨_, rfl⟩⟩
      · exact s_tv_0 _
theorem z_nz_ok (hs : z_sat ρ f) {o : zO} (h : z_nz f o = true) : (∀ n, z_v ρ o = .int n → n ≠ 0) ∧ ∀ n, z_v ρ o = .long n → n ≠ 0 := by
  unfold z_nz at h
  split at h
  · rename_i y hy
    obtain ⟨x, e, -, b1, b2⟩ := z_ib_ex hs hy
    simp only [Bool.or_eq_true, decide_eq_true_eq] at h
    refine ⟨fun n hn => ?_, fun n hn => (by rw [e] at hn; cases hn)⟩
    rw [e] at hn
    cases hn
    rintro rfl
    have : (0 : Int32).toInt = 0 := rfl
    omega
  · split at h
    · rename_i y hy
      obtain ⟨x, e, -, b1, b2⟩ := z_lb_el hs hy
      simp only [Bool.or_eq_true, decide_eq_true_eq] at h
      refine ⟨fun n hn => (by rw [e] at hn; cases hn), fun n hn => ?_⟩
      rw [e] at hn
      cases hn
      rintro rfl
      have : (0 : Int64).toInt = 0 := rfl
      omega
    · cases h
theorem z_isS {α : Type} {o : Option α} (h : o.isSome = true) : ∃ x, o = some x := Option.isSome_iff_exists.mp h
/-- a new name -/
theorem z_new_ok (hs : z_sat ρ f) {a : zI} {w : Value} (hw : z_in a w) : z_sat (ρ ++ [w]) ((ρ.length, a) :: f.1, f.2) := by
  have h := z_sat_app (l := [w]) hs
  refine ⟨fun q hq => ?_, h.2⟩
  rcases List.mem_cons.mp hq with rfl | hq
  · exact ⟨w, by simp, hw⟩
  · exact h.1 q hq
theorem z_v_new {w : Value} (h : z_v ρ (.inr (ρ.length, 0)) = .null) : True := trivial
theorem z_vn {w : Value} {a : zI} (hw : z_in a w) : z_v (ρ ++ [w]) (.inr (ρ.length, 0)) = w := by
  unfold z_v
  dsimp only
  rw [show (ρ ++ [w])[ρ.length]? = some w by simp]
  rcases hw with ⟨_, x, rfl, _⟩ | ⟨_, x, rfl, _⟩
  · dsimp only
    rw [Int.add_zero, Int32.ofInt_toInt]
  · rfl
theorem z_off_ok (hs : z_sat ρ f) {i : Instr} {a b o : zO} (h : z_off f i a b = some o) : z_v ρ o = s_top i [z_v ρ b, z_v ρ a] ∧ z_v ρ o ≠ .null := by
  have key : ∀ {k : Nat} {n c : Int} {x : Int32}, (z_ib f (.inr (k, n))).isSome = true ∧ (z_ib f (.inr (k, c))).isSome = true → z_v ρ (.inr (k, n)) = .int x → ∃ y : Int32, z_v ρ (.inr (k, c)) = .int y ∧ y.toInt = x.toInt + (c - n) := by
    intro k n c x hc hx
    obtain ⟨p, hp⟩ := z_isS hc.1
    obtain ⟨q, hq⟩ := z_isS hc.2
    obtain ⟨p1, p2⟩ := p
    obtain ⟨q1, q2⟩ := q
    obtain ⟨x0, e1, e2, e3, -, -⟩ := z_ib_id hs hp
    obtain ⟨y0, d1, d2, d3, -, -⟩ := z_ib_id hs hq
    rw [e1] at d1
    cases d1
    rw [e2] at hx
    cases hx
    exact ⟨_, d2, by rw [d3, e3]; omega⟩
  have fin : ∀ {k : Nat} {n : Int}, (z_ib f (.inr (k, n))).isSome = true → ∃ x : Int32, z_v ρ (.inr (k, n)) = .int x := by
    intro k n hc
    obtain ⟨p, hp⟩ := z_isS hc
    obtain ⟨x, e, -⟩ := z_ib_ex hs hp
    exact ⟨x, e⟩
  unfold z_off at h
  split at h
  · rename_i k n c
    split at h
    · rename_i hc
      cases h
      obtain ⟨x, hx⟩ := fin hc.1
      obtain ⟨y, hy, e⟩ := key hc hx
      rw [hy, hx]
      refine ⟨?_, fun w => by cases w⟩
      show Value.int y = Value.int (x + c)
      congr 1
      apply Int32.toInt_inj.mp
      rw [e, Kit.i32_add (by have := z_fl y; unfold z_full at this; dsimp only at this; omega) (by have := z_fl y; unfold z_full at this; dsimp only at this; omega)]
      omega
    · cases h
  · rename_i c k n
    split at h
    · rename_i hc
      cases h
      obtain ⟨x, hx⟩ := fin hc.1
      obtain ⟨y, hy, e⟩ := key hc hx
      rw [hy, hx]
      refine ⟨?_, fun w => by cases w⟩
      show Value.int y = Value.int (c + x)
      congr 1
      apply Int32.toInt_inj.mp
      rw [e, Kit.i32_add (by have := z_fl y; unfold z_full at this; dsimp only at this; omega) (by have := z_fl y; unfold z_full at this; dsimp only at this; omega)]
      omega
    · cases h
  · rename_i k n c
    split at h
    · rename_i hc
      cases h
      obtain ⟨x, hx⟩ := fin hc.1
      obtain ⟨y, hy, e⟩ := key hc hx
      rw [hy, hx]
      refine ⟨?_, fun w => by cases w⟩
      show Value.int y = Value.int (x - c)
      congr 1
      apply Int32.toInt_inj.mp
      rw [e, Kit.i32_sub (by have := z_fl y; unfold z_full at this; dsimp only at this; omega) (by have := z_fl y; unfold z_full at this; dsimp only at this; omega)]
      omega
    · cases h
  · cases h
theorem z_tv_nn {t : Nat} {w : Value} (h : s_tv t w) (h0 : t ≠ 0) (h3 : t ≤ 3) : w ≠ .null := by
  rintro rfl
  rcases (show t = 1 ∨ t = 2 ∨ t = 3 by omega) with rfl | rfl | rfl
  · obtain ⟨n, e⟩ := h.1 rfl; cases e
  · obtain ⟨n, e⟩ := h.2.1 rfl; cases e
  · obtain ⟨n, e⟩ := h.2.2 rfl; cases e
theorem z_ib_ty {o : zO} {x : Int × Int} (h : z_ib f o = some x) : z_ty f o = 1 := by unfold z_ty; rw [h]
theorem z_res_ok (hs : z_sat ρ f) {i : Instr} {a b : zO} (h0 : s_b i (z_ty f a) (z_ty f b) ≠ 0) (hd : s_div i = true → z_nz f b = true) : z_in (z_res f i a b) (s_top i [z_v ρ b, z_v ρ a]) := by
  have hz : s_div i = true → (∀ n, z_v ρ b = .int n → n ≠ 0) ∧ ∀ n, z_v ρ b = .long n → n ≠ 0 := fun q => z_nz_ok hs (hd q)
  obtain ⟨ht, -, -⟩ := s_b_ok (z_ty_ok hs a) (z_ty_ok hs b) hz h0
  unfold z_res
  split
  · rename_i h1
    rw [h1] at ht
    obtain ⟨n, hn⟩ := ht.1 rfl
    split
    · rename_i x y hx hy
      obtain ⟨p, vp, ep, bp⟩ := z_ib_ex hs hx
      obtain ⟨q, vq, eq, bq⟩ := z_ib_ex hs hy
      have hfi : z_fi i p q = n := by
        unfold z_fi
        rw [vp, vq] at hn
        rw [hn]
      refine Or.inl ⟨rfl, n, hn, ?_⟩
      split
      · rename_i hsub
        have hi : i = .isub := by
          unfold z_isub at hsub
          split at hsub
          · rfl
          · cases hsub
        subst hi
        have hn2 : p - q = n := hfi
        rw [← hn2]
        refine z_t_sub ⟨?_, ?_⟩
        · split
          · rename_i w hw
            have h2 := z_df_ok hs hy hx vq vp hw
            have := (z_mx_l (x.1 - y.2) (-w)).2.2
            omega
          · omega
        · split
          · rename_i w hw
            have h2 := z_df_ok hs hx hy vp vq hw
            have := (z_mn_l (x.2 - y.1) w).2.2
            omega
          · omega
      · rw [← hfi]
        exact z_ti_ok bp bq (fun q0 => (hz q0).1 _ vq)
    · split
      · rename_i hlc
        have hi : i = .lcmp := by
          unfold z_ilc at hlc
          split at hlc
          · rfl
          · cases hlc
        subst hi
        refine Or.inl ⟨rfl, n, hn, ?_⟩
        have hl : ∀ u v : Int64, -1 ≤ (lg_cmp u v).toInt ∧ (lg_cmp u v).toInt ≤ 1 := by
          intro u v
          unfold lg_cmp
          split
          · decide
          · split <;> decide
        have hh : ∃ u v : Int64, n = lg_cmp u v := by
          cases ha : z_v ρ a with
          | long u =>
            cases hb : z_v ρ b with
            | long v => rw [ha, hb] at hn; exact ⟨u, v, by injection hn with e; exact e.symm⟩
            | _ => rw [ha, hb] at hn; cases hn
          | _ => rw [ha] at hn; cases hb : z_v ρ b <;> rw [hb] at hn <;> cases hn
        obtain ⟨u, v, rfl⟩ := hh
        exact hl u v
      · exact Or.inl ⟨rfl, n, hn, z_fl n⟩
  · rename_i h1
    have h2 : s_b i (z_ty f a) (z_ty f b) = 2 := by
      have h3 : ∀ (i : Instr) (t t' : Nat), s_b i t t' ≤ 2 := by
        intro i t t'
        unfold s_b
        split <;> decide
      have := h3 i (z_ty f a) (z_ty f b)
      omega
    rw [h2] at ht
    obtain ⟨n, hn⟩ := ht.2.1 rfl
    exact Or.inr ⟨rfl, n, hn, z_fll n⟩
theorem z_bin_ok (hs : z_sat ρ f) {i : Instr} {a b o : zO} {f' : zF} {nx' : Nat} (h : z_bin f ρ.length i a b = some (o, f', nx')) : ∃ l : zR, (ρ ++ l).length = nx' ∧ z_sat (ρ ++ l) f' ∧ z_v (ρ ++ l) o ≠ .null ∧ ∀ (k : aK) (r : List Value), a_stk i k (z_v ρ b :: z_v ρ a :: r) = some (z_v (ρ ++ l) o :: r) := by
  unfold z_bin at h
  split at h
  · cases h
  · rename_i hc
    have h0 : s_b i (z_ty f a) (z_ty f b) ≠ 0 := fun e => hc (Or.inl e)
    have hd : s_div i = true → z_nz f b = true := fun q => by
      cases hz : z_nz f b with
      | true => rfl
      | false => exact absurd (Or.inr (by rw [q, hz]; rfl)) hc
    obtain ⟨ht, hstk, -⟩ := s_b_ok (z_ty_ok hs a) (z_ty_ok hs b) (fun q => z_nz_ok hs (hd q)) h0
    split at h
    · rename_i x y
      cases h
      refine ⟨[], by simp, by rw [List.append_nil]; exact hs, z_tv_nn ht h0 (s_b_le _ _ _), fun k r => hstk k r⟩
    · split at h
      · rename_i o' ho
        cases h
        obtain ⟨e1, e2⟩ := z_off_ok hs ho
        refine ⟨[], by simp, by rw [List.append_nil]; exact hs, by rw [List.append_nil]; exact e2, fun k r => ?_⟩
        rw [List.append_nil, e1]
        exact hstk k r
      · cases h
        have hin := z_res_ok hs h0 hd
        have hv := z_vn (ρ := ρ) hin
        have hs1 := z_new_ok hs hin
        have hnn : s_top i [z_v ρ b, z_v ρ a] ≠ .null := z_tv_nn ht h0 (s_b_le _ _ _)
        refine ⟨[s_top i [z_v ρ b, z_v ρ a]], by simp, ⟨hs1.1, hs1.2.1, ?_, hs1.2.2.2⟩, by rw [hv]; exact hnn, fun k r => by rw [hv]; exact hstk k r⟩
        intro q hq
        dsimp only at hq
        split at hq
        · rename_i hlc
          rcases List.mem_cons.mp hq with rfl | hq
          · have hi : i = .lcmp := by
              unfold z_ilc at hlc
              split at hlc
              · rfl
              · cases hlc
            subst hi
            have ha2 : z_ty f a = 2 ∧ z_ty f b = 2 := z_lc2 h0
            obtain ⟨u, hu⟩ := (z_ty_ok hs a).2.1 ha2.1
            obtain ⟨v, hv2⟩ := (z_ty_ok hs b).2.1 ha2.2
            refine ⟨u, v, ?_, ?_, ?_⟩
            · dsimp only
              rw [z_v_app (by rw [hu]; exact fun w => by cases w), hu]
            · dsimp only
              rw [z_v_app (by rw [hv2]; exact fun w => by cases w), hv2]
            · dsimp only
              rw [hu, hv2]
              simp
              rfl
          · exact hs1.2.2.1 q hq
        · exact hs1.2.2.1 q hq
theorem z_un_ok (hs : z_sat ρ f) {i : Instr} {a o : zO} {f' : zF} {nx' : Nat} (h : z_un f ρ.length i a = some (o, f', nx')) : ∃ l : zR, (ρ ++ l).length = nx' ∧ z_sat (ρ ++ l) f' ∧ z_v (ρ ++ l) o ≠ .null ∧ ∀ (k : aK) (r : List Value), a_stk i k (z_v ρ a :: r) = some (z_v (ρ ++ l) o :: r) := by
  unfold z_un at h
  split at h
  · cases h
  · rename_i h0
    obtain ⟨ht, hstk, -⟩ := s_u_ok (z_ty_ok hs a) h0
    have hnn : s_top i [z_v ρ a] ≠ .null := z_tv_nn ht h0 (s_u_le _ _)
    split at h
    · rename_i x
      cases h
      exact ⟨[], by simp, by rw [List.append_nil]; exact hs, hnn, fun k r => hstk k r⟩
    · split at h
      · rename_i hil
        have hi : i = .i2l := by
          unfold z_il at hil
          split at hil
          · rfl
          · cases hil
        subst hi
        split at h
        · rename_i x hx
          cases h
          obtain ⟨p, vp, ep, bp⟩ := z_ib_ex hs hx
          have hin : z_in (2, x) (s_top .i2l [z_v ρ a]) := by
            rw [vp]
            refine Or.inr ⟨rfl, p.toInt64, rfl, ?_⟩
            rw [Int32.toInt_toInt64]
            exact bp
          have hv := z_vn (ρ := ρ) hin
          have hs1 := z_new_ok hs hin
          refine ⟨[s_top .i2l [z_v ρ a]], by simp, ⟨hs1.1, hs1.2.1, hs1.2.2.1, fun q hq => ?_⟩, by rw [hv]; exact hnn, fun k r => by rw [hv]; exact hstk k r⟩
          rcases List.mem_cons.mp hq with rfl | hq
          · refine ⟨p, ?_, ?_⟩
            · dsimp only
              rw [z_v_app (by rw [vp]; exact fun w => by cases w), vp]
            · dsimp only
              rw [vp]
              simp
              rfl
          · exact hs1.2.2.2 q hq
        · cases h
      · cases h
        have hin : z_in (z_ru i (z_ty f a)) (s_top i [z_v ρ a]) := by
          unfold z_ru
          split
          · rename_i h1
            rw [h1] at ht
            obtain ⟨n, hn⟩ := ht.1 rfl
            refine Or.inl ⟨rfl, n, hn, ?_⟩
            split
            · have hp : ∃ p : Int32, n = (p.toUInt32 % 65536).toInt32 := by
                cases hv : z_v ρ a with
                | int p => rw [hv] at hn; exact ⟨p, by injection hn with e; exact e.symm⟩
                | _ => rw [hv] at hn; cases hn
              obtain ⟨p, rfl⟩ := hp
              have hb : ((p.toUInt32 % 65536).toInt32).toBitVec.toNat = (p.toUInt32 % 65536).toNat := rfl
              have hb2 : (p.toUInt32 % 65536).toNat < 65536 := by
                rw [UInt32.toNat_mod]
                exact Nat.mod_lt _ (by decide)
              rw [z_ofnat hb (by omega)]
              dsimp only
              omega
            · exact z_fl n
          · rename_i h1
            have h2 : s_u i (z_ty f a) = 2 := by
              have h3 : ∀ (i : Instr) (t : Nat), s_u i t ≤ 2 := by
                intro i t
                unfold s_u
                split <;> decide
              have := h3 i (z_ty f a)
              omega
            rw [h2] at ht
            obtain ⟨n, hn⟩ := ht.2.1 rfl
            exact Or.inr ⟨rfl, n, hn, z_fll n⟩
        have hv := z_vn (ρ := ρ) hin
        have hs1 := z_new_ok hs hin
        exact ⟨[s_top i [z_v ρ a]], by simp, hs1, by rw [hv]; exact hnn, fun k r => by rw [hv]; exact hstk k r⟩
end ZE
