/-! ===== v2: tests, and what they tell ===== -/
def z_mn (a b : Int) : Int := if a < b then a else b
def z_rb (f : zF) (o : zO) (lo hi : Int) : zF := match o with
  | .inl _ => f
  | .inr (k, n) => match f.1.lookup k with
    | some (t, l, h) => ((k, (t, z_mx l (lo - n), z_mn h (hi - n))) :: f.1, f.2)
    | none => f
def z_ad (f : zF) (a b : zO) (w : Int) : zF := match a, b with
  | .inr (i, n), .inr (j, m) => (f.1, (i, j, w - n + m) :: f.2.1, f.2.2)
  | _, _ => f
/-- an operand that is an int, exactly -/
def z_ex (ρ : zR) (o : zO) (x : Int32) : Prop := match o with
  | .inl w => w = .int x
  | .inr (k, n) => ∃ y : Int32, ρ[k]? = some (.int y) ∧ x.toInt = y.toInt + n
def z_el (ρ : zR) (o : zO) (x : Int64) : Prop := match o with
  | .inl w => w = .long x
  | .inr (k, n) => ρ[k]? = some (.long x) ∧ n = 0
section ZS
variable {ρ : zR} {f : zF}
theorem z_mx_l (a b : Int) : a ≤ z_mx a b ∧ b ≤ z_mx a b ∧ (z_mx a b = a ∨ z_mx a b = b) := by unfold z_mx; split <;> omega
theorem z_mn_l (a b : Int) : z_mn a b ≤ a ∧ z_mn a b ≤ b ∧ (z_mn a b = a ∨ z_mn a b = b) := by unfold z_mn; split <;> omega
theorem z_ib_ex (hs : z_sat ρ f) {o : zO} {b : Int × Int} (h : z_ib f o = some b) : ∃ x : Int32, z_v ρ o = .int x ∧ z_ex ρ o x ∧ b.1 ≤ x.toInt ∧ x.toInt ≤ b.2 := by
  obtain ⟨lo, hi⟩ := b
  cases o with
  | inl w =>
    obtain ⟨x, e, e2⟩ := z_ib_ok hs h
    exact ⟨x, e, e, e2⟩
  | inr q =>
    obtain ⟨k, n⟩ := q
    obtain ⟨x, e1, e2, e3, e4, e5⟩ := z_ib_id hs h
    exact ⟨_, e2, ⟨x, e1, e3⟩, by rw [e3]; exact e4, by rw [e3]; exact e5⟩
theorem z_lb_el (hs : z_sat ρ f) {o : zO} {b : Int × Int} (h : z_lb f o = some b) : ∃ x : Int64, z_v ρ o = .long x ∧ z_el ρ o x ∧ b.1 ≤ x.toInt ∧ x.toInt ≤ b.2 := by
  obtain ⟨lo, hi⟩ := b
  obtain ⟨x, e, e2, e3⟩ := z_lb_ok hs h
  refine ⟨x, e, ?_, e2, e3⟩
  cases o with
  | inl w => exact e
  | inr q =>
    obtain ⟨k, n⟩ := q
    unfold z_lb at h
    dsimp only at h
    split at h
    · split at h
      · rename_i hc
        refine ⟨?_, hc.2⟩
        unfold z_v at e
        dsimp only at e
        split at e
        · cases e
        · rename_i w _ hw
          rw [hw, e]
        · cases e
      · cases h
    · cases h
theorem z_rb_ok (hs : z_sat ρ f) {o : zO} {x : Int32} {lo hi : Int} (he : z_ex ρ o x) (h1 : lo ≤ x.toInt) (h2 : x.toInt ≤ hi) : z_sat ρ (z_rb f o lo hi) := by
  unfold z_rb
  split
  · exact hs
  · rename_i k n
    split
    · rename_i t l h hk
      obtain ⟨y, e1, e2⟩ := he
      refine ⟨fun q hq => ?_, hs.2⟩
      rcases List.mem_cons.mp hq with rfl | hq
      · obtain ⟨w, d1, d2⟩ := hs.1 _ (z_lk_in hk)
        dsimp only at d1 d2 ⊢
        rw [e1] at d1
        cases d1
        refine ⟨_, e1, ?_⟩
        rcases d2 with ⟨d0, y', d, b1, b2⟩ | ⟨d0, y', d, _⟩
        · cases d
          dsimp only at d0 b1 b2
          refine Or.inl ⟨d0, y, rfl, ?_, ?_⟩
          · have := (z_mx_l l (lo - n)).2.2
            dsimp only
            omega
          · have := (z_mn_l h (hi - n)).2.2
            dsimp only
            omega
        · cases d
      · exact hs.1 q hq
    · exact hs
theorem z_rbl_ok (hs : z_sat ρ f) {o : zO} {x : Int64} {lo hi : Int} (he : z_el ρ o x) (h1 : lo ≤ x.toInt) (h2 : x.toInt ≤ hi) : z_sat ρ (z_rb f o lo hi) := by
  unfold z_rb
  split
  · exact hs
  · rename_i k n
    split
    · rename_i t l h hk
      obtain ⟨e1, rfl⟩ := he
      refine ⟨fun q hq => ?_, hs.2⟩
      rcases List.mem_cons.mp hq with rfl | hq
      · obtain ⟨w, d1, d2⟩ := hs.1 _ (z_lk_in hk)
        dsimp only at d1 d2 ⊢
        rw [e1] at d1
        cases d1
        refine ⟨_, e1, ?_⟩
        rcases d2 with ⟨d0, y', d, _⟩ | ⟨d0, y', d, b1, b2⟩
        · cases d
        · cases d
          dsimp only at d0 b1 b2
          refine Or.inr ⟨d0, x, rfl, ?_, ?_⟩
          · have := (z_mx_l l (lo - 0)).2.2
            dsimp only
            omega
          · have := (z_mn_l h (hi - 0)).2.2
            dsimp only
            omega
      · exact hs.1 q hq
    · exact hs
theorem z_ad_ok (hs : z_sat ρ f) {a b : zO} {x y : Int32} {w : Int} (ha : z_ex ρ a x) (hb : z_ex ρ b y) (h : x.toInt - y.toInt ≤ w) : z_sat ρ (z_ad f a b w) := by
  unfold z_ad
  split
  · rename_i i n j m
    obtain ⟨x0, e1, e2⟩ := ha
    obtain ⟨y0, d1, d2⟩ := hb
    refine ⟨hs.1, fun q hq => ?_, hs.2.2⟩
    rcases List.mem_cons.mp hq with rfl | hq
    · exact ⟨x0, y0, e1, d1, by dsimp only; omega⟩
    · exact hs.2.1 q hq
  · exact hs
end ZS
/-- one of both is not the other -/
def z_ne (f : zF) (a : zO) (x y : Int × Int) : zF := if y.1 = y.2 then (if x.1 = y.1 then z_rb f a (x.1 + 1) z_full.2 else if x.2 = y.1 then z_rb f a z_full.1 (x.2 - 1) else f) else f
def z_nd (g f : zF) (a b : zO) : zF := if z_le g a b 0 then z_ad f a b (-1) else if z_le g b a 0 then z_ad f b a (-1) else f
def z_as (f : zF) (lt r : Bool) (a b : zO) (x y : Int × Int) : zF := if lt then
    (if r then z_ad (z_rb (z_rb f a z_full.1 (y.2 - 1)) b (x.1 + 1) z_full.2) a b (-1) else z_ad (z_rb (z_rb f a y.1 z_full.2) b z_full.1 x.2) b a 0)
  else (if r then z_ad (z_ad (z_rb (z_rb f a y.1 y.2) b x.1 x.2) a b 0) b a 0 else z_nd f (z_ne (z_ne f a x y) b y x) a b)
def z_live (f : zF) (a : zO) : Bool := match z_ib f a with
  | some x => decide (x.1 ≤ x.2)
  | none => true
def z_dec (f : zF) (lt : Bool) (a b : zO) : Option Bool := if lt then (if z_le f a b (-1) then some true else if z_le f b a 0 then some false else none)
  else (if z_le f a b (-1) || z_le f b a (-1) then some false else if z_le f a b 0 && z_le f b a 0 then some true else none)
def z_ways (f : zF) (lt : Bool) (a b : zO) : Option (List (Bool × zF)) := match z_ib f a, z_ib f b with
  | some x, some y => some (match z_dec f lt a b with
    | some r => [(r, f)]
    | none => [(true, z_as f lt true a b x y), (false, z_as f lt false a b x y)].filter (fun q => z_live q.2 a && z_live q.2 b))
  | _, _ => none
section ZW
variable {ρ : zR} {f : zF}
theorem z_dec_ok (hs : z_sat ρ f) {lt r : Bool} {a b : zO} {x y : Int32} (hx : z_v ρ a = .int x) (hy : z_v ρ b = .int y) (h : z_dec f lt a b = some r) : s_cmp lt x y = r := by
  unfold z_dec at h
  unfold s_cmp
  split at h
  · rename_i hl
    rw [if_pos hl]
    split at h
    · rename_i q
      cases h
      have := z_le_ok hs hx hy q
      exact decide_eq_true (Int32.lt_iff_toInt_lt.mpr (by omega))
    · split at h
      · rename_i q
        cases h
        have := z_le_ok hs hy hx q
        exact decide_eq_false (fun w => by have := Int32.lt_iff_toInt_lt.mp w; omega)
      · cases h
  · rename_i hl
    rw [if_neg hl]
    split at h
    · rename_i q
      cases h
      simp only [Bool.or_eq_true] at q
      rcases q with q | q
      · have := z_le_ok hs hx hy q
        exact decide_eq_false (fun w => by subst w; omega)
      · have := z_le_ok hs hy hx q
        exact decide_eq_false (fun w => by subst w; omega)
    · split at h
      · rename_i q
        cases h
        simp only [Bool.and_eq_true] at q
        have h1 := z_le_ok hs hx hy q.1
        have h2 := z_le_ok hs hy hx q.2
        exact decide_eq_true (Int32.toInt_inj.mp (by omega))
      · cases h
theorem z_ne_ok (hs : z_sat ρ f) {g : zF} (hg : z_sat ρ g) {a : zO} {x y : Int32} {p q : Int × Int} (ha : z_ex ρ a x) (hp : p.1 ≤ x.toInt ∧ x.toInt ≤ p.2) (hq : q.1 ≤ y.toInt ∧ y.toInt ≤ q.2) (hne : x.toInt ≠ y.toInt) : z_sat ρ (z_ne g a p q) := by
  have hx := z_fl x
  unfold z_ne
  split
  · rename_i e
    split
    · exact z_rb_ok hg ha (by omega) hx.2
    · split
      · exact z_rb_ok hg ha hx.1 (by omega)
      · exact hg
  · exact hg
theorem z_as_ok (hs : z_sat ρ f) {lt r : Bool} {a b : zO} {x y : Int32} {p q : Int × Int} (ha : z_ex ρ a x) (hb : z_ex ρ b y) (vx : z_v ρ a = .int x) (vy : z_v ρ b = .int y) (hp : p.1 ≤ x.toInt ∧ x.toInt ≤ p.2) (hq : q.1 ≤ y.toInt ∧ y.toInt ≤ q.2) (h : s_cmp lt x y = r) : z_sat ρ (z_as f lt r a b p q) := by
  have fx := z_fl x
  have fy := z_fl y
  unfold s_cmp at h
  unfold z_as
  cases lt with
  | true =>
    cases r with
    | true =>
      have := Int32.lt_iff_toInt_lt.mp (of_decide_eq_true h)
      exact z_ad_ok (z_rb_ok (z_rb_ok hs ha fx.1 (by omega)) hb (by omega) fy.2) ha hb (by omega)
    | false =>
      have h2 : ¬ x < y := of_decide_eq_false h
      rw [Int32.lt_iff_toInt_lt] at h2
      exact z_ad_ok (z_rb_ok (z_rb_ok hs ha (by omega) fx.2) hb fy.1 (by omega)) hb ha (by omega)
  | false =>
    cases r with
    | true =>
      have h2 : x = y := of_decide_eq_true h
      subst h2
      exact z_ad_ok (z_ad_ok (z_rb_ok (z_rb_ok hs ha (by omega) (by omega)) hb (by omega) (by omega)) ha hb (by omega)) hb ha (by omega)
    | false =>
      have h2 : ¬ x = y := of_decide_eq_false h
      rw [← Int32.toInt_inj] at h2
      have h3 : z_sat ρ (z_ne (z_ne f a p q) b q p) := z_ne_ok hs (z_ne_ok hs hs ha hp hq h2) hb hq hp (fun e => h2 e.symm)
      show z_sat ρ (z_nd f (z_ne (z_ne f a p q) b q p) a b)
      unfold z_nd
      split
      · rename_i hl
        have := z_le_ok hs vx vy hl
        exact z_ad_ok h3 ha hb (by omega)
      · split
        · rename_i hl
          have := z_le_ok hs vy vx hl
          exact z_ad_ok h3 hb ha (by omega)
        · exact h3
theorem z_live_ok {g : zF} (hs : z_sat ρ g) (a : zO) : z_live g a = true := by
  unfold z_live
  split
  · rename_i x hx
    obtain ⟨y, -, -, h1, h2⟩ := z_ib_ex hs hx
    exact decide_eq_true (by omega)
  · rfl
theorem z_ways_ok (hs : z_sat ρ f) {lt : Bool} {a b : zO} {l : List (Bool × zF)} (h : z_ways f lt a b = some l) : ∃ x y : Int32, z_v ρ a = .int x ∧ z_v ρ b = .int y ∧ ∃ q ∈ l, q.1 = s_cmp lt x y ∧ z_sat ρ q.2 := by
  unfold z_ways at h
  split at h
  · rename_i p q hp hq
    cases h
    obtain ⟨x, vx, ex, bx⟩ := z_ib_ex hs hp
    obtain ⟨y, vy, ey, by'⟩ := z_ib_ex hs hq
    refine ⟨x, y, vx, vy, ?_⟩
    split
    · rename_i r hr
      exact ⟨_, List.mem_singleton.mpr rfl, (z_dec_ok hs vx vy hr).symm, hs⟩
    · have key : ∀ r, s_cmp lt x y = r → z_sat ρ (z_as f lt r a b p q) := fun r hr => z_as_ok hs ex ey vx vy bx by' hr
      cases hr : s_cmp lt x y with
      | true =>
        have h1 := key true hr
        exact ⟨_, List.mem_filter.mpr ⟨List.mem_cons_self, by simp only [z_live_ok h1, Bool.and_self]⟩, rfl, h1⟩
      | false =>
        have h1 := key false hr
        exact ⟨_, List.mem_filter.mpr ⟨List.mem_cons_of_mem _ List.mem_cons_self, by simp only [z_live_ok h1, Bool.and_self]⟩, rfl, h1⟩
  · cases h
end ZW
/-! longs -/
def z_lcm (lt : Bool) (m n : Int64) : Bool := if lt then decide (m < n) else decide (m = n)
def z_lf : Int × Int := (-9223372036854775808, 9223372036854775807)
def z_lne (f : zF) (a : zO) (x y : Int × Int) : zF := if y.1 = y.2 then (if x.1 = y.1 then z_rb f a (x.1 + 1) z_lf.2 else if x.2 = y.1 then z_rb f a z_lf.1 (x.2 - 1) else f) else f
def z_las (f : zF) (lt r : Bool) (a b : zO) (x y : Int × Int) : zF := if lt then
    (if r then z_rb (z_rb f a z_lf.1 (y.2 - 1)) b (x.1 + 1) z_lf.2 else z_rb (z_rb f a y.1 z_lf.2) b z_lf.1 x.2)
  else (if r then z_rb (z_rb f a y.1 y.2) b x.1 x.2 else z_lne (z_lne f a x y) b y x)
def z_ldec (lt : Bool) (x y : Int × Int) : Option Bool := if lt then (if x.2 < y.1 then some true else if y.2 ≤ x.1 then some false else none)
  else (if x.2 < y.1 ∨ y.2 < x.1 then some false else if x.1 = x.2 ∧ y.1 = y.2 ∧ x.1 = y.1 then some true else none)
def z_lways (f : zF) (lt : Bool) (a b : zO) : Option (List (Bool × zF)) := match z_lb f a, z_lb f b with
  | some x, some y => some (match z_ldec lt x y with
    | some r => [(r, f)]
    | none => if lt = false ∧ y.1 = y.2 ∧ x.1 < y.1 ∧ y.1 < x.2 then [(true, z_las f lt true a b x y), (false, z_rb f a z_lf.1 (y.1 - 1)), (false, z_rb f a (y.1 + 1) z_lf.2)]
      else [(true, z_las f lt true a b x y), (false, z_las f lt false a b x y)])
  | _, _ => none
section ZL
variable {ρ : zR} {f : zF}
theorem z_fll (x : Int64) : z_lf.1 ≤ x.toInt ∧ x.toInt ≤ z_lf.2 := by
  have h1 := x.le_toInt
  have h2 := x.toInt_lt
  unfold z_lf
  dsimp only
  omega
theorem z_lne_ok {g : zF} (hg : z_sat ρ g) {a : zO} {x y : Int64} {p q : Int × Int} (ha : z_el ρ a x) (hp : p.1 ≤ x.toInt ∧ x.toInt ≤ p.2) (hq : q.1 ≤ y.toInt ∧ y.toInt ≤ q.2) (hne : x.toInt ≠ y.toInt) : z_sat ρ (z_lne g a p q) := by
  have hx := z_fll x
  unfold z_lne
  split
  · rename_i e
    split
    · exact z_rbl_ok hg ha (by omega) hx.2
    · split
      · exact z_rbl_ok hg ha hx.1 (by omega)
      · exact hg
  · exact hg
theorem z_las_ok (hs : z_sat ρ f) {lt r : Bool} {a b : zO} {x y : Int64} {p q : Int × Int} (ha : z_el ρ a x) (hb : z_el ρ b y) (hp : p.1 ≤ x.toInt ∧ x.toInt ≤ p.2) (hq : q.1 ≤ y.toInt ∧ y.toInt ≤ q.2) (h : z_lcm lt x y = r) : z_sat ρ (z_las f lt r a b p q) := by
  have fx := z_fll x
  have fy := z_fll y
  unfold z_lcm at h
  unfold z_las
  cases lt with
  | true =>
    cases r with
    | true =>
      have := Int64.lt_iff_toInt_lt.mp (of_decide_eq_true h)
      exact z_rbl_ok (z_rbl_ok hs ha fx.1 (by omega)) hb (by omega) fy.2
    | false =>
      have h2 : ¬ x < y := of_decide_eq_false h
      rw [Int64.lt_iff_toInt_lt] at h2
      exact z_rbl_ok (z_rbl_ok hs ha (by omega) fx.2) hb fy.1 (by omega)
  | false =>
    cases r with
    | true =>
      have h2 : x = y := of_decide_eq_true h
      subst h2
      exact z_rbl_ok (z_rbl_ok hs ha (by omega) (by omega)) hb (by omega) (by omega)
    | false =>
      have h2 : ¬ x = y := of_decide_eq_false h
      rw [← Int64.toInt_inj] at h2
      exact z_lne_ok (z_lne_ok hs ha hp hq h2) hb hq hp (fun e => h2 e.symm)
theorem z_ldec_ok {lt r : Bool} {x y : Int64} {p q : Int × Int} (hp : p.1 ≤ x.toInt ∧ x.toInt ≤ p.2) (hq : q.1 ≤ y.toInt ∧ y.toInt ≤ q.2) (h : z_ldec lt p q = some r) : z_lcm lt x y = r := by
  unfold z_ldec at h
  unfold z_lcm
  split at h
  · rename_i hl
    rw [if_pos hl]
    split at h
    · cases h
      exact decide_eq_true (Int64.lt_iff_toInt_lt.mpr (by omega))
    · split at h
      · cases h
        exact decide_eq_false (fun w => by have := Int64.lt_iff_toInt_lt.mp w; omega)
      · cases h
  · rename_i hl
    rw [if_neg hl]
    split at h
    · cases h
      exact decide_eq_false (fun w => by subst w; omega)
    · split at h
      · cases h
        exact decide_eq_true (Int64.toInt_inj.mp (by omega))
      · cases h
theorem z_lways_ok (hs : z_sat ρ f) {lt : Bool} {a b : zO} {l : List (Bool × zF)} (h : z_lways f lt a b = some l) : ∃ x y : Int64, z_v ρ a = .long x ∧ z_v ρ b = .long y ∧ ∃ q ∈ l, q.1 = z_lcm lt x y ∧ z_sat ρ q.2 := by
  unfold z_lways at h
  split at h
  · rename_i p q hp hq
    cases h
    obtain ⟨x, vx, ex, bx⟩ := z_lb_el hs hp
    obtain ⟨y, vy, ey, by'⟩ := z_lb_el hs hq
    refine ⟨x, y, vx, vy, ?_⟩
    split
    · rename_i r hr
      exact ⟨_, List.mem_singleton.mpr rfl, (z_ldec_ok bx by' hr).symm, hs⟩
    · have key : ∀ r, z_lcm lt x y = r → z_sat ρ (z_las f lt r a b p q) := fun r hr => z_las_ok hs ex ey bx by' hr
      split
      · rename_i hc
        obtain ⟨rfl, hc1, hc2, hc3⟩ := hc
        cases hr : z_lcm false x y with
        | true => exact ⟨_, List.mem_cons_self, rfl, key true hr⟩
        | false =>
          have hne : x.toInt ≠ y.toInt := fun e => by
            have : z_lcm false x y = true := decide_eq_true (Int64.toInt_inj.mp e)
            rw [this] at hr
            cases hr
          have bl := z_fll x
          rcases Int.lt_or_lt_of_ne hne with hlt | hlt
          · exact ⟨_, List.mem_cons_of_mem _ List.mem_cons_self, rfl, z_rbl_ok hs ex bl.1 (by omega)⟩
          · exact ⟨_, List.mem_cons_of_mem _ (List.mem_cons_of_mem _ List.mem_cons_self), rfl, z_rbl_ok hs ex (by omega) bl.2⟩
      · cases hr : z_lcm lt x y with
        | true => exact ⟨_, List.mem_cons_self, rfl, key true hr⟩
        | false => exact ⟨_, List.mem_cons_of_mem _ List.mem_cons_self, rfl, key false hr⟩
  · cases h
end ZL
