/-! ===== what is known at the law's start ===== -/
theorem a_arrC {s : State} {A : Array Value} {ty : FieldType} (hty : ∀ C, ty ≠ .object C) (h : (Cond.arrayClass ty).before A s = true) : ∃ cA, ArrOfT s cA ty ∧ va_RA s cA ty := by
  obtain ⟨c, k, comp, h1, h2, h3⟩ := Cond.arrayClass_spec (args := A) (first := s) (o := none) (s := s) (idx := []) h
  refine ⟨c, fun n z => ⟨fun k h => (by cases h), k, h2, comp, h3⟩, ?_⟩
  cases ty with
  | object C => exact absurd rfl (hty C)
  | _ => exact h1
theorem a_arrO {s : State} {A : Array Value} {C : String} (h : (Cond.arrayOver (.object C)).before A s = true) : ∃ cA, ArrOfT s cA (.object C) ∧ va_RA s cA (.object C) := by
  obtain ⟨comp, c, k, h1, h2, h3, h4, h5⟩ := Cond.arrayOver_spec (args := A) (first := s) (o := none) (s := s) (idx := []) h
  exact ⟨c, fun n z => ⟨fun k h => (by cases h), k, h3, comp, h4⟩, k, comp, h3, h4, h1, h5⟩
theorem a_arrA {s : State} {A : Array Value} {t : FieldType} (h : (Cond.arrayOver (.array t)).before A s = true) : ∃ cA, ArrOfT s cA (.array t) ∧ va_RA s cA (.array t) := by
  obtain ⟨comp, c, k, h1, h2, h3, h4, h5⟩ := arrayOverA_spec (args := A) (first := s) (o := none) (s := s) (idx := []) h
  exact ⟨c, fun n z => ⟨fun k h => (by cases h), k, h3, comp, h4⟩, h5⟩
set_option maxRecDepth 100000 in
theorem a_nest_in : ∀ w ∈ a_nest, w ∈ lw_tbl := by decide +kernel
theorem a_nest_ot : ∀ w ∈ a_nest, w.onTables = true := by decide +kernel
theorem a_tops_in : ∀ w ∈ [Cond.arrayClass .int, Cond.arrayClass .long, Cond.arrayClass .boolean, Cond.arrayClass .char, Cond.arrayOver (.object "OddsInCourt$Saying"), Cond.arrayOver (.object "OddsInCourt$Kept"), Cond.arrayOver (.array .long),
    Cond.laysStatic a_soC a_soN "[J", Cond.initialized a_soC, Cond.laysStatic Bundle.tN "UNASSIGNED_STACK" Bundle.steD, Cond.laysStatic Bundle.tN "SUPPRESSED_SENTINEL" Bundle.listD, Cond.initialized Bundle.tN,
    Cond.stringRef "OddsInCourt" 426 "no such node or number", Cond.stringRef "OddsInCourt" 440 "no such number of the row", Cond.instantiable "java/util/NoSuchElementException" 6], w ∈ lw_tbl := by decide +kernel
def a_flat : List Cond := flatC (Jvm.Cond.and given_1 narrow_1)
theorem a_flats_in : ∀ w ∈ [Cond.arrayOf (.static a_soC a_soN "[J") .long, Cond.eq (.length (.static a_soC a_soN "[J")) (.int 6),
    Cond.eq (.elem (.static a_soC a_soN "[J") (.int 0)) (.long (-6148914691236517206)), Cond.eq (.elem (.static a_soC a_soN "[J") (.int 1)) (.long (-3689348814741910324)), Cond.eq (.elem (.static a_soC a_soN "[J") (.int 2)) (.long (-1085102592571150096)),
    Cond.eq (.elem (.static a_soC a_soN "[J") (.int 3)) (.long (-71777214294589696)), Cond.eq (.elem (.static a_soC a_soN "[J") (.int 4)) (.long (-281470681808896)), Cond.eq (.elem (.static a_soC a_soN "[J") (.int 5)) (.long (-4294967296)),
    Cond.isRef (.static Bundle.tN "UNASSIGNED_STACK" Bundle.steD), Cond.isRef (.static Bundle.tN "SUPPRESSED_SENTINEL" Bundle.listD),
    Cond.exactly (.string "OddsInCourt" 426) "java/lang/String", Cond.exactly (.string "OddsInCourt" 440) "java/lang/String"], w ∈ a_flat := by decide +kernel
theorem a_known {s : State} {b L : Nat} {xs : Nat → Int32} (hts : ∀ w ∈ lw_tbl, w.before #[Value.ref b] s = true) (hgv : (Jvm.Cond.and given_1 narrow_1).before #[Value.ref b] s = true) (hX : va_X b L xs s s.heap) (hbl : b < s.heap.size) :
    ∃ (so : Nat) (D : va_G) (dA : Nat → ClassId), a_Kn (b, so, s.heap.size, D, dA) s.heap (some (L, xs)) s := by
  have hgood : ∀ w ∈ a_good, w.before #[Value.ref b] s = true := fun w hw => hts w (List.mem_filter.mp hw).1
  have ht : ∀ {w : Cond}, w ∈ _ → w.before #[Value.ref b] s = true := fun {w} hw => hts w (a_tops_in w hw)
  have hfl := flat_of_before (Jvm.Cond.and given_1 narrow_1) hgv
  have hf : ∀ {w : Cond}, w ∈ _ → w.before #[Value.ref b] s = true := fun {w} hw => hfl w (a_flats_in w hw)
  -- classes
  have h1 : ∀ ci : Nat, ∃ z : ClassId × (Nat → Nat), ∀ q, vwCl[ci]? = some q → u_Kn s q.1 q.2.1 q.2.2 z.1 z.2 := by
    intro ci
    cases hq : vwCl[ci]? with
    | none => exact ⟨(0, fun _ => 0), fun q e => by cases e⟩
    | some q =>
      obtain ⟨C, T, N⟩ := q
      have hin := a_inC hq
      have hi : ∃ n, (Cond.instantiable C n).before #[Value.ref b] s = true := by
        rcases (a_cl_ok hq).2.2 with e | e
        · subst e
          have hC : C = "java/util/NoSuchElementException" := by
            have e2 : vwCl[13]? = some ("java/util/NoSuchElementException", a_T [], 0) := rfl
            rw [e2] at hq
            cases hq
            rfl
          subst hC
          exact ⟨6, ht (by simp)⟩
        · exact ⟨N, hgood _ e.1⟩
      obtain ⟨n, hi⟩ := hi
      obtain ⟨cC, iS, hk⟩ := u_known hgood hin hi
      exact ⟨(cC, iS), fun q e => by cases e; exact hk⟩
  obtain ⟨D, hD⟩ := Classical.axiomOfChoice h1
  -- arrays
  have h2 : ∀ t : Nat, ∃ cA : ClassId, ∀ ty, a_tys[t]? = some ty → ArrOfT s cA ty ∧ va_RA s cA ty := by
    intro t
    have use : ∀ {ty0 : FieldType}, a_tys[t]? = some ty0 → (∃ cA, ArrOfT s cA ty0 ∧ va_RA s cA ty0) → ∃ cA : ClassId, ∀ ty, a_tys[t]? = some ty → ArrOfT s cA ty ∧ va_RA s cA ty := by
      intro ty0 e ⟨cA, h⟩
      exact ⟨cA, fun ty e2 => by rw [e] at e2; cases e2; exact h⟩
    by_cases h7 : t < 7
    · rcases (show t = 0 ∨ t = 1 ∨ t = 2 ∨ t = 3 ∨ t = 4 ∨ t = 5 ∨ t = 6 by omega) with rfl | rfl | rfl | rfl | rfl | rfl | rfl
      · exact use rfl (a_arrC (fun C h => by cases h) (ht (by simp)))
      · exact use rfl (a_arrC (fun C h => by cases h) (ht (by simp)))
      · exact use rfl (a_arrC (fun C h => by cases h) (ht (by simp)))
      · exact use rfl (a_arrC (fun C h => by cases h) (ht (by simp)))
      · exact use rfl (a_arrO (ht (by simp)))
      · exact use rfl (a_arrO (ht (by simp)))
      · exact use rfl (a_arrA (ht (by simp)))
    · exact ⟨0, fun ty e => absurd (List.getElem?_eq_some_iff.mp e).1 (fun q => h7 q)⟩
  obtain ⟨dA, hdA⟩ := Classical.axiomOfChoice h2
  -- the row of constants
  have hA : ∀ a : Nat, a < s.heap.size → ¬ (fun q : Nat => s.heap.size ≤ q) a := fun a h => Nat.not_le.mpr h
  obtain ⟨so, hso, hT⟩ := va_Tof (tm := .static a_soC a_soN "[J") (ty := .long) (N := a_so.length) (f := fun j => .long (a_so.getD j 0)) (A := fun q : Nat => s.heap.size ≤ q) (by decide) (hf (by simp)) (va_eqt (hf (w := Cond.eq (.length (.static a_soC a_soN "[J")) (.int 6)) (by simp))) (fun j hj => by
    have hj' : j < 6 := hj
    rcases (show j = 0 ∨ j = 1 ∨ j = 2 ∨ j = 3 ∨ j = 4 ∨ j = 5 by omega) with rfl | rfl | rfl | rfl | rfl | rfl
    · exact va_eqtl (hf (w := Cond.eq (.elem (.static a_soC a_soN "[J") (.int 0)) (.long (-6148914691236517206))) (by simp))
    · exact va_eqtl (hf (w := Cond.eq (.elem (.static a_soC a_soN "[J") (.int 1)) (.long (-3689348814741910324))) (by simp))
    · exact va_eqtl (hf (w := Cond.eq (.elem (.static a_soC a_soN "[J") (.int 2)) (.long (-1085102592571150096))) (by simp))
    · exact va_eqtl (hf (w := Cond.eq (.elem (.static a_soC a_soN "[J") (.int 3)) (.long (-71777214294589696))) (by simp))
    · exact va_eqtl (hf (w := Cond.eq (.elem (.static a_soC a_soN "[J") (.int 4)) (.long (-281470681808896))) (by simp))
    · exact va_eqtl (hf (w := Cond.eq (.elem (.static a_soC a_soN "[J") (.int 5)) (.long (-4294967296))) (by simp))) hA
  have hZ : va_Z a_soC a_soN "[J" (.ref so) (fun q : Nat => s.heap.size ≤ q) s s.heap := va_Zref (ht (by simp)) (ht (by simp)) hso hA
  have hU : vx_Zq Bundle.tN "UNASSIGNED_STACK" Bundle.steD (fun q : Nat => s.heap.size ≤ q) s s.heap := vx_Zqof (ht (by simp)) (ht (by simp)) (hf (by simp)) hA
  have hN : vx_Zq Bundle.tN "SUPPRESSED_SENTINEL" Bundle.listD (fun q : Nat => s.heap.size ≤ q) s s.heap := vx_Zqof (ht (by simp)) (ht (by simp)) (hf (by simp)) hA
  have hstr : ∀ q ∈ a_strs, ∃ sa, vk_R "OddsInCourt" q.1 q.2 sa s := by
    intro q hq
    have hq' : q = (426, "no such node or number") ∨ q = (440, "no such number of the row") := by simpa [a_strs] using hq
    rcases hq' with rfl | rfl
    · obtain ⟨a, -, -, -, h1, -⟩ := Cond.exactly_spec (args := #[Value.ref b]) (first := s) (o := none) (s := s) (idx := []) (hf (w := Cond.exactly (.string "OddsInCourt" 426) "java/lang/String") (by simp))
      exact ⟨a, vk_R.of (A := #[Value.ref b]) (ht (by simp)) h1⟩
    · obtain ⟨a, -, -, -, h1, -⟩ := Cond.exactly_spec (args := #[Value.ref b]) (first := s) (o := none) (s := s) (idx := []) (hf (w := Cond.exactly (.string "OddsInCourt" 440) "java/lang/String") (by simp))
      exact ⟨a, vk_R.of (A := #[Value.ref b]) (ht (by simp)) h1⟩
  refine ⟨so, (fun k => (D k).1, fun k => (D k).2), dA, ⟨fun c q hq => hD c q hq, fun k q hq => ?_⟩, fun w hw => va_Nw.of (a_nest_ot w hw) (hts w (a_nest_in w hw)), fun C hC => ?_, ?_, hZ, hT, fun L' xs' e => ?_, hU, hN, hstr⟩
  · rw [a_tyl, List.getElem?_map, List.getElem?_zipIdx] at hq
    cases hk : a_tys[k]? with
    | none => rw [hk] at hq; cases hq
    | some ty =>
      rw [hk] at hq
      simp only [Option.map_some, Option.some.injEq, Nat.zero_add] at hq
      subst hq
      exact hdA k ty hk
  · have hC' : C = "OddsInCourt$Saying" ∨ C = "OddsInCourt$Kept" := by simpa [a_over] using hC
    rcases hC' with rfl | rfl
    · exact va_AO.of (A := #[Value.ref b]) (ht (by simp))
    · exact va_AO.of (A := #[Value.ref b]) (ht (by simp))
  · exact ht (w := Cond.arrayOver (.array .long)) (by simp)
  · cases e
    exact ⟨hX, hbl⟩
