section PT23a
/-! ===== v3: walks with values, by what must hold on the way ===== -/
def w_f (H : aH) (key : Nat) : Option Value := match H[key / 128]? with
  | some (.inr (_, vs)) => vs[key % 128]?
  | _ => none
def w_a (H : aH) (o : Nat) : Option (Nat × aA) := match H[o]? with
  | some (.inl a) => some a
  | _ => none
/-- a heap as it is declared, and no more -/
def w_hr (D : Nat → Option zC) (H : aH) : Prop := z_hr (fun _ => True) D [] [] H
abbrev wF : Type := List (Nat × Value)
abbrev wA : Type := List (Nat × (Nat × aA))
/-- the heap now: what is known of it, and the rest as in the heap h -/
def w_rel (D : Nat → Option zC) (h : aH) (hf : wF) (ha : wA) (H : aH) : Prop := w_hr D H ∧ (∀ key v, hf.lookup key = some v → w_f H key = some v) ∧ (∀ o a, ha.lookup o = some a → w_a H o = some a) ∧ (∀ key, hf.lookup key = none → w_f H key = w_f h key) ∧ ∀ o, ha.lookup o = none → w_a H o = w_a h o
abbrev wFr : Type := aM × Nat × aL × List Value
def w_KF (P : List aM) (X : aX) (K0 : Option Value → aH → Nat → Nat → Prop) : Nat → List wFr → Option Value → aH → Nat → Nat → Prop
  | _, [] => K0
  | d, (M, pc, ls, rest) :: fs => fun v H C S => (∀ n, v ≠ some (.retAddr n)) ∧ aOK P X (d + 1) M pc ls (v.toList ++ rest) H C S (w_KF P X K0 (d + 1) fs)
/-- an instruction and the place behind it -/
def w_find : List (Nat × aI) → Nat → Option (aI × Nat)
  | [], _ => none
  | (p, a) :: r, pc => cond (Nat.beq p pc) (some (a, match r with
    | (p2, _) :: _ => p2
    | [] => 0)) (w_find r pc)
/-- locals, written out -/
def w_norm : aL → (aL → Prop) → Prop
  | [], g => g []
  | a :: r, g => w_norm r (fun r' => g (a :: r'))
/-- on to the place behind -/
def w_j (rec : Nat → aM → Nat → aL → List Value → List wFr → wF → wA → Prop) (p nx d : Nat) (M : aM) (ls : aL) (st : List Value) (fs : List wFr) (hf : wF) (ha : wA) : Prop := cond (Nat.beq p nx) (rec d M nx ls st fs hf ha) False
section WDEF
variable (D : Nat → Option zC) (P : List aM) (X : aX) (h : aH) (C S : Nat) (K0 : Option Value → aH → Nat → Nat → Prop)
def w_at (d : Nat) (M : aM) (pc : Nat) (ls : aL) (st : List Value) (fs : List wFr) (hf : wF) (ha : wA) : Prop := ∀ H, w_rel D h hf ha H → aOK P X d M pc ls st H C S (w_KF P X K0 d fs)
/-- a field is read -/
def w_get (o k : Nat) (d : zK) (hf : wF) (go : Value → wF → Prop) : Prop := match d with
  | .inr q => go (.ref q) hf
  | .inl (t, lo, hi) => match hf.lookup (o * 128 + k) with
    | some v => go v hf
    | none => if t = 1 then ∀ x : Int32, w_f h (o * 128 + k) = some (.int x) → lo ≤ x.toInt → x.toInt ≤ hi → go (.int x) ((o * 128 + k, .int x) :: hf)
      else ∀ x : Int64, w_f h (o * 128 + k) = some (.long x) → lo ≤ x.toInt → x.toInt ≤ hi → go (.long x) ((o * 128 + k, .long x) :: hf)
/-- an array of ints is looked up -/
def w_ai (o t n : Nat) (lo hi : Int) (ha : wA) (go : List Int32 → wA → Prop) : Prop := match ha.lookup o with
  | some (_, .inl l) => go l ha
  | some _ => False
  | none => ∀ l : List Int32, w_a h o = some (t, .inl l) → l.length = n → (∀ x ∈ l, lo ≤ x.toInt ∧ x.toInt ≤ hi) → go l ((o, (t, .inl l)) :: ha)
def w_al (o n : Nat) (lo hi : Int) (ha : wA) (go : List Int64 → wA → Prop) : Prop := match ha.lookup o with
  | some (_, .inr (.inl l)) => go l ha
  | some _ => False
  | none => ∀ l : List Int64, w_a h o = some (1, .inr (.inl l)) → l.length = n → (∀ x ∈ l, lo ≤ x.toInt ∧ x.toInt ≤ hi) → go l ((o, (1, .inr (.inl l))) :: ha)
def w_rt (rec : Nat → aM → Nat → aL → List Value → List wFr → wF → wA → Prop) (d : Nat) (fs : List wFr) (hf : wF) (ha : wA) (v : Option Value) : Prop := match fs with
  | [] => ∀ H, w_rel D h hf ha H → K0 v H C S
  | (M2, pc2, ls2, rest) :: fs' => match v with
    | some w => rec (d + 1) M2 pc2 ls2 (w :: rest) fs' hf ha
    | none => rec (d + 1) M2 pc2 ls2 rest fs' hf ha
def w_inv (i : Instr) (k : aK) (st : List Value) : Option (aM × List Value × List Value) := match P[k.2.1]? with
  | none => none
  | some M => match i with
    | .invokevirtual _ => if k.1 = 4 then (match st.drop M.2.2.2.2.1 with
      | .ref (o + 2) :: r => match D o with
        | some (.inr (.inl (c, _))) => if c = k.2.2.1 ∧ a_wd r ≤ 8 ∧ (a_entry (.ref (o + 2) :: (st.take M.2.2.2.2.1).reverse)).length ≤ M.2.2.1 then some (M, .ref (o + 2) :: (st.take M.2.2.2.2.1).reverse, r) else none
        | _ => none
      | _ => none) else none
    | .invokestatic _ => if k.1 = 8 then
        (if M.2.2.2.2.1 ≤ st.length ∧ a_wd (st.drop M.2.2.2.2.1) ≤ 8 ∧ (a_entry (st.take M.2.2.2.2.1).reverse).length ≤ M.2.2.1 then some (M, (st.take M.2.2.2.2.1).reverse, st.drop M.2.2.2.2.1) else none)
      else none
    | _ => none
def w_body (tl : List Nat) (rec : Nat → aM → Nat → aL → List Value → List wFr → wF → wA → Prop) (d : Nat) (M : aM) (pc : Nat) (ls : aL) (st : List Value) (fs : List wFr) (hf : wF) (ha : wA) : Prop := match w_find M.2.2.2.2.2 pc with
  | none => False
  | some ((i, len, k), nx) => match i with
    | .ifCond c _ => match st with
      | .int x :: r => (a_cnd c x 0 = true → rec d M k.2.1 ls r fs hf ha) ∧ (a_cnd c x 0 = false → w_j rec (pc + 3) nx d M ls r fs hf ha)
      | _ => False
    | .if_icmp c _ => match st with
      | .int y :: .int x :: r => (a_cnd c x y = true → rec d M k.2.1 ls r fs hf ha) ∧ (a_cnd c x y = false → w_j rec (pc + 3) nx d M ls r fs hf ha)
      | _ => False
    | .goto _ => rec d M k.2.1 ls st fs hf ha
    | .idiv => match st with
      | .int y :: .int x :: r => y ≠ 0 ∧ w_j rec (pc + len) nx d M ls (.int (x / y) :: r) fs hf ha
      | _ => False
    | .irem => match st with
      | .int y :: .int x :: r => y ≠ 0 ∧ w_j rec (pc + len) nx d M ls (.int (x - x / y * y) :: r) fs hf ha
      | _ => False
    | .ldiv => match st with
      | .long y :: .long x :: r => y ≠ 0 ∧ w_j rec (pc + len) nx d M ls (.long (x / y) :: r) fs hf ha
      | _ => False
    | .lrem => match st with
      | .long y :: .long x :: r => y ≠ 0 ∧ w_j rec (pc + len) nx d M ls (.long (x - x / y * y) :: r) fs hf ha
      | _ => False
    | .getfield _ => match st with
      | .ref (o + 2) :: r => match D o with
        | some (.inr (.inl (ci, ks))) => if ci = k.2.1 then (match ks[k.2.2.1]? with
          | some dd => w_get h o k.2.2.1 dd hf (fun v hf' => w_j rec (pc + len) nx d M ls (v :: r) fs hf' ha)
          | none => False) else False
        | _ => False
      | _ => False
    | .putfield _ => match st with
      | v :: .ref (o + 2) :: r => match D o with
        | some (.inr (.inl (ci, ks))) => if ci = k.2.1 then (match ks[k.2.2.1]? with
          | some (.inl a) => a_fit (a_fty k.2.1 k.2.2.1) v = true ∧ z_in a v ∧ w_j rec (pc + len) nx d M ls r fs ((o * 128 + k.2.2.1, v) :: hf) ha
          | _ => False) else False
        | _ => False
      | _ => False
    | .iaload => match st with
      | .int j :: .ref (o + 2) :: r => match D o with
        | some (.inl (t, n, lo, hi)) => if t = 0 then (0 ≤ j.toInt ∧ j.toInt < n) ∧ w_ai h o 0 n lo hi ha (fun l ha' => w_j rec (pc + len) nx d M ls (.int (l.getD j.toNatClampNeg 0) :: r) fs hf ha') else False
        | _ => False
      | _ => False
    | .baload => match st with
      | .int j :: .ref (o + 2) :: r => match D o with
        | some (.inl (t, n, lo, hi)) => if t = 2 then (0 ≤ j.toInt ∧ j.toInt < n) ∧ w_ai h o 2 n lo hi ha (fun l ha' => w_j rec (pc + len) nx d M ls (.int (l.getD j.toNatClampNeg 0) :: r) fs hf ha') else False
        | _ => False
      | _ => False
    | .laload => match st with
      | .int j :: .ref (o + 2) :: r => match D o with
        | some (.inl (t, n, lo, hi)) => if t = 1 then (0 ≤ j.toInt ∧ j.toInt < n) ∧ w_al h o n lo hi ha (fun l ha' => w_j rec (pc + len) nx d M ls (.long (l.getD j.toNatClampNeg 0) :: r) fs hf ha') else False
        | _ => False
      | _ => False
    | .iastore => match st with
      | .int x :: .int j :: .ref (o + 2) :: r => match D o with
        | some (.inl (t, n, lo, hi)) => if t = 0 then (0 ≤ j.toInt ∧ j.toInt < n) ∧ (lo ≤ x.toInt ∧ x.toInt ≤ hi) ∧ w_ai h o 0 n lo hi ha (fun l ha' => w_j rec (pc + len) nx d M ls r fs hf ((o, (0, .inl (l.set j.toNatClampNeg x))) :: ha')) else False
        | _ => False
      | _ => False
    | .bastore => match st with
      | .int x :: .int j :: .ref (o + 2) :: r => match D o with
        | some (.inl (t, n, lo, hi)) => if t = 2 then (0 ≤ j.toInt ∧ j.toInt < n) ∧ (lo ≤ x.toInt ∧ x.toInt ≤ hi ∧ 0 ≤ x.toInt ∧ x.toInt ≤ 1) ∧ w_ai h o 2 n lo hi ha (fun l ha' => w_j rec (pc + len) nx d M ls r fs hf ((o, (2, .inl (l.set j.toNatClampNeg x))) :: ha')) else False
        | _ => False
      | _ => False
    | .lastore => match st with
      | .long x :: .int j :: .ref (o + 2) :: r => match D o with
        | some (.inl (t, n, lo, hi)) => if t = 1 then (0 ≤ j.toInt ∧ j.toInt < n) ∧ (lo ≤ x.toInt ∧ x.toInt ≤ hi) ∧ w_al h o n lo hi ha (fun l ha' => w_j rec (pc + len) nx d M ls r fs hf ((o, (1, .inr (.inl (l.set j.toNatClampNeg x)))) :: ha')) else False
        | _ => False
      | _ => False
    | .ireturn => match M.2.2.2.1, st with
      | some .int, [.int x] => w_rt D h C S K0 rec d fs hf ha (some (.int x))
      | some .boolean, [.int x] => (0 ≤ x.toInt ∧ x.toInt ≤ 1) ∧ w_rt D h C S K0 rec d fs hf ha (some (.int x))
      | _, _ => False
    | .lreturn => match M.2.2.2.1, st with
      | some .long, [.long x] => w_rt D h C S K0 rec d fs hf ha (some (.long x))
      | _, _ => False
    | .return_ => match M.2.2.2.1, st with
      | none, [] => w_rt D h C S K0 rec d fs hf ha none
      | _, _ => False
    | .invokevirtual _ => match w_inv D P i k st with
      | some (M', as, rest) => match d with
        | 0 => False
        | d' + 1 => cond (Nat.beq (pc + len) nx) (w_norm (a_ent as M'.2.2.1) (fun l => cond (tl.elem k.2.1) (w_at D P X h C S K0 d' M' 0 l [] ((M, nx, ls, rest) :: fs) hf ha) (rec d' M' 0 l [] ((M, nx, ls, rest) :: fs) hf ha))) False
      | none => False
    | .invokestatic _ => match w_inv D P i k st with
      | some (M', as, rest) => match d with
        | 0 => False
        | d' + 1 => cond (Nat.beq (pc + len) nx) (w_norm (a_ent as M'.2.2.1) (fun l => cond (tl.elem k.2.1) (w_at D P X h C S K0 d' M' 0 l [] ((M, nx, ls, rest) :: fs) hf ha) (rec d' M' 0 l [] ((M, nx, ls, rest) :: fs) hf ha))) False
      | none => False
    | _ => match a_stk i k st with
      | some st' => w_j rec (pc + len) nx d M ls st' fs hf ha
      | none => match a_loc i ls st with
        | some (ls', st') => w_norm ls' (fun l => w_j rec (pc + len) nx d M l st' fs hf ha)
        | none => False
/-- a walk up to calls that are told (tl), and to places of the method itself (sp) -/
def w_p (sp tl : List Nat) : Nat → Nat → aM → Nat → aL → List Value → List wFr → wF → wA → Prop
  | 0, d, M, pc, ls, st, fs, hf, ha => w_at D P X h C S K0 d M pc ls st fs hf ha
  | n + 1, d, M, pc, ls, st, fs, hf, ha => if fs.isEmpty && sp.elem pc then w_at D P X h C S K0 d M pc ls st fs hf ha else w_body D P X h C S K0 tl (w_p sp tl n) d M pc ls st fs hf ha
end WDEF
end PT23a
section PT23b
/-! ===== v3: walks are sound ===== -/
section WOK
variable {D : Nat → Option zC} {P : List aM} {X : aX} {h H : aH} {C S : Nat} {K0 : Option Value → aH → Nat → Nat → Prop} {hf : wF} {ha : wA}
theorem w_key {o k : Nat} (hk : k < 128) : (o * 128 + k) / 128 = o ∧ (o * 128 + k) % 128 = k := by omega
theorem w_get1 (hr : w_hr D H) {o ci : Nat} {ks : List zK} (hD : D o = some (.inr (.inl (ci, ks)))) {k : Nat} {d : zK} (hd : ks[k]? = some d) : ∃ vs w, H[o]? = some (.inr (ci, vs)) ∧ vs.length = ks.length ∧ vs[k]? = some w ∧ z_dk d w := by
  obtain ⟨e, h1, h2⟩ := hr.1 o _ hD
  obtain ⟨vs, e1, e2, e3⟩ := h2
  obtain ⟨w, w1, w2, w3⟩ := e3 k d hd
  subst e1
  exact ⟨vs, w, h1, e2, w1, w3 rfl⟩
theorem w_f_at {o ci k : Nat} {vs : List Value} (hH : H[o]? = some (.inr (ci, vs))) (hk : k < 128) : w_f H (o * 128 + k) = vs[k]? := by
  unfold w_f
  rw [(w_key hk).1, (w_key hk).2, hH]
theorem w_f_put {o ci k key : Nat} {vs : List Value} {v : Value} (hH : H[o]? = some (.inr (ci, vs))) (hk : k < 128) (hne : key ≠ o * 128 + k) : w_f (H.set o (.inr (ci, vs.set k v))) key = w_f H key := by
  unfold w_f
  by_cases ho : o = key / 128
  · subst ho
    rw [hH, List.getElem?_set_self (List.getElem?_eq_some_iff.mp hH).1]
    dsimp only
    rw [List.getElem?_set_ne (by omega)]
  · rw [List.getElem?_set_ne ho]
theorem w_a_put {o ci : Nat} {vs : List Value} {o' : Nat} {vs' : List Value} (hH : H[o]? = some (.inr (ci, vs))) : w_a (H.set o (.inr (ci, vs'))) o' = w_a H o' := by
  unfold w_a
  by_cases ho : o = o'
  · subst ho
    rw [hH, List.getElem?_set_self (List.getElem?_eq_some_iff.mp hH).1]
  · rw [List.getElem?_set_ne ho]
theorem w_hr_put (hr : w_hr D H) {o ci k : Nat} {ks : List zK} (hD : D o = some (.inr (.inl (ci, ks)))) {a : zI} (ha' : ks[k]? = some (.inl a)) {vs : List Value} (hH : H[o]? = some (.inr (ci, vs))) {v : Value} (hv : z_in a v) : w_hr D (H.set o (.inr (ci, vs.set k v))) := by
  refine ⟨?_, trivial⟩
  intro o' c' hc'
  obtain ⟨e, h1, h2⟩ := hr.1 o' c' hc'
  by_cases ho : o = o'
  · subst ho
    rw [hD] at hc'
    cases hc'
    rw [hH] at h1
    cases h1
    obtain ⟨vs', e1, e2, e3⟩ := h2
    cases e1
    refine ⟨_, by rw [List.getElem?_set_self (List.getElem?_eq_some_iff.mp hH).1], vs.set k v, rfl, by rw [List.length_set]; exact e2, fun k' d' hd' => ?_⟩
    obtain ⟨w', w1, w2, w3⟩ := e3 k' d' hd'
    by_cases hkk : k = k'
    · subst hkk
      rw [ha'] at hd'
      cases hd'
      exact ⟨v, by rw [List.getElem?_set_self (by rw [e2]; exact (List.getElem?_eq_some_iff.mp ha').1)], fun x hx => (by cases hx), fun _ => hv⟩
    · exact ⟨w', by rw [List.getElem?_set_ne hkk]; exact w1, w2, w3⟩
  · exact ⟨e, by rw [List.getElem?_set_ne ho]; exact h1, h2⟩
theorem w_rel_put (hlen : ∀ o ci ks, D o = some (.inr (.inl (ci, ks))) → ks.length ≤ 128) (hrel : w_rel D h hf ha H) {o ci k : Nat} {ks : List zK} (hD : D o = some (.inr (.inl (ci, ks)))) {a : zI} (ha' : ks[k]? = some (.inl a)) {vs : List Value} (hH : H[o]? = some (.inr (ci, vs))) {v : Value} (hv : z_in a v) : w_rel D h ((o * 128 + k, v) :: hf) ha (H.set o (.inr (ci, vs.set k v))) := by
  obtain ⟨r1, r2, r3, r4, r5⟩ := hrel
  have hkl := (List.getElem?_eq_some_iff.mp ha').1
  have hk : k < 128 := Nat.lt_of_lt_of_le hkl (hlen _ _ _ hD)
  obtain ⟨vs2, w, g1, g2, g3, -⟩ := w_get1 r1 hD ha'
  rw [hH] at g1
  cases g1
  refine ⟨w_hr_put r1 hD ha' hH hv, fun key v' hl => ?_, fun o' a' hl => ?_, fun key hl => ?_, fun o' hl => ?_⟩
  · rw [List.lookup_cons] at hl
    split at hl
    · rename_i hb
      cases hl
      rw [beq_iff_eq] at hb
      subst hb
      rw [w_f_at (vs := vs.set k v) (ci := ci) (by rw [List.getElem?_set_self (List.getElem?_eq_some_iff.mp hH).1]) hk, List.getElem?_set_self (by omega)]
    · rename_i hb
      rw [w_f_put hH hk (fun e => by rw [e, beq_self_eq_true] at hb; cases hb)]
      exact r2 key v' hl
  · rw [w_a_put hH]
    exact r3 o' a' hl
  · rw [List.lookup_cons] at hl
    split at hl
    · cases hl
    · rename_i hb
      rw [w_f_put hH hk (fun e => by rw [e, beq_self_eq_true] at hb; cases hb)]
      exact r4 key hl
  · rw [w_a_put hH]
    exact r5 o' hl
theorem w_arrI (hr : w_hr D H) {o t n : Nat} {lo hi : Int} (ht : t ≠ 1) (hD : D o = some (.inl (t, n, lo, hi))) : ∃ l : List Int32, H[o]? = some (.inl (t, .inl l)) ∧ l.length = n ∧ ∀ x ∈ l, lo ≤ x.toInt ∧ x.toInt ≤ hi := by
  obtain ⟨e, h1, h2⟩ := hr.1 o _ hD
  unfold z_cell at h2
  dsimp only at h2
  rw [if_neg ht] at h2
  obtain ⟨-, l, e1, e2, e3⟩ := h2
  exact ⟨l, by rw [h1, e1], e2, e3⟩
theorem w_arrL (hr : w_hr D H) {o n : Nat} {lo hi : Int} (hD : D o = some (.inl (1, n, lo, hi))) : ∃ l : List Int64, H[o]? = some (.inl (1, .inr (.inl l))) ∧ l.length = n ∧ ∀ x ∈ l, lo ≤ x.toInt ∧ x.toInt ≤ hi := by
  obtain ⟨e, h1, h2⟩ := hr.1 o _ hD
  unfold z_cell at h2
  dsimp only at h2
  rw [if_pos rfl] at h2
  obtain ⟨l, e1, e2, e3⟩ := h2
  exact ⟨l, by rw [h1, e1], e2, e3⟩
theorem w_a_at {o : Nat} {a : Nat × aA} (hH : H[o]? = some (.inl a)) : w_a H o = some a := by
  unfold w_a
  rw [hH]
theorem w_rel_arr (hrel : w_rel D h hf ha H) {o : Nat} {a : Nat × Nat × Int × Int} (hD : D o = some (.inl a)) {q b : Nat × aA} (hH : H[o]? = some (.inl q)) (hb : z_cell [] [] o (.inl a) (.inl b)) : w_rel D h hf ((o, b) :: ha) (H.set o (.inl b)) := by
  obtain ⟨r1, r2, r3, r4, r5⟩ := hrel
  have hlt := (List.getElem?_eq_some_iff.mp hH).1
  have hfe : ∀ key, w_f (H.set o (.inl b)) key = w_f H key := fun key => by
    unfold w_f
    by_cases ho : o = key / 128
    · subst ho
      rw [hH, List.getElem?_set_self hlt]
    · rw [List.getElem?_set_ne ho]
  have hae : ∀ o', o' ≠ o → w_a (H.set o (.inl b)) o' = w_a H o' := fun o' hne => by
    unfold w_a
    rw [List.getElem?_set_ne (fun e => hne e.symm)]
  refine ⟨⟨fun o' c' hc' => ?_, trivial⟩, fun key v hl => by rw [hfe]; exact r2 key v hl, fun o' a' hl => ?_, fun key hl => by rw [hfe]; exact r4 key hl, fun o' hl => ?_⟩
  · obtain ⟨e, h1, h2⟩ := r1.1 o' c' hc'
    by_cases ho : o = o'
    · subst ho
      rw [hD] at hc'
      cases hc'
      exact ⟨.inl b, by rw [List.getElem?_set_self hlt], hb⟩
    · exact ⟨e, by rw [List.getElem?_set_ne ho]; exact h1, h2⟩
  · rw [List.lookup_cons] at hl
    split at hl
    · rename_i hq
      cases hl
      rw [beq_iff_eq] at hq
      subst hq
      exact w_a_at (by rw [List.getElem?_set_self hlt])
    · rename_i hq
      rw [hae o' (fun e => by rw [e, beq_self_eq_true] at hq; cases hq)]
      exact r3 o' a' hl
  · rw [List.lookup_cons] at hl
    split at hl
    · cases hl
    · rename_i hq
      rw [hae o' (fun e => by rw [e, beq_self_eq_true] at hq; cases hq)]
      exact r5 o' hl
/-- a name for what is read the first time -/
theorem w_rel_f (hrel : w_rel D h hf ha H) {key : Nat} {v : Value} (hn : hf.lookup key = none) (hv : w_f H key = some v) : w_rel D h ((key, v) :: hf) ha H := by
  obtain ⟨r1, r2, r3, r4, r5⟩ := hrel
  refine ⟨r1, fun k v' hl => ?_, r3, fun k hl => ?_, r5⟩
  · rw [List.lookup_cons] at hl
    split at hl
    · rename_i hb
      cases hl
      rw [beq_iff_eq] at hb
      subst hb
      exact hv
    · exact r2 k v' hl
  · rw [List.lookup_cons] at hl
    split at hl
    · cases hl
    · exact r4 k hl
theorem w_rel_a (hrel : w_rel D h hf ha H) {o : Nat} {a : Nat × aA} (hv : w_a H o = some a) : w_rel D h hf ((o, a) :: ha) H := by
  obtain ⟨r1, r2, r3, r4, r5⟩ := hrel
  refine ⟨r1, r2, fun k v' hl => ?_, r4, fun k hl => ?_⟩
  · rw [List.lookup_cons] at hl
    split at hl
    · rename_i hb
      cases hl
      rw [beq_iff_eq] at hb
      subst hb
      exact hv
    · exact r3 k v' hl
  · rw [List.lookup_cons] at hl
    split at hl
    · cases hl
    · exact r5 k hl
theorem w_get_ok (hlen : ∀ o ci ks, D o = some (.inr (.inl (ci, ks))) → ks.length ≤ 128) (hrel : w_rel D h hf ha H) {o ci k : Nat} {ks : List zK} (hD : D o = some (.inr (.inl (ci, ks)))) {d : zK} (hd : ks[k]? = some d) {go : Value → wF → Prop} (hg : w_get h o k d hf go) : ∃ vs v hf', H[o]? = some (.inr (ci, vs)) ∧ vs[k]? = some v ∧ w_rel D h hf' ha H ∧ go v hf' := by
  obtain ⟨vs, w, g1, g2, g3, g4⟩ := w_get1 hrel.1 hD hd
  have hk : k < 128 := Nat.lt_of_lt_of_le (List.getElem?_eq_some_iff.mp hd).1 (hlen _ _ _ hD)
  have hfv : w_f H (o * 128 + k) = some w := by rw [w_f_at g1 hk]; exact g3
  unfold w_get at hg
  split at hg
  · have : w = .ref _ := g4
    subst this
    exact ⟨vs, _, hf, g1, g3, hrel, hg⟩
  · rename_i t lo hi
    split at hg
    · rename_i v hl
      have := hrel.2.1 _ _ hl
      rw [hfv] at this
      cases this
      exact ⟨vs, _, hf, g1, g3, hrel, hg⟩
    · rename_i hl
      have h0 := hrel.2.2.2.1 _ hl
      rw [hfv] at h0
      have hin : z_in (t, lo, hi) w := g4
      split at hg
      · rename_i ht
        rcases hin with ⟨_, x, rfl, b1, b2⟩ | ⟨h2, -⟩
        · exact ⟨vs, _, _, g1, g3, w_rel_f hrel hl hfv, hg x h0.symm b1 b2⟩
        · rw [ht] at h2; cases h2
      · rename_i ht
        rcases hin with ⟨h2, -⟩ | ⟨_, x, rfl, b1, b2⟩
        · exact absurd h2 ht
        · exact ⟨vs, _, _, g1, g3, w_rel_f hrel hl hfv, hg x h0.symm b1 b2⟩
theorem w_ai_ok (hrel : w_rel D h hf ha H) {o t n : Nat} {lo hi : Int} (ht : t ≠ 1) (hD : D o = some (.inl (t, n, lo, hi))) {go : List Int32 → wA → Prop} (hg : w_ai h o t n lo hi ha go) : ∃ l ha', H[o]? = some (.inl (t, .inl l)) ∧ l.length = n ∧ (∀ x ∈ l, lo ≤ x.toInt ∧ x.toInt ≤ hi) ∧ w_rel D h hf ha' H ∧ go l ha' := by
  obtain ⟨l, g1, g2, g3⟩ := w_arrI hrel.1 ht hD
  have hav := w_a_at g1
  unfold w_ai at hg
  split at hg
  · rename_i t' l' hl
    have := hrel.2.2.1 _ _ hl
    rw [hav] at this
    cases this
    exact ⟨_, ha, g1, g2, g3, hrel, hg⟩
  · exact hg.elim
  · rename_i hl
    have h0 := hrel.2.2.2.2 _ hl
    rw [hav] at h0
    exact ⟨l, _, g1, g2, g3, w_rel_a hrel hav, hg l h0.symm g2 g3⟩
theorem w_al_ok (hrel : w_rel D h hf ha H) {o n : Nat} {lo hi : Int} (hD : D o = some (.inl (1, n, lo, hi))) {go : List Int64 → wA → Prop} (hg : w_al h o n lo hi ha go) : ∃ l ha', H[o]? = some (.inl (1, .inr (.inl l))) ∧ l.length = n ∧ (∀ x ∈ l, lo ≤ x.toInt ∧ x.toInt ≤ hi) ∧ w_rel D h hf ha' H ∧ go l ha' := by
  obtain ⟨l, g1, g2, g3⟩ := w_arrL hrel.1 hD
  have hav := w_a_at g1
  unfold w_al at hg
  split at hg
  · rename_i t' l' hl
    have := hrel.2.2.1 _ _ hl
    rw [hav] at this
    cases this
    exact ⟨_, ha, g1, g2, g3, hrel, hg⟩
  · exact hg.elim
  · rename_i hl
    have h0 := hrel.2.2.2.2 _ hl
    rw [hav] at h0
    exact ⟨l, _, g1, g2, g3, w_rel_a hrel hav, hg l h0.symm g2 g3⟩
theorem w_ix {j : Int32} {n : Nat} (h1 : 0 ≤ j.toInt) (h2 : j.toInt < n) : ¬ (j < 0 ∨ n ≤ j.toNatClampNeg) ∧ j.toNatClampNeg < n := by
  have hc : j.toNatClampNeg = j.toInt.toNat := rfl
  refine ⟨?_, by omega⟩
  rintro (q | q)
  · have := Int32.lt_iff_toInt_lt.mp q
    have e0 : (0 : Int32).toInt = 0 := rfl
    omega
  · omega
end WOK
end PT23b
section PT23c
/-! ===== v3: a walk's run ===== -/
section WRUN
variable {D : Nat → Option zC} {P : List aM} {X : aX} {h : aH} {C S : Nat} {K0 : Option Value → aH → Nat → Nat → Prop}
theorem w_inv_ok {H : aH} (hr : w_hr D H) {i : Instr} {k : aK} {st : List Value} {q : aM × List Value × List Value} (e : w_inv D P i k st = some q) : a_inv P i k st H = some q ∧ k.1 ≠ 18 ∧ k.1 ≠ 10 := by
  unfold w_inv at e
  split at e
  · cases e
  · rename_i M hM
    split at e
    · split at e
      · rename_i hk
        refine ⟨?_, by omega, by omega⟩
        split at e
        · rename_i o r hd
          split at e
          · rename_i c ks hD
            split at e
            · rename_i hc
              cases e
              unfold a_inv
              rw [hM]
              dsimp only
              rw [if_pos (Or.inl hk), hd]
              dsimp only
              have hrec : a_recv H (.ref (o + 2)) k.2.2.1 = true := by
                obtain ⟨ee, h1, h2⟩ := hr.1 o _ hD
                obtain ⟨vs, e1, -⟩ := h2
                show (match H[o]? with
                  | some (.inr (c, _)) => decide (c = k.2.2.1)
                  | _ => false) = true
                rw [h1, e1]
                exact decide_eq_true hc.1
              rw [if_pos ⟨hrec, hc.2⟩]
            · cases e
          · cases e
        · cases e
      · cases e
    · split at e
      · rename_i hk
        refine ⟨?_, by omega, by omega⟩
        split at e
        · rename_i hc
          cases e
          unfold a_inv
          rw [hM]
          dsimp only
          rw [if_pos (Or.inl hk), if_pos hc]
        · cases e
      · cases e
    · cases e
/-- a call, told or walked -/
theorem w_call_ok {H : aH} {d : Nat} {M M' : aM} {pc len : Nat} {i : Instr} {k : aK} {ls : aL} {st as rest : List Value} {fs : List wFr} (hl : M.2.2.2.2.2.lookup pc = some (i, len, k)) (ho : a_op X i len k pc ls st H = none) (hr : a_ret i k M.2.2.2.1 st = none) (hi : a_inv P i k st H = some (M', as, rest)) (hc : aOK P X d M' 0 (a_ent as M'.2.2.1) [] H C S (w_KF P X K0 d ((M, pc + len, ls, rest) :: fs))) : aOK P X (d + 1) M pc ls st H C S (w_KF P X K0 (d + 1) fs) := aOK_call hl ho hr hi (aOK_imp (fun v h1 C1 S1 q => Or.inr q) hc)
theorem w_rt_ok {H : aH} {rec : Nat → aM → Nat → aL → List Value → List wFr → wF → wA → Prop} (hrec : ∀ d M pc ls st fs hf ha, rec d M pc ls st fs hf ha → w_at D P X h C S K0 d M pc ls st fs hf ha) {d : Nat} {fs : List wFr} {hf : wF} {ha : wA} {v : Option Value} (hv : ∀ n, v ≠ some (.retAddr n)) (hrel : w_rel D h hf ha H) (hb : w_rt D h C S K0 rec d fs hf ha v) : w_KF P X K0 d fs v H C S := by
  unfold w_rt at hb
  split at hb
  · exact hb H hrel
  · split at hb
    · exact ⟨hv, hrec _ _ _ _ _ _ _ _ hb H hrel⟩
    · exact ⟨hv, hrec _ _ _ _ _ _ _ _ hb H hrel⟩
theorem w_nar01 {x : Int32} (h1 : 0 ≤ x.toInt) (h2 : x.toInt ≤ 1) : narrow .boolean (.int x) = .int x ∧ a_nar 2 x = x := by
  rcases z_nar2 h1 h2 with rfl | rfl <;> exact ⟨by decide, by decide⟩
theorem w_find_ok : ∀ {l : List (Nat × aI)} {pc : Nat} {a : aI} {nx : Nat}, w_find l pc = some (a, nx) → l.lookup pc = some a
  | [], _, _, _, h => by cases h
  | (p, b) :: r, pc, a, nx, h => by
    unfold w_find at h
    rw [List.lookup_cons]
    cases hb : Nat.beq p pc with
    | true =>
      rw [hb] at h
      cases h
      have : p = pc := Nat.eq_of_beq_eq_true hb
      rw [this, beq_self_eq_true]
    | false =>
      rw [hb] at h
      have : ¬ pc = p := fun e => Nat.ne_of_beq_eq_false hb e.symm
      rw [beq_eq_false_iff_ne.mpr this]
      exact w_find_ok h
theorem w_norm_eq : ∀ {l : aL} {g : aL → Prop}, w_norm l g → g l
  | [], _, h => h
  | a :: r, g, h => w_norm_eq (l := r) (g := fun r' => g (a :: r')) h
theorem w_j_ok {rec : Nat → aM → Nat → aL → List Value → List wFr → wF → wA → Prop} {p nx d : Nat} {M : aM} {ls : aL} {st : List Value} {fs : List wFr} {hf : wF} {ha : wA} (h : w_j rec p nx d M ls st fs hf ha) : rec d M p ls st fs hf ha := by
  unfold w_j at h
  cases hb : Nat.beq p nx with
  | true =>
    rw [hb] at h
    rw [Nat.eq_of_beq_eq_true hb]
    exact h
  | false =>
    rw [hb] at h
    exact h.elim
theorem w_body_ok (hlen : ∀ o ci ks, D o = some (.inr (.inl (ci, ks))) → ks.length ≤ 128) {tl : List Nat} {rec : Nat → aM → Nat → aL → List Value → List wFr → wF → wA → Prop} (hrec : ∀ d M pc ls st fs hf ha, rec d M pc ls st fs hf ha → w_at D P X h C S K0 d M pc ls st fs hf ha) {d : Nat} {M : aM} {pc : Nat} {ls : aL} {st : List Value} {fs : List wFr} {hf : wF} {ha : wA} (hb : w_body D P X h C S K0 tl rec d M pc ls st fs hf ha) : w_at D P X h C S K0 d M pc ls st fs hf ha := by
  intro H hrel
  unfold w_body at hb
  split at hb
  · exact hb.elim
  · rename_i i len k nx hl0
    have hl := w_find_ok hl0
    split at hb
    · -- ifCond
      rename_i c off
      split at hb
      · rename_i x r
        refine aOK_op0 (pc' := if a_cnd c x 0 then k.2.1 else pc + 3) (ls' := ls) (st' := r) hl rfl ?_
        cases hc : a_cnd c x 0 with
        | true => exact hrec _ _ _ _ _ _ _ _ (hb.1 hc) H hrel
        | false => exact hrec _ _ _ _ _ _ _ _ (w_j_ok (hb.2 hc)) H hrel
      · exact hb.elim
    · rename_i c off
      split at hb
      · rename_i y x r
        refine aOK_op0 (pc' := if a_cnd c x y then k.2.1 else pc + 3) (ls' := ls) (st' := r) hl rfl ?_
        cases hc : a_cnd c x y with
        | true => exact hrec _ _ _ _ _ _ _ _ (hb.1 hc) H hrel
        | false => exact hrec _ _ _ _ _ _ _ _ (w_j_ok (hb.2 hc)) H hrel
      · exact hb.elim
    · exact aOK_op0 hl rfl (hrec _ _ _ _ _ _ _ _ hb H hrel)
    · split at hb
      · rename_i y x r
        refine aOK_op0 (pc' := pc + len) (ls' := ls) (st' := .int (x / y) :: r) hl ?_ (hrec _ _ _ _ _ _ _ _ (w_j_ok hb.2) H hrel)
        simp only [a_op, a_stk, a_iin, if_neg hb.1]
      · exact hb.elim
    · split at hb
      · rename_i y x r
        refine aOK_op0 (pc' := pc + len) (ls' := ls) (st' := .int (x - x / y * y) :: r) hl ?_ (hrec _ _ _ _ _ _ _ _ (w_j_ok hb.2) H hrel)
        simp only [a_op, a_stk, a_iin, if_neg hb.1]
      · exact hb.elim
    · split at hb
      · rename_i y x r
        exact aOK_op0 (pc' := pc + len) (ls' := ls) (st' := .long (x / y) :: r) hl (s_ldiv hb.1) (hrec _ _ _ _ _ _ _ _ (w_j_ok hb.2) H hrel)
      · exact hb.elim
    · split at hb
      · rename_i y x r
        exact aOK_op0 (pc' := pc + len) (ls' := ls) (st' := .long (x - x / y * y) :: r) hl (s_lrem hb.1) (hrec _ _ _ _ _ _ _ _ (w_j_ok hb.2) H hrel)
      · exact hb.elim
    · -- getfield
      rename_i q
      split at hb
      · rename_i o r
        split at hb
        · rename_i ci ks hD
          split at hb
          · rename_i hc
            split at hb
            · rename_i dd hdd
              obtain ⟨vs, v, hf', g1, g2, g3, g4⟩ := w_get_ok hlen hrel hD hdd hb
              refine aOK_op0 (pc' := pc + len) (ls' := ls) (st' := v :: r) hl ?_ (hrec _ _ _ _ _ _ _ _ (w_j_ok g4) H g3)
              show z_wrap X (.getfield q) len pc ls (.ref (o + 2) :: r) H (match H[o]? with
                | some (.inr (ci, fs)) => if ci = k.2.1 then match fs[k.2.2.1]? with
                  | some v => some (v :: r, H, 0, 0)
                  | none => none
                  else none
                | _ => none) = _
              rw [g1]
              dsimp only
              rw [if_pos hc, g2]
              rfl
            · exact hb.elim
          · exact hb.elim
        · exact hb.elim
      · exact hb.elim
    · -- putfield
      rename_i q
      split at hb
      · rename_i v o r
        split at hb
        · rename_i ci ks hD
          split at hb
          · rename_i hc
            split at hb
            · rename_i a hdd
              obtain ⟨hfit, hin, hgo⟩ := hb
              obtain ⟨vs, w, g1, g2, g3, -⟩ := w_get1 hrel.1 hD hdd
              refine aOK_op (pc' := pc + len) (ls' := ls) (st' := r) (c := 0) (s := 0) hl ?_ (hrec _ _ _ _ _ _ _ _ (w_j_ok hgo) _ (w_rel_put hlen hrel hD hdd g1 hin))
              show z_wrap X (.putfield q) len pc ls (v :: .ref (o + 2) :: r) H (match H[o]? with
                | some (.inr (ci, fs)) => if ci = k.2.1 then (if k.2.2.1 < fs.length then (if a_fit (a_fty k.2.1 k.2.2.1) v then some (r, H.set o (.inr (ci, fs.set k.2.2.1 v)), 0, 0) else none) else none) else none
                | _ => none) = _
              rw [g1]
              dsimp only
              rw [if_pos hc, if_pos (by rw [g2]; exact (List.getElem?_eq_some_iff.mp hdd).1), if_pos hfit]
              rfl
            · exact hb.elim
          · exact hb.elim
        · exact hb.elim
      · exact hb.elim
    · -- iaload
      split at hb
      · rename_i j o r
        split at hb
        · rename_i t n lo hi hD
          split at hb
          · rename_i ht
            subst ht
            obtain ⟨hj, hgo⟩ := hb
            obtain ⟨l, ha', g1, g2, g3, g4, g5⟩ := w_ai_ok hrel (by decide) hD hgo
            refine aOK_op0 (pc' := pc + len) (ls' := ls) (st' := .int (l.getD j.toNatClampNeg 0) :: r) hl ?_ (hrec _ _ _ _ _ _ _ _ (w_j_ok g5) H g4)
            show z_wrap X .iaload len pc ls (.int j :: .ref (o + 2) :: r) H (match H[o]? with
              | some (.inl (t', .inl l)) => if t' = 0 then (if j < 0 ∨ l.length ≤ j.toNatClampNeg then none else some (.int (l.getD j.toNatClampNeg 0) :: r, H, 0, 0)) else none
              | _ => none) = _
            rw [g1]
            dsimp only
            rw [if_pos rfl, if_neg (by rw [g2]; exact (w_ix hj.1 hj.2).1)]
            rfl
          · exact hb.elim
        · exact hb.elim
      · exact hb.elim
    · -- baload
      split at hb
      · rename_i j o r
        split at hb
        · rename_i t n lo hi hD
          split at hb
          · rename_i ht
            subst ht
            obtain ⟨hj, hgo⟩ := hb
            obtain ⟨l, ha', g1, g2, g3, g4, g5⟩ := w_ai_ok hrel (by decide) hD hgo
            refine aOK_op0 (pc' := pc + len) (ls' := ls) (st' := .int (l.getD j.toNatClampNeg 0) :: r) hl ?_ (hrec _ _ _ _ _ _ _ _ (w_j_ok g5) H g4)
            show z_wrap X .baload len pc ls (.int j :: .ref (o + 2) :: r) H (match H[o]? with
              | some (.inl (t', .inl l)) => if t' = 2 then (if j < 0 ∨ l.length ≤ j.toNatClampNeg then none else some (.int (l.getD j.toNatClampNeg 0) :: r, H, 0, 0)) else none
              | _ => none) = _
            rw [g1]
            dsimp only
            rw [if_pos rfl, if_neg (by rw [g2]; exact (w_ix hj.1 hj.2).1)]
            rfl
          · exact hb.elim
        · exact hb.elim
      · exact hb.elim
    · -- laload
      split at hb
      · rename_i j o r
        split at hb
        · rename_i t n lo hi hD
          split at hb
          · rename_i ht
            subst ht
            obtain ⟨hj, hgo⟩ := hb
            obtain ⟨l, ha', g1, g2, g3, g4, g5⟩ := w_al_ok hrel hD hgo
            refine aOK_op0 (pc' := pc + len) (ls' := ls) (st' := .long (l.getD j.toNatClampNeg 0) :: r) hl ?_ (hrec _ _ _ _ _ _ _ _ (w_j_ok g5) H g4)
            show z_wrap X .laload len pc ls (.int j :: .ref (o + 2) :: r) H (match H[o]? with
              | some (.inl (t', .inr (.inl l))) => if t' = 1 then (if j < 0 ∨ l.length ≤ j.toNatClampNeg then none else some (.long (l.getD j.toNatClampNeg 0) :: r, H, 0, 0)) else none
              | _ => none) = _
            rw [g1]
            dsimp only
            rw [if_pos rfl, if_neg (by rw [g2]; exact (w_ix hj.1 hj.2).1)]
            rfl
          · exact hb.elim
        · exact hb.elim
      · exact hb.elim
    · -- iastore
      split at hb
      · rename_i x j o r
        split at hb
        · rename_i t n lo hi hD
          split at hb
          · rename_i ht
            subst ht
            obtain ⟨hj, hx, hgo⟩ := hb
            obtain ⟨l, ha', g1, g2, g3, g4, g5⟩ := w_ai_ok hrel (by decide) hD hgo
            refine aOK_op (pc' := pc + len) (ls' := ls) (st' := r) (c := 0) (s := 0) hl ?_ (hrec _ _ _ _ _ _ _ _ (w_j_ok g5) _ (w_rel_arr g4 hD g1 ?_))
            · show z_wrap X .iastore len pc ls (.int x :: .int j :: .ref (o + 2) :: r) H (match H[o]? with
                | some (.inl (t', .inl l)) => if t' = 0 then (if j < 0 ∨ l.length ≤ j.toNatClampNeg then none else some (r, H.set o (.inl (t', .inl (l.set j.toNatClampNeg (a_nar 0 x)))), 0, 0)) else none
                | _ => none) = _
              rw [g1]
              dsimp only
              rw [if_pos rfl, if_neg (by rw [g2]; exact (w_ix hj.1 hj.2).1)]
              rfl
            · unfold z_cell
              dsimp only
              rw [if_neg (by decide)]
              refine ⟨by decide, _, rfl, by rw [List.length_set]; exact g2, fun y hy => ?_⟩
              rcases z_mem_set hy with q | rfl
              · exact g3 y q
              · exact hx
          · exact hb.elim
        · exact hb.elim
      · exact hb.elim
    · -- bastore
      split at hb
      · rename_i x j o r
        split at hb
        · rename_i t n lo hi hD
          split at hb
          · rename_i ht
            subst ht
            obtain ⟨hj, hx, hgo⟩ := hb
            obtain ⟨l, ha', g1, g2, g3, g4, g5⟩ := w_ai_ok hrel (by decide) hD hgo
            refine aOK_op (pc' := pc + len) (ls' := ls) (st' := r) (c := 0) (s := 0) hl ?_ (hrec _ _ _ _ _ _ _ _ (w_j_ok g5) _ (w_rel_arr g4 hD g1 ?_))
            · show z_wrap X .bastore len pc ls (.int x :: .int j :: .ref (o + 2) :: r) H (match H[o]? with
                | some (.inl (t', .inl l)) => if t' = 2 then (if j < 0 ∨ l.length ≤ j.toNatClampNeg then none else some (r, H.set o (.inl (t', .inl (l.set j.toNatClampNeg (a_nar 2 x)))), 0, 0)) else none
                | _ => none) = _
              rw [g1]
              dsimp only
              rw [if_pos rfl, if_neg (by rw [g2]; exact (w_ix hj.1 hj.2).1), (w_nar01 hx.2.2.1 hx.2.2.2).2]
              rfl
            · unfold z_cell
              dsimp only
              rw [if_neg (by decide)]
              refine ⟨by decide, _, rfl, by rw [List.length_set]; exact g2, fun y hy => ?_⟩
              rcases z_mem_set hy with q | rfl
              · exact g3 y q
              · exact ⟨hx.1, hx.2.1⟩
          · exact hb.elim
        · exact hb.elim
      · exact hb.elim
    · -- lastore
      split at hb
      · rename_i x j o r
        split at hb
        · rename_i t n lo hi hD
          split at hb
          · rename_i ht
            subst ht
            obtain ⟨hj, hx, hgo⟩ := hb
            obtain ⟨l, ha', g1, g2, g3, g4, g5⟩ := w_al_ok hrel hD hgo
            refine aOK_op (pc' := pc + len) (ls' := ls) (st' := r) (c := 0) (s := 0) hl ?_ (hrec _ _ _ _ _ _ _ _ (w_j_ok g5) _ (w_rel_arr g4 hD g1 ?_))
            · show z_wrap X .lastore len pc ls (.long x :: .int j :: .ref (o + 2) :: r) H (match H[o]? with
                | some (.inl (t', .inr (.inl l))) => if t' = 1 then (if j < 0 ∨ l.length ≤ j.toNatClampNeg then none else some (r, H.set o (.inl (t', .inr (.inl (l.set j.toNatClampNeg x)))), 0, 0)) else none
                | _ => none) = _
              rw [g1]
              dsimp only
              rw [if_pos rfl, if_neg (by rw [g2]; exact (w_ix hj.1 hj.2).1)]
              rfl
            · unfold z_cell
              dsimp only
              rw [if_pos rfl]
              refine ⟨_, rfl, by rw [List.length_set]; exact g2, fun y hy => ?_⟩
              rcases z_mem_set hy with q | rfl
              · exact g3 y q
              · exact hx
          · exact hb.elim
        · exact hb.elim
      · exact hb.elim
    · -- ireturn
      split at hb
      · rename_i l0 x hret
        refine aOK_ret hl s_ireturn (v := some (.int x)) ?_ (fun n e => by cases e) (w_rt_ok hrec (fun n e => by cases e) hrel hb)
        rw [hret]; rfl
      · rename_i l0 x hret
        refine aOK_ret hl s_ireturn (v := some (.int x)) ?_ (fun n e => by cases e) (w_rt_ok hrec (fun n e => by cases e) hrel hb.2)
        rw [hret]
        show (if narrow .boolean (.int x) = .int x then some (some (Value.int x)) else none) = _
        rw [if_pos (w_nar01 hb.1.1 hb.1.2).1]
      · exact hb.elim
    · -- lreturn
      split at hb
      · rename_i l0 x hret
        refine aOK_ret hl s_lreturn (v := some (.long x)) ?_ (fun n e => by cases e) (w_rt_ok hrec (fun n e => by cases e) hrel hb)
        rw [hret]; rfl
      · exact hb.elim
    · -- return
      split at hb
      · rename_i l0 hret
        refine aOK_ret hl (by cases X <;> rfl) (v := none) ?_ (fun n e => by cases e) (w_rt_ok hrec (fun n e => by cases e) hrel hb)
        rw [hret]; rfl
      · exact hb.elim
    · -- invokevirtual
      rename_i q
      split at hb
      · rename_i M' as rest hq
        obtain ⟨hi, hk, -⟩ := w_inv_ok hrel.1 hq
        split at hb
        · exact hb.elim
        · rename_i d'
          cases hbq : Nat.beq (pc + len) nx with
          | false =>
            rw [hbq] at hb
            exact hb.elim
          | true =>
            rw [hbq] at hb
            have hb2 := w_norm_eq hb
            have en : nx = pc + len := (Nat.eq_of_beq_eq_true hbq).symm
            subst en
            cases htl : tl.elem k.2.1 with
            | true =>
              rw [htl] at hb2
              exact w_call_ok hl (by cases X <;> rfl) rfl hi (hb2 H hrel)
            | false =>
              rw [htl] at hb2
              exact w_call_ok hl (by cases X <;> rfl) rfl hi (hrec _ _ _ _ _ _ _ _ hb2 H hrel)
      · exact hb.elim
    · -- invokestatic
      rename_i q
      split at hb
      · rename_i M' as rest hq
        obtain ⟨hi, hk, hk2⟩ := w_inv_ok hrel.1 hq
        have hop : a_op X (.invokestatic q) len k pc ls st H = none := by
          unfold a_op
          simp only [a_stk, a_loc, a_br, a_hp, if_neg hk2]
          cases X <;> rfl
        split at hb
        · exact hb.elim
        · rename_i d'
          cases hbq : Nat.beq (pc + len) nx with
          | false =>
            rw [hbq] at hb
            exact hb.elim
          | true =>
            rw [hbq] at hb
            have hb2 := w_norm_eq hb
            have en : nx = pc + len := (Nat.eq_of_beq_eq_true hbq).symm
            subst en
            cases htl : tl.elem k.2.1 with
            | true =>
              rw [htl] at hb2
              exact w_call_ok hl hop rfl hi (hb2 H hrel)
            | false =>
              rw [htl] at hb2
              exact w_call_ok hl hop rfl hi (hrec _ _ _ _ _ _ _ _ hb2 H hrel)
      · exact hb.elim
    · -- all else
      split at hb
      · rename_i st' hst
        refine aOK_op0 hl ?_ (hrec _ _ _ _ _ _ _ _ (w_j_ok hb) H hrel)
        unfold a_op
        rw [hst]
      · rename_i hst
        split at hb
        · rename_i ls' st' hls
          refine aOK_op0 hl ?_ (hrec _ _ _ _ _ _ _ _ (w_j_ok (w_norm_eq hb)) H hrel)
          unfold a_op
          rw [hst]
          dsimp only
          rw [hls]
        · exact hb.elim
theorem w_p_ok (hlen : ∀ o ci ks, D o = some (.inr (.inl (ci, ks))) → ks.length ≤ 128) {sp tl : List Nat} : ∀ (n : Nat) (d : Nat) (M : aM) (pc : Nat) (ls : aL) (st : List Value) (fs : List wFr) (hf : wF) (ha : wA), w_p D P X h C S K0 sp tl n d M pc ls st fs hf ha → w_at D P X h C S K0 d M pc ls st fs hf ha
  | 0, _, _, _, _, _, _, _, _, hb => hb
  | n + 1, d, M, pc, ls, st, fs, hf, ha, hb => by
    unfold w_p at hb
    split at hb
    · exact hb
    · exact w_body_ok hlen (w_p_ok hlen n) hb
theorem w_rel0 (hr : w_hr D h) : w_rel D h [] [] h := ⟨hr, fun _ _ q => (by cases q), fun _ _ q => (by cases q), fun _ _ => rfl, fun _ _ => rfl⟩
/-- a walk from a place of a method -/
theorem w_go (hlen : ∀ o ci ks, D o = some (.inr (.inl (ci, ks))) → ks.length ≤ 128) (sp tl : List Nat) (n : Nat) {d : Nat} {M : aM} {pc : Nat} {ls : aL} {st : List Value} (hr : w_hr D h) (hb : w_body D P X h C S K0 tl (w_p D P X h C S K0 sp tl n) d M pc ls st [] [] []) : aOK P X d M pc ls st h C S K0 := w_body_ok hlen (w_p_ok hlen n) hb h (w_rel0 hr)
end WRUN
end PT23c
section PT24a
/-! ===== v3: the reference's fractions: common ===== -/
theorem z_hl : ∀ o ci ks, z_D o = some (.inr (.inl (ci, ks))) → ks.length ≤ 128 := (z_hlen (J := fun _ => True) ⟨fun _ _ _ _ _ _ _ _ _ q => q, fun _ _ _ _ _ _ q => q⟩).1
theorem y_gcd : ∀ (n : Nat) (x y : Int64), 0 ≤ x.toInt → 0 ≤ y.toInt → y.toInt.natAbs < n → (s_gcd n x y).toInt = ((Nat.gcd x.toInt.toNat y.toInt.toNat : Nat) : Int)
  | 0, _, _, _, _, h => by omega
  | n + 1, x, y, hx, hy, h => by
    unfold s_gcd
    split
    · rename_i h0
      subst h0
      have e0 : (0 : Int64).toInt = 0 := rfl
      rw [e0]
      show x.toInt = _
      rw [Int.toNat_zero, Nat.gcd_zero_right]
      omega
    · rename_i h0
      have hy0 : y.toInt ≠ 0 := fun e => h0 (Int64.toInt_inj.mp (by rw [e]; rfl))
      have hr := s_i64rem x y
      have hr2 : (x - x / y * y).toInt = x.toInt % y.toInt := by rw [hr, Int.tmod_eq_emod_of_nonneg hx]
      have b1 := Int.emod_nonneg x.toInt hy0
      have b2 := Int.emod_lt_of_pos x.toInt (show 0 < y.toInt by omega)
      rw [y_gcd n y _ hy (by omega) (by omega), hr2, Int.toNat_emod hx hy, Nat.gcd_comm y.toInt.toNat, ← Nat.gcd_rec, Nat.gcd_comm]
theorem y_ge {a : Int64} (h : a_cnd .ge (lg_cmp a (Int64.ofNat 0)) 0 = true) : 0 ≤ a.toInt := Int64.le_iff_toInt_le.mp ((lg_cmp_ge _ _).mp (of_decide_eq_true h))
theorem y_lt {a : Int64} (h : a_cnd .ge (lg_cmp a (Int64.ofNat 0)) 0 = false) : a.toInt < 0 := by
  refine Int.lt_of_not_ge (fun q => ?_)
  have : a_cnd .ge (lg_cmp a (Int64.ofNat 0)) 0 = true := decide_eq_true ((lg_cmp_ge _ _).mpr (Int64.le_iff_toInt_le.mpr q))
  rw [this] at h
  cases h
theorem y_neg {a : Int64} (h : -9223372036854775808 < a.toInt) : (-a).toInt = -a.toInt := by
  have h2 := a.toInt_lt
  rw [Int64.toInt_neg]
  exact Int.bmod_eq_of_le (by omega) (by omega)
/-- heaps that are the same to all who look -/
def w_eq (h H : aH) : Prop := w_rel z_D h [] [] H
theorem w_rel_tr {D : Nat → Option zC} {h H1 H2 : aH} {hf : wF} {ha : wA} (h1 : w_rel D h [] [] H1) (h2 : w_rel D H1 hf ha H2) : w_rel D h hf ha H2 := by
  obtain ⟨r1, r2, r3, r4, r5⟩ := h2
  exact ⟨r1, r2, r3, fun key hl => (r4 key hl).trans (h1.2.2.2.1 key rfl), fun o hl => (r5 o hl).trans (h1.2.2.2.2 o rfl)⟩
section WG
variable {X : aX} {h : aH} {C S d : Nat} {K0 : Option Value → aH → Nat → Nat → Prop}
/-- common: of a number that is not the least one, and of one that is not below 0 -/
theorem y_common (hr : w_hr z_D h) {a b : Int64} (ha : -9223372036854775808 < a.toInt) (hb : 0 ≤ b.toInt) (hk : ∀ (g : Int64) (H : aH), w_eq h H → g.toInt = ((Nat.gcd a.toInt.natAbs b.toInt.natAbs : Nat) : Int) → K0 (some (.long g)) H C S) : aOK s_P X d a_m195 0 [some (.long a), none, some (.long b), none, none, none, none, none, none, none] [] h C S K0 := by
  refine w_go z_hl [28] [] 40 hr ?_
  refine ⟨fun h1 => ?_, fun h1 => ?_⟩
  · have ha0 := y_ge h1
    refine ⟨fun h2 => ?_, fun h2 => ?_⟩
    · intro H hH
      refine s_cm_loop a b s_big a b none (s_lt_big b) (hk _ H hH ?_)
      rw [y_gcd s_big a b ha0 hb (s_lt_big b), show a.toInt.toNat = a.toInt.natAbs by omega, show b.toInt.toNat = b.toInt.natAbs by omega]
    · have := y_lt h2
      omega
  · have ha0 := y_lt h1
    have hn := y_neg ha
    refine ⟨fun h2 => ?_, fun h2 => ?_⟩
    · intro H hH
      refine s_cm_loop a b s_big (-a) b none (s_lt_big b) (hk _ H hH ?_)
      rw [y_gcd s_big (-a) b (by omega) hb (s_lt_big b), hn, show (-a.toInt).toNat = a.toInt.natAbs by omega, show b.toInt.toNat = b.toInt.natAbs by omega]
    · have := y_lt h2
      omega
end WG
end PT24a
section PT24b
/-! ===== v3: the reference's fractions: lowest ===== -/
theorem y_div {a b : Int64} (ha : -9223372036854775808 < a.toInt) (hb : 1 ≤ b.toInt) : (a / b).toInt = a.toInt.tdiv b.toInt := by
  have h2 := a.toInt_lt
  have hn : (a.toInt.tdiv b.toInt).natAbs ≤ a.toInt.natAbs := by
    rw [Int.natAbs_tdiv]
    exact Nat.div_le_self _ _
  rw [Int64.toInt_div]
  exact Int.bmod_eq_of_le (by omega) (by omega)
theorem y_zin {x : Int64} {lo hi : Int} (h1 : lo ≤ x.toInt) (h2 : x.toInt ≤ hi) : z_in (2, lo, hi) (.long x) := Or.inr ⟨rfl, x, rfl, h1, h2⟩
theorem y_zini {x : Int32} {lo hi : Int} (h1 : lo ≤ x.toInt) (h2 : x.toInt ≤ hi) : z_in (1, lo, hi) (.int x) := Or.inl ⟨rfl, x, rfl, h1, h2⟩
theorem y_l64 (x : Int64) : -9223372036854775808 ≤ x.toInt ∧ x.toInt ≤ 9223372036854775807 := z_fll x
section WG
variable {X : aX} {h : aH} {C S d : Nat} {K0 : Option Value → aH → Nat → Nat → Prop}
theorem y_lowest (hr : w_hr z_D h) {n m : Int64} (hn : -9223372036854775808 < n.toInt) (hm : 1 ≤ m.toInt)
    (hk : ∀ (g : Nat) (u l : Int64) (H : aH), g = Nat.gcd n.toInt.natAbs m.toInt.natAbs → 1 ≤ g → u.toInt = n.toInt.tdiv g → l.toInt = m.toInt / g → 1 ≤ l.toInt → w_rel z_D h [(19588, .long l), (19587, .long u)] [] H → K0 none H C S) :
    aOK s_P X (d + 1) a_m194 0 [some (.ref 155), some (.long n), none, some (.long m), none, none, none] [] h C S K0 := by
  refine w_go z_hl [] [195] 30 hr ?_
  intro H hH
  refine y_common (a := n) (b := m) hH.1 hn (by omega) (fun g H1 h1 hg => ?_)
  have hgp : 1 ≤ Nat.gcd n.toInt.natAbs m.toInt.natAbs := Nat.gcd_pos_of_pos_right _ (by omega)
  have hgd : Nat.gcd n.toInt.natAbs m.toInt.natAbs ≤ m.toInt.natAbs := Nat.gcd_le_right _ (by omega)
  have hg1 : 1 ≤ g.toInt := by omega
  have hg0 : g ≠ 0 := fun e => by
    rw [e] at hg1
    have : (0 : Int64).toInt = 0 := rfl
    omega
  have hu : (n / g).toInt = n.toInt.tdiv g.toInt := y_div hn hg1
  have hl : (m / g).toInt = m.toInt / g.toInt := by
    rw [y_div (by omega) hg1, Int.tdiv_eq_ediv_of_nonneg (by omega)]
  have hl1 : 1 ≤ (m / g).toInt := by
    rw [hl]
    exact Int.le_ediv_of_mul_le (by omega) (by omega)
  refine ⟨fun n e => (by cases e), ?_⟩
  refine w_go z_hl [] [] 30 h1.1 ?_
  refine ⟨hg0, rfl, y_zin (y_l64 _).1 (y_l64 _).2, hg0, rfl, y_zin (by omega) (y_l64 _).2, ?_⟩
  intro H2 h2
  exact hk _ _ _ H2 rfl hgp (by rw [hu, hg]) (by rw [hl, hg]) hl1 (w_rel_tr (w_rel_tr hH h1) h2)
end WG
end PT24b
section PT24c
/-! ===== v3: the reference's fractions: compares ===== -/
/-- a heap as another, but for these fields and these arrays -/
def y_fr (h H : aH) (fs as : List Nat) : Prop := w_hr z_D H ∧ (∀ key, key ∉ fs → w_f H key = w_f h key) ∧ ∀ o, o ∉ as → w_a H o = w_a h o
theorem w_nil {α : Type} {P : α → Prop} : ∀ q ∈ ([] : List α), P q := fun q h => by cases h
theorem w_cons {α : Type} {P : α → Prop} {q0 : α} {l : List α} (h0 : P q0) (h : ∀ q ∈ l, P q) : ∀ q ∈ q0 :: l, P q := fun q hq => by
  rcases List.mem_cons.mp hq with rfl | hq
  · exact h0
  · exact h q hq
theorem y_fr_rel {h H : aH} {hf : wF} {ha : wA} {fs as : List Nat} (hrel : w_rel z_D h hf ha H) (h1 : ∀ q ∈ hf, q.1 ∈ fs ∨ w_f h q.1 = some q.2) (h2 : ∀ q ∈ ha, q.1 ∈ as ∨ w_a h q.1 = some q.2) : y_fr h H fs as := by
  obtain ⟨r1, r2, r3, r4, r5⟩ := hrel
  refine ⟨r1, fun key hk => ?_, fun o ho => ?_⟩
  · cases hl : hf.lookup key with
    | none => exact r4 key hl
    | some v =>
      rw [r2 key v hl]
      rcases h1 _ (z_lk_in hl) with q | q
      · exact absurd q hk
      · exact q.symm
  · cases hl : ha.lookup o with
    | none => exact r5 o hl
    | some v =>
      rw [r3 o v hl]
      rcases h2 _ (z_lk_in hl) with q | q
      · exact absurd q ho
      · exact q.symm
theorem y_fr_rf {h : aH} (hr : w_hr z_D h) {fs as : List Nat} : y_fr h h fs as := ⟨hr, fun _ _ => rfl, fun _ _ => rfl⟩
theorem y_fr_tr {h H1 H2 : aH} {fs as fs' as' : List Nat} (h1 : y_fr h H1 fs as) (h2 : y_fr H1 H2 fs' as') (hf : ∀ x ∈ fs', x ∈ fs) (ha : ∀ x ∈ as', x ∈ as) : y_fr h H2 fs as := ⟨h2.1, fun key hk => (h2.2.1 key (fun q => hk (hf _ q))).trans (h1.2.1 key hk), fun o ho => (h2.2.2 o (fun q => ho (ha _ q))).trans (h1.2.2 o ho)⟩
theorem y_fr_mono {h H : aH} {fs as fs' as' : List Nat} (h1 : y_fr h H fs as) (hf : ∀ x ∈ fs, x ∈ fs') (ha : ∀ x ∈ as, x ∈ as') : y_fr h H fs' as' := ⟨h1.1, fun key hk => h1.2.1 key (fun q => hk (hf _ q)), fun o ho => h1.2.2 o (fun q => ho (ha _ q))⟩
theorem y_eq0 {a b : Int64} (h : a_cnd .eq (lg_cmp a b) 0 = false) : a ≠ b := fun e => by
  have : a_cnd .eq (lg_cmp a b) 0 = true := decide_eq_true ((lg_cmp_eq _ _).mpr e)
  rw [this] at h
  cases h
theorem y_ne0 {a b : Int64} (h : a_cnd .ne (lg_cmp a b) 0 = true) : a ≠ b := fun e => by
  have : a_cnd .ne (lg_cmp a b) 0 = false := by
    show (!decide (lg_cmp a b = 0)) = false
    rw [decide_eq_true ((lg_cmp_eq a b).mpr e)]
    rfl
  rw [this] at h
  cases h
theorem y_rem {x y : Int64} (hy : y ≠ 0) : (x - x / y * y).toInt.natAbs < y.toInt.natAbs := by
  rw [s_i64rem, Int.natAbs_tmod]
  refine Nat.mod_lt _ ?_
  have : y.toInt ≠ 0 := fun e => hy (Int64.toInt_inj.mp (by rw [e]; rfl))
  omega
section WG
variable {X : aX} {C S d : Nat} {K0 : Option Value → aH → Nat → Nat → Prop}
theorem y_cmp_loop {a b c e : Int64} : ∀ (n : Nat) (h : aH) (w0 w1 w2 w3 : Int64) (s : Int32) (o1 o2 o3 o4 : Option Value), w_hr z_D h → w_a h 155 = some (1, .inr (.inl [w0, w1, w2, w3])) → w1 ≠ 0 → w3 ≠ 0 → w1.toInt.natAbs < n → (s = 1 ∨ s = -1) →
    (∀ (r : Int32) (H : aH), (r = 1 ∨ r = -1 ∨ r = 0) → y_fr h H [] [155] → K0 (some (.int r)) H C S) →
    aOK s_P X d a_m203 33 [some (.ref 155), some (.long a), none, some (.long b), none, some (.long c), none, some (.long e), none, some (.int s), o1, none, o2, none, o3, none, o4, none] [] h C S K0
  | 0, _, _, _, _, _, _, _, _, _, _, _, _, _, _, hn, _, _ => absurd hn (Nat.not_lt_zero _)
  | n + 1, h, w0, w1, w2, w3, s, o1, o2, o3, o4, hr, hw, h1, h3, hn, hs, hk => by
    have hn' : ∀ r : Int32, (r = s ∨ r = -s ∨ r = 0) → (r = 1 ∨ r = -1 ∨ r = 0) := by
      intro r hq
      rcases hs with rfl | rfl <;> rcases hq with rfl | rfl | rfl <;> decide
    have hfin : ∀ (r : Int32), (r = s ∨ r = -s ∨ r = 0) → ∀ {l : List Int64}, w_a h 155 = some (1, .inr (.inl l)) → ∀ H, w_rel z_D h [] [(155, (1, .inr (.inl l)))] H → K0 (some (.int r)) H C S := fun r hq l hl H hH => hk r H (hn' r hq) (y_fr_rel hH w_nil (w_cons (Or.inl List.mem_cons_self) w_nil))
    refine w_go z_hl [33] [] 200 hr ?_
    refine ⟨by decide, fun l hl hlen hbb => ?_⟩
    have e0 : l = [w0, w1, w2, w3] := by
      have := hl.symm.trans hw
      cases this
      rfl
    subst e0
    refine ⟨by decide, h1, by decide, by decide, h3, fun q1 => ?_, fun q1 => ?_⟩
    · refine ⟨by decide, by decide, h1, by decide, by decide, h3, fun q2 => ?_, fun q2 => ?_⟩
      · refine ⟨fun q3 => ⟨fun q4 => ?_, fun q4 => ?_⟩, fun q3 => ?_⟩
        · exact hfin s (Or.inl rfl) hl
        · exact hfin (-s) (Or.inr (Or.inl rfl)) hl
        · exact hfin 0 (Or.inr (Or.inr rfl)) hl
      · refine ⟨fun q3 => ?_, fun q3 => ⟨fun q4 => ⟨fun q5 => ?_, fun q5 => ?_⟩, fun q4 => ?_⟩⟩
        · refine ⟨by decide, by decide, y_l64 _, by decide, y_l64 _, by decide, by decide, y_l64 _, by decide, y_l64 _, ?_⟩
          intro H hH
          refine y_cmp_loop n H w1 (w0 - w0 / w1 * w1) w3 (w2 - w2 / w3 * w3) (-s) _ _ _ _ hH.1 (hH.2.2.1 155 _ rfl) (y_eq0 q2) (y_ne0 q3) (by have := y_rem (x := w0) h1; omega) (by rcases hs with rfl | rfl <;> decide) (fun r H' hr' hf' => hk r H' hr' (y_fr_tr (y_fr_rel hH w_nil ?_) hf' (fun _ q => q) (fun _ q => q)))
          exact w_cons (Or.inl List.mem_cons_self) (w_cons (Or.inl List.mem_cons_self) (w_cons (Or.inl List.mem_cons_self) (w_cons (Or.inl List.mem_cons_self) (w_cons (Or.inl List.mem_cons_self) w_nil))))
        · exact hfin s (Or.inl rfl) hl
        · exact hfin (-s) (Or.inr (Or.inl rfl)) hl
        · exact hfin 0 (Or.inr (Or.inr rfl)) hl
    · refine ⟨fun q2 => ?_, fun q2 => ?_⟩
      · exact hfin s (Or.inl rfl) hl
      · exact hfin (-s) (Or.inr (Or.inl rfl)) hl
theorem y_compares {h : aH} (hr : w_hr z_D h) {a b c e : Int64} (hb : b ≠ 0) (he : e ≠ 0) (hk : ∀ (r : Int32) (H : aH), (r = 1 ∨ r = -1 ∨ r = 0) → y_fr h H [] [155] → K0 (some (.int r)) H C S) : aOK s_P X d a_m203 0 [some (.ref 155), some (.long a), none, some (.long b), none, some (.long c), none, some (.long e), none, none, none, none, none, none, none, none, none, none] [] h C S K0 := by
  refine w_go z_hl [33] [] 60 hr ?_
  refine ⟨by decide, y_l64 _, fun l hl hlen hbb => ?_⟩
  obtain ⟨x0, x1, x2, x3, rfl⟩ : ∃ x0 x1 x2 x3, l = [x0, x1, x2, x3] := by
    match l, hlen with
    | [x0, x1, x2, x3], _ => exact ⟨x0, x1, x2, x3, rfl⟩
  refine ⟨by decide, y_l64 _, by decide, y_l64 _, by decide, y_l64 _, ?_⟩
  intro H hH
  refine y_cmp_loop s_big H a b c e 1 _ _ _ _ hH.1 (hH.2.2.1 155 _ rfl) hb he (s_lt_big b) (Or.inl rfl) (fun r H' hr' hf' => hk r H' hr' (y_fr_tr (y_fr_rel hH w_nil ?_) hf' (fun _ q => q) (fun _ q => q)))
  exact w_cons (Or.inl List.mem_cons_self) (w_cons (Or.inl List.mem_cons_self) (w_cons (Or.inl List.mem_cons_self) (w_cons (Or.inl List.mem_cons_self) (w_cons (Or.inl List.mem_cons_self) w_nil))))
end WG
end PT24c
section PT24d
/-! ===== v3: the reference's fractions: passes, times ===== -/
def y_rel (c : ClassFile.Cond) (x y : Int) : Prop := match c with
  | .eq => x = y
  | .ne => x ≠ y
  | .lt => x < y
  | .ge => y ≤ x
  | .gt => y < x
  | .le => x ≤ y
theorem y_cl (c : ClassFile.Cond) (a b : Int64) : a_cnd c (lg_cmp a b) 0 = true ↔ y_rel c a.toInt b.toInt := by
  cases c
  · exact ⟨fun h => congrArg _ ((lg_cmp_eq _ _).mp (of_decide_eq_true h)), fun h => decide_eq_true ((lg_cmp_eq _ _).mpr (Int64.toInt_inj.mp h))⟩
  · show (!decide (lg_cmp a b = 0)) = true ↔ a.toInt ≠ b.toInt
    rw [Bool.not_eq_true', decide_eq_false_iff_not, lg_cmp_eq]
    exact ⟨fun h e => h (Int64.toInt_inj.mp e), fun h e => h (congrArg _ e)⟩
  · exact ⟨fun h => Int64.lt_iff_toInt_lt.mp ((lg_cmp_lt _ _).mp (of_decide_eq_true h)), fun h => decide_eq_true ((lg_cmp_lt _ _).mpr (Int64.lt_iff_toInt_lt.mpr h))⟩
  · exact ⟨fun h => Int64.le_iff_toInt_le.mp ((lg_cmp_ge _ _).mp (of_decide_eq_true h)), fun h => decide_eq_true ((lg_cmp_ge _ _).mpr (Int64.le_iff_toInt_le.mpr h))⟩
  · exact ⟨fun h => Int64.lt_iff_toInt_lt.mp ((lg_cmp_gt _ _).mp (of_decide_eq_true h)), fun h => decide_eq_true ((lg_cmp_gt _ _).mpr (Int64.lt_iff_toInt_lt.mpr h))⟩
  · exact ⟨fun h => Int64.le_iff_toInt_le.mp ((lg_cmp_le _ _).mp (of_decide_eq_true h)), fun h => decide_eq_true ((lg_cmp_le _ _).mpr (Int64.le_iff_toInt_le.mpr h))⟩
theorem y_ci (c : ClassFile.Cond) (a b : Int32) : a_cnd c a b = true ↔ y_rel c a.toInt b.toInt := by
  cases c
  · exact ⟨fun h => congrArg _ (of_decide_eq_true h), fun h => decide_eq_true (Int32.toInt_inj.mp h)⟩
  · show (!decide (a = b)) = true ↔ a.toInt ≠ b.toInt
    rw [Bool.not_eq_true', decide_eq_false_iff_not]
    exact ⟨fun h e => h (Int32.toInt_inj.mp e), fun h e => h (congrArg _ e)⟩
  · exact ⟨fun h => Int32.lt_iff_toInt_lt.mp (of_decide_eq_true h), fun h => decide_eq_true (Int32.lt_iff_toInt_lt.mpr h)⟩
  · exact ⟨fun h => Int32.le_iff_toInt_le.mp (of_decide_eq_true h), fun h => decide_eq_true (Int32.le_iff_toInt_le.mpr h)⟩
  · exact ⟨fun h => Int32.lt_iff_toInt_lt.mp (of_decide_eq_true h), fun h => decide_eq_true (Int32.lt_iff_toInt_lt.mpr h)⟩
  · exact ⟨fun h => Int32.le_iff_toInt_le.mp (of_decide_eq_true h), fun h => decide_eq_true (Int32.le_iff_toInt_le.mpr h)⟩
theorem y_fls {b : Bool} {p : Prop} (h : b = false) (e : b = true ↔ p) : ¬ p := fun q => by rw [e.mpr q] at h; cases h
theorem y_clf {c : ClassFile.Cond} {a b : Int64} (h : a_cnd c (lg_cmp a b) 0 = false) : ¬ y_rel c a.toInt b.toInt := y_fls h (y_cl c a b)
theorem y_cif {c : ClassFile.Cond} {a b : Int32} (h : a_cnd c a b = false) : ¬ y_rel c a.toInt b.toInt := y_fls h (y_ci c a b)
theorem y_i64 {n : Int} (h1 : -9223372036854775808 ≤ n) (h2 : n ≤ 9223372036854775807) : (Int64.ofInt n).toInt = n := by
  rw [Int64.toInt_ofInt]
  show Int.bmod n 18446744073709551616 = n
  exact Int.bmod_eq_of_le (by omega) (by omega)
theorem y_m {x : Nat} {l : List Nat} (h : l.elem x = true) : x ∈ l := List.elem_iff.mp h
theorem y_mul {a b : Int64} (h1 : -9223372036854775808 ≤ a.toInt * b.toInt) (h2 : a.toInt * b.toInt ≤ 9223372036854775807) : (a * b).toInt = a.toInt * b.toInt := by
  rw [Int64.toInt_mul]
  exact Int.bmod_eq_of_le (by omega) (by omega)
section WG
variable {X : aX} {h : aH} {C S d : Nat} {K0 : Option Value → aH → Nat → Nat → Prop}
theorem y_passes (hr : w_hr z_D h) {a b : Int64} (ha : 0 ≤ a.toInt) (hb : 0 ≤ b.toInt) (hk : ∀ (r : Int32) (H : aH), w_eq h H → (r = 1 ∨ (r = 0 ∧ a.toInt * b.toInt ≤ 1000000000000000000)) → K0 (some (.int r)) H C S) : aOK s_P X d a_m216 0 [some (.long a), none, some (.long b), none] [] h C S K0 := by
  refine w_go z_hl [] [] 40 hr ?_
  refine ⟨fun q => ?_, fun q => ?_⟩
  · refine ⟨by decide, fun H hH => hk 0 H hH (Or.inr ⟨rfl, ?_⟩)⟩
    have e : b.toInt = 0 := (y_cl .eq b _).mp q
    rw [e, Int.mul_zero]
    decide
  · have hb0 : b ≠ Int64.ofNat 0 := y_eq0 q
    have hb1 : 1 ≤ b.toInt := by
      have : b.toInt ≠ 0 := fun e => hb0 (Int64.toInt_inj.mp (by rw [e]; rfl))
      omega
    have e1 : (Int64.ofInt 1000000000000000000 / b).toInt = 1000000000000000000 / b.toInt := by
      have e2 : (Int64.ofInt 1000000000000000000).toInt = 1000000000000000000 := y_i64 (by decide) (by decide)
      rw [y_div (by rw [e2]; decide) hb1, e2, Int.tdiv_eq_ediv_of_nonneg (by decide)]
    refine ⟨hb0, fun q2 => ?_, fun q2 => ?_⟩
    · refine ⟨by decide, fun H hH => hk 0 H hH (Or.inr ⟨rfl, ?_⟩)⟩
      have h3 : a.toInt ≤ (Int64.ofInt 1000000000000000000 / b).toInt := (y_cl .le a _).mp q2
      rw [e1] at h3
      exact Int.mul_le_of_le_ediv (by omega) h3
    · exact ⟨by decide, fun H hH => hk 1 H hH (Or.inl rfl)⟩
theorem y_times (hr : w_hr z_D h) {n m u l : Int64} (hn : 0 ≤ n.toInt) (hm : 1 ≤ m.toInt) (hu : w_f h 19587 = some (.long u)) (hl : w_f h 19588 = some (.long l)) (hu0 : 0 ≤ u.toInt) (hl1 : 1 ≤ l.toInt)
    (hk : ∀ (u' l' : Int64) (H : aH), 0 ≤ u'.toInt → 1 ≤ l'.toInt → u'.toInt ≤ 1000000000000000000 → l'.toInt ≤ 1000000000000000000 → w_f H 19587 = some (.long u') → w_f H 19588 = some (.long l') → y_fr h H [19587, 19588, 19589] [] → K0 none H C S) :
    aOK s_P X (d + 2) a_m215 0 [some (.ref 155), some (.long n), none, some (.long m), none, none, none, none, none, none, none, none, none, none, none, none, none] [] h C S K0 := by
  refine w_go z_hl [] [195] 30 hr ?_
  intro x hx b1 b2
  have e : x = u := by
    have := hx.symm.trans hu
    cases this
    rfl
  subst e
  intro H hH
  refine y_common (a := x) (b := m) hH.1 (by omega) (by omega) (fun c H1 h1 hc => ?_)
  refine ⟨fun n e => (by cases e), ?_⟩
  have hH1 : w_rel z_D h [(19587, .long x)] [] H1 := by
    obtain ⟨r1, r2, r3, r4, r5⟩ := h1
    exact ⟨r1, fun k v hv => (r4 k rfl).trans (hH.2.1 k v hv), fun o a q => (by cases q), fun k hv => (r4 k rfl).trans (hH.2.2.2.1 k hv), fun o q => (r5 o rfl).trans (hH.2.2.2.2 o q)⟩
  have hE : y_fr h H1 [] [] := y_fr_rel hH1 (w_cons (Or.inr hu) w_nil) w_nil
  have hu1 : w_f H1 19587 = some (.long x) := (hE.2.1 _ (fun q => by cases q)).trans hu
  have hl1' : w_f H1 19588 = some (.long l) := (hE.2.1 _ (fun q => by cases q)).trans hl
  refine w_go z_hl [] [195] 30 hE.1 ?_
  intro y hy b3 b4
  have e : y = l := by
    have := hy.symm.trans hl1'
    cases this
    rfl
  subst e
  intro H2 hH2
  refine y_common (a := n) (b := y) hH2.1 (by omega) (by omega) (fun g H3 h3 hg => ?_)
  refine ⟨fun n e => (by cases e), ?_⟩
  have hE2 : y_fr H1 H2 [] [] := y_fr_rel hH2 (w_cons (Or.inr hl1') w_nil) w_nil
  have hE3 : y_fr h H3 [] [] := y_fr_tr (y_fr_tr hE hE2 (fun _ q => q) (fun _ q => q)) (y_fr_rel h3 w_nil w_nil) (fun _ q => q) (fun _ q => q)
  have hu3 : w_f H3 19587 = some (.long x) := (hE3.2.1 _ (fun q => by cases q)).trans hu
  have hl3 : w_f H3 19588 = some (.long y) := (hE3.2.1 _ (fun q => by cases q)).trans hl
  have hcp : 1 ≤ Nat.gcd x.toInt.natAbs m.toInt.natAbs := Nat.gcd_pos_of_pos_right _ (by omega)
  have hcm : Nat.gcd x.toInt.natAbs m.toInt.natAbs ≤ m.toInt.natAbs := Nat.gcd_le_right _ (by omega)
  have hgp : 1 ≤ Nat.gcd n.toInt.natAbs y.toInt.natAbs := Nat.gcd_pos_of_pos_right _ (by omega)
  have hgm : Nat.gcd n.toInt.natAbs y.toInt.natAbs ≤ y.toInt.natAbs := Nat.gcd_le_right _ (by omega)
  have hc1 : 1 ≤ c.toInt := by omega
  have hg1 : 1 ≤ g.toInt := by omega
  have hc0 : c ≠ 0 := fun e => by
    rw [e] at hc1
    have : (0 : Int64).toInt = 0 := rfl
    omega
  have hg0 : g ≠ 0 := fun e => by
    rw [e] at hg1
    have : (0 : Int64).toInt = 0 := rfl
    omega
  have dv : ∀ (a b : Int64), 0 ≤ a.toInt → 1 ≤ b.toInt → (a / b).toInt = a.toInt / b.toInt := fun a b ha hb => by
    rw [y_div (by omega) hb, Int.tdiv_eq_ediv_of_nonneg ha]
  have ea := dv x c hu0 hc1
  have eb := dv n g hn hg1
  have ef := dv y g (by omega) hg1
  have eg := dv m c (by omega) hc1
  have pa : 0 ≤ (x / c).toInt := by rw [ea]; exact Int.ediv_nonneg hu0 (by omega)
  have pb : 0 ≤ (n / g).toInt := by rw [eb]; exact Int.ediv_nonneg hn (by omega)
  have pf : 1 ≤ (y / g).toInt := by rw [ef]; exact Int.le_ediv_of_mul_le (by omega) (by omega)
  have pg : 1 ≤ (m / c).toInt := by rw [eg]; exact Int.le_ediv_of_mul_le (by omega) (by omega)
  refine w_go z_hl [] [216] 40 hE3.1 ?_
  intro x' hx' _ _
  have e : x' = x := by
    have := hx'.symm.trans hu3
    cases this
    rfl
  subst e
  refine ⟨hc0, hg0, ?_⟩
  intro y' hy' _ _
  have e : y' = y := by
    have := hy'.symm.trans hl3
    cases this
    rfl
  subst e
  refine ⟨hg0, hc0, ?_⟩
  intro H4 hH4
  have hE4 : y_fr H3 H4 [] [] := y_fr_rel hH4 (w_cons (Or.inr hl3) (w_cons (Or.inr hu3) w_nil)) w_nil
  -- what a great one leaves
  have great : ∀ {H5 : aH} {r1 r2 r3 : Option Value}, y_fr h H5 [] [] → ∀ H6, w_rel z_D H5 [(19588, .long (Int64.ofNat 1)), (19587, .long (Int64.ofNat 0)), (19589, .int (Int32.ofInt 1))] [] H6 → K0 none H6 C S := by
    intro H5 _ _ _ hE5 H6 h6
    refine hk (Int64.ofNat 0) (Int64.ofNat 1) H6 (by decide) (by decide) (by decide) (by decide) (h6.2.1 19587 _ rfl) (h6.2.1 19588 _ rfl) ?_
    refine y_fr_tr (y_fr_mono hE5 (fun _ q => by cases q) (fun _ q => q)) (y_fr_rel h6 (fs := [19587, 19588, 19589]) ?_ w_nil) (fun _ q => q) (fun _ q => q)
    exact w_cons (Or.inl (y_m rfl)) (w_cons (Or.inl (y_m rfl)) (w_cons (Or.inl (y_m rfl)) w_nil))
  refine y_passes (a := x' / c) (b := n / g) hH4.1 pa pb (fun r H5 h5 hr5 => ?_)
  refine ⟨fun n e => (by cases e), ?_⟩
  have hE5 : y_fr h H5 [] [] := y_fr_tr (y_fr_tr hE3 hE4 (fun _ q => q) (fun _ q => q)) (y_fr_rel h5 w_nil w_nil) (fun _ q => q) (fun _ q => q)
  refine w_go z_hl [] [216] 40 hE5.1 ?_
  refine ⟨fun q => ?_, fun q => ?_⟩
  · exact ⟨rfl, y_zini (by decide) (by decide), rfl, y_zin (by decide) (by decide), rfl, y_zin (by decide) (by decide), great (r1 := none) (r2 := none) (r3 := none) hE5⟩
  · have hab : (x' / c).toInt * (n / g).toInt ≤ 1000000000000000000 := by
      rcases hr5 with rfl | ⟨-, q5⟩
      · exact absurd q (by decide)
      · exact q5
    intro H6 hH6
    refine y_passes (a := y' / g) (b := m / c) hH6.1 (by omega) (by omega) (fun r H7 h7 hr7 => ?_)
    refine ⟨fun n e => (by cases e), ?_⟩
    have hE7 : y_fr h H7 [] [] := y_fr_tr (y_fr_tr hE5 (y_fr_rel hH6 w_nil w_nil) (fun _ q => q) (fun _ q => q)) (y_fr_rel h7 w_nil w_nil) (fun _ q => q) (fun _ q => q)
    refine w_go z_hl [] [194] 40 hE7.1 ?_
    refine ⟨fun q => ?_, fun q => ?_⟩
    · have hfg : (y' / g).toInt * (m / c).toInt ≤ 1000000000000000000 := by
        rcases hr7 with rfl | ⟨-, q7⟩
        · exact absurd q (by decide)
        · exact q7
      have pab : 0 ≤ (x' / c).toInt * (n / g).toInt := Int.mul_nonneg pa pb
      have pfg : 1 * 1 ≤ (y' / g).toInt * (m / c).toInt := Int.mul_le_mul pf pg (by decide) (by omega)
      have mab : (x' / c * (n / g)).toInt = (x' / c).toInt * (n / g).toInt := y_mul (by omega) (by omega)
      have mfg : (y' / g * (m / c)).toInt = (y' / g).toInt * (m / c).toInt := y_mul (by omega) (by omega)
      intro H8 hH8
      refine y_lowest (n := x' / c * (n / g)) (m := y' / g * (m / c)) hH8.1 (by omega) (by omega) (fun k u' l' H9 hk9 hk1 hu9 hl9 hl91 hrel9 => ?_)
      refine ⟨fun n e => (by cases e), ?_⟩
      refine w_go z_hl [] [] 10 hrel9.1 ?_
      intro H10 h10
      have f10 : ∀ key, w_f H10 key = w_f H9 key := fun key => h10.2.2.2.1 key rfl
      refine hk u' l' H10 ?_ hl91 ?_ ?_ ((f10 _).trans (hrel9.2.1 19587 _ rfl)) ((f10 _).trans (hrel9.2.1 19588 _ rfl)) ?_
      · rw [hu9]
        exact Int.tdiv_nonneg (by omega) (by omega)
      · have hab2 : u'.toInt.natAbs ≤ (x' / c * (n / g)).toInt.natAbs := by
          rw [hu9, Int.natAbs_tdiv]
          exact Nat.div_le_self _ _
        omega
      · have hfg2 : l'.toInt ≤ (y' / g * (m / c)).toInt := by
          rw [hl9]
          exact Int.ediv_le_self _ (by omega)
        omega
      · have f8 : y_fr h H8 [19587, 19588, 19589] [] := y_fr_mono (y_fr_tr hE7 (y_fr_rel hH8 w_nil w_nil) (fun _ q => q) (fun _ q => q)) (fun _ q => by cases q) (fun _ q => q)
        refine y_fr_tr (y_fr_tr f8 (y_fr_rel hrel9 (fs := [19587, 19588, 19589]) ?_ w_nil) (fun _ q => q) (fun _ q => q)) (y_fr_rel h10 w_nil w_nil (fs := [19587, 19588, 19589])) (fun _ q => q) (fun _ q => q)
        exact w_cons (Or.inl (y_m rfl)) (w_cons (Or.inl (y_m rfl)) w_nil)
    · exact ⟨rfl, y_zini (by decide) (by decide), rfl, y_zin (by decide) (by decide), rfl, y_zin (by decide) (by decide), great (r1 := none) (r2 := none) (r3 := none) hE7⟩
end WG
end PT24d
section PT24e
/-! ===== v3: the reference's sums of weights ===== -/
def y_sel (a b w : Int32) : Bool := decide (w &&& a = a) && decide (w &&& b = 0)
def y_ws (wl : List Int64) (a b : Int32) : Nat → Int
  | 0 => 0
  | n + 1 => y_ws wl a b n + if y_sel a b (Int32.ofNat n) then (wl.getD n 0).toInt else 0
def y_tot (wl : List Int64) : Nat → Int
  | 0 => 0
  | n + 1 => y_tot wl n + (wl.getD n 0).toInt
theorem y_getD {wl : List Int64} (h0 : ∀ x ∈ wl, 0 ≤ x.toInt) (n : Nat) : 0 ≤ (wl.getD n 0).toInt := by
  rw [List.getD_eq_getElem?_getD]
  cases hq : wl[n]? with
  | none => exact Int.le_refl 0
  | some x => exact h0 x (List.mem_of_getElem? hq)
theorem y_ws_b {wl : List Int64} (h0 : ∀ x ∈ wl, 0 ≤ x.toInt) {a b : Int32} : ∀ n, 0 ≤ y_ws wl a b n ∧ y_ws wl a b n ≤ y_tot wl n
  | 0 => ⟨Int.le_refl 0, Int.le_refl 0⟩
  | n + 1 => by
    have ih := y_ws_b h0 (a := a) (b := b) n
    have h1 := y_getD h0 n
    unfold y_ws y_tot
    split <;> omega
theorem y_tot_m {wl : List Int64} (h0 : ∀ x ∈ wl, 0 ≤ x.toInt) {n m : Nat} (h : n ≤ m) : y_tot wl n ≤ y_tot wl m := by
  induction h with
  | refl => exact Int.le_refl _
  | step _ ih =>
    have h1 := y_getD h0 (by assumption)
    show _ ≤ y_tot wl _ + _
    omega
theorem y_small {x : Int32} (h1 : 0 ≤ x.toInt) (h2 : x.toInt ≤ 10) : x = 0 ∨ x = 1 ∨ x = 2 ∨ x = 3 ∨ x = 4 ∨ x = 5 ∨ x = 6 ∨ x = 7 ∨ x = 8 ∨ x = 9 ∨ x = 10 := by
  have : x.toInt = 0 ∨ x.toInt = 1 ∨ x.toInt = 2 ∨ x.toInt = 3 ∨ x.toInt = 4 ∨ x.toInt = 5 ∨ x.toInt = 6 ∨ x.toInt = 7 ∨ x.toInt = 8 ∨ x.toInt = 9 ∨ x.toInt = 10 := by omega
  have g : ∀ {n : Int32}, x.toInt = n.toInt → x = n := fun e => Int32.toInt_inj.mp e
  rcases this with e | e | e | e | e | e | e | e | e | e | e
  · exact Or.inl (g (n := 0) e)
  · exact Or.inr (Or.inl (g (n := 1) e))
  · exact Or.inr (Or.inr (Or.inl (g (n := 2) e)))
  · exact Or.inr (Or.inr (Or.inr (Or.inl (g (n := 3) e))))
  · exact Or.inr (Or.inr (Or.inr (Or.inr (Or.inl (g (n := 4) e)))))
  · exact Or.inr (Or.inr (Or.inr (Or.inr (Or.inr (Or.inl (g (n := 5) e))))))
  · exact Or.inr (Or.inr (Or.inr (Or.inr (Or.inr (Or.inr (Or.inl (g (n := 6) e)))))))
  · exact Or.inr (Or.inr (Or.inr (Or.inr (Or.inr (Or.inr (Or.inr (Or.inl (g (n := 7) e))))))))
  · exact Or.inr (Or.inr (Or.inr (Or.inr (Or.inr (Or.inr (Or.inr (Or.inr (Or.inl (g (n := 8) e)))))))))
  · exact Or.inr (Or.inr (Or.inr (Or.inr (Or.inr (Or.inr (Or.inr (Or.inr (Or.inr (Or.inl (g (n := 9) e))))))))))
  · exact Or.inr (Or.inr (Or.inr (Or.inr (Or.inr (Or.inr (Or.inr (Or.inr (Or.inr (Or.inr (g (n := 10) e))))))))))
/-- how many ways -/
def y_ways (nd : Int32) : Nat := 2 ^ nd.toInt.toNat
theorem y_all {nd : Int32} (h1 : 0 ≤ nd.toInt) (h2 : nd.toInt ≤ 10) : (Int32.ofInt 1 <<< (nd &&& 31) - Int32.ofInt 1).toInt = (y_ways nd : Int) - 1 ∧ 1 ≤ y_ways nd ∧ y_ways nd ≤ 1024 := by
  rcases y_small h1 h2 with rfl | rfl | rfl | rfl | rfl | rfl | rfl | rfl | rfl | rfl | rfl <;> decide
theorem y_add {a b : Int64} (h1 : -9223372036854775808 ≤ a.toInt + b.toInt) (h2 : a.toInt + b.toInt ≤ 9223372036854775807) : (a + b).toInt = a.toInt + b.toInt := by
  rw [Int64.toInt_add]
  exact Int.bmod_eq_of_le (by omega) (by omega)
theorem y_inc {x : Int32} (h1 : x.toInt < 2147483647) : (x + Int32.ofInt 1).toInt = x.toInt + 1 := by
  have h2 := x.le_toInt
  have e : (Int32.ofInt 1).toInt = 1 := by decide
  rw [Int32.toInt_add, e]
  exact Int.bmod_eq_of_le (by omega) (by omega)
theorem y_ofNat {x : Int32} {n : Nat} (h : x.toInt = n) (hn : n < 2147483648) : x = Int32.ofNat n ∧ x.toNatClampNeg = n := by
  have hc : x.toNatClampNeg = x.toInt.toNat := rfl
  refine ⟨Int32.toInt_inj.mp ?_, by omega⟩
  rw [h, Int32.toInt_ofNat_of_lt (by omega)]
/-- weights: none below 0, all together not above 10 to the 8th -/
def y_wl (h : aH) (wl : List Int64) : Prop := w_a h 163 = some (1, .inr (.inl wl)) ∧ (∀ x ∈ wl, 0 ≤ x.toInt) ∧ y_tot wl 1024 ≤ 100000000
theorem y_wl_fr {h H : aH} {wl : List Int64} {fs as : List Nat} (hf : y_fr h H fs as) (hn : 163 ∉ as) (hw : y_wl h wl) : y_wl H wl := ⟨(hf.2.2 _ hn).trans hw.1, hw.2⟩
section WG
variable {X : aX} {C S d : Nat} {K0 : Option Value → aH → Nat → Nat → Prop}
theorem y_weighs_loop {a b nd : Int32} {wl : List Int64} : ∀ (n : Nat) (h : aH) (s : Int64) (w : Int32) (k : Nat), w_hr z_D h → w_f h 19591 = some (.int nd) → y_wl h wl → w.toInt = k → k + n = y_ways nd → s.toInt = y_ws wl a b k →
    (∀ (r : Int64) (H : aH), y_fr h H [] [] → r.toInt = y_ws wl a b (y_ways nd) → K0 (some (.long r)) H C S) →
    aOK s_P X (d + 1) a_m193 5 [some (.ref 155), some (.int a), some (.int b), some (.long s), none, some (.int w)] [] h C S K0 := by
  intro n
  induction n with
  | zero =>
    intro h s w k hr hn hw hk hkn hs hK
    refine w_go z_hl [5] [] 30 hr ?_
    intro x hx b1 b2
    have e : x = nd := by
      have := hx.symm.trans hn
      cases this
      rfl
    subst e
    obtain ⟨ea, l1, l2⟩ := y_all b1 b2
    refine ⟨fun q => ?_, fun q => ?_⟩
    · intro H hH
      exact hK s H (y_fr_rel hH (w_cons (Or.inr hn) w_nil) w_nil) (by rw [hs, ← hkn]; rfl)
    · have q2 : ¬ ((Int32.ofInt 1 <<< (x &&& 31) - Int32.ofInt 1).toInt < w.toInt) := y_cif q
      omega
  | succ n ih =>
    intro h s w k hr hn hw hk hkn hs hK
    refine w_go z_hl [5] [] 40 hr ?_
    intro x hx b1 b2
    have e : x = nd := by
      have := hx.symm.trans hn
      cases this
      rfl
    subst e
    obtain ⟨ea, l1, l2⟩ := y_all b1 b2
    obtain ⟨ew, ec⟩ := y_ofNat hk (by omega)
    have hws := y_ws_b hw.2.1 (a := a) (b := b) k
    have hwt := y_tot_m hw.2.1 (show k + 1 ≤ 1024 by omega)
    have hg := y_getD hw.2.1 k
    have hinc : (w + Int32.ofInt 1).toInt = ((k + 1 : Nat) : Int) := by rw [y_inc (by omega), hk]; rfl
    have ht1 : y_tot wl (k + 1) = y_tot wl k + (wl.getD k 0).toInt := rfl
    have ht := hw.2.2
    have next : ∀ {H : aH} {v : Int64}, y_fr h H [] [] → v.toInt = (if y_sel a b w then (wl.getD k 0).toInt else 0) → aOK s_P X (d + 1) a_m193 5 [some (.ref 155), some (.int a), some (.int b), some (.long (s + v)), none, some (.int (w + Int32.ofInt 1))] [] H C S K0 := by
      intro H v hf hv
      have hv2 : 0 ≤ v.toInt ∧ v.toInt ≤ (wl.getD k 0).toInt := by
        rw [hv]
        split <;> omega
      refine ih H (s + v) (w + Int32.ofInt 1) (k + 1) hf.1 ((hf.2.1 _ (fun q => by cases q)).trans hn) (y_wl_fr hf (fun q => by cases q) hw) hinc (by omega) ?_ (fun r H' hf' hr' => hK r H' (y_fr_tr hf hf' (fun _ q => q) (fun _ q => q)) hr')
      rw [y_add (by omega) (by omega), hs, hv, ew]
      rfl
    refine ⟨fun q => ?_, fun q => ?_⟩
    · have q2 : (Int32.ofInt 1 <<< (x &&& 31) - Int32.ofInt 1).toInt < w.toInt := (y_ci .gt _ _).mp q
      omega
    · have hno : ∀ {H : aH}, w_rel z_D h [(19591, .int x)] [] H → y_sel a b w = false → aOK s_P X (d + 1) a_m193 5 [some (.ref 155), some (.int a), some (.int b), some (.long (s + Int64.ofNat 0)), none, some (.int (w + Int32.ofInt 1))] [] H C S K0 := fun hH he => next (y_fr_rel hH (w_cons (Or.inr hn) w_nil) w_nil) (by rw [he]; rfl)
      refine ⟨fun q1 => ?_, fun q1 => ⟨fun q2 => ?_, fun q2 => ?_⟩⟩
      · intro H hH
        refine hno hH ?_
        have : (w &&& a).toInt ≠ a.toInt := (y_ci .ne _ _).mp q1
        unfold y_sel
        rw [decide_eq_false (fun e => this (by rw [e])), Bool.false_and]
      · intro H hH
        refine hno hH ?_
        have : (w &&& b).toInt ≠ (0 : Int32).toInt := (y_ci .ne _ _).mp q2
        unfold y_sel
        rw [decide_eq_false (p := w &&& b = 0) (fun e => this (by rw [e])), Bool.and_false]
      · refine ⟨⟨by omega, by omega⟩, fun l hl hlen hbb => ?_⟩
        have el : l = wl := by
          have := hl.symm.trans hw.1
          cases this
          rfl
        subst el
        intro H hH
        refine next (v := l.getD w.toNatClampNeg 0) (y_fr_rel hH (w_cons (Or.inr hn) w_nil) (w_cons (Or.inr hw.1) w_nil)) ?_
        have e1 : ¬ ((w &&& a).toInt ≠ a.toInt) := y_cif q1
        have e2 : ¬ ((w &&& b).toInt ≠ (0 : Int32).toInt) := y_cif q2
        have e3 : y_sel a b w = true := by
          unfold y_sel
          rw [decide_eq_true (Int32.toInt_inj.mp (Decidable.not_not.mp e1)), decide_eq_true (p := w &&& b = 0) (Int32.toInt_inj.mp (Decidable.not_not.mp e2))]
          rfl
        rw [e3, ec]
        rfl
theorem y_weighs {h : aH} {a b nd : Int32} {wl : List Int64} (hr : w_hr z_D h) (hn : w_f h 19591 = some (.int nd)) (hw : y_wl h wl) (hK : ∀ (r : Int64) (H : aH), y_fr h H [] [] → r.toInt = y_ws wl a b (y_ways nd) → K0 (some (.long r)) H C S) : aOK s_P X (d + 1) a_m193 0 [some (.ref 155), some (.int a), some (.int b), none, none, none] [] h C S K0 := by
  refine w_go z_hl [5] [] 30 hr ?_
  intro H hH
  have hf : y_fr h H [] [] := y_fr_rel hH w_nil w_nil
  exact y_weighs_loop (y_ways nd) H (Int64.ofNat 0) (Int32.ofInt 0) 0 hf.1 ((hf.2.1 _ (fun q => by cases q)).trans hn) (y_wl_fr hf (fun q => by cases q) hw) rfl (Nat.zero_add _) rfl (fun r H' hf' hr' => hK r H' (y_fr_tr hf hf' (fun _ q => q) (fun _ q => q)) hr')
end WG
end PT24e
section PT24f
/-! ===== v3: sums of products over ways (pure) ===== -/
def y_S (f : Nat → Int) : Nat → Int
  | 0 => 0
  | n + 1 => y_S f n + f n
theorem y_S_add (f : Nat → Int) (a : Nat) : ∀ b, y_S f (a + b) = y_S f a + y_S (fun i => f (a + i)) b
  | 0 => by show _ = _ + 0; rw [Int.add_zero]; rfl
  | b + 1 => by
    show y_S f (a + b) + f (a + b) = _ + (y_S _ b + f (a + b))
    rw [y_S_add f a b, Int.add_assoc]
theorem y_S_le {f g : Nat → Int} : ∀ {n : Nat}, (∀ i, i < n → f i ≤ g i) → y_S f n ≤ y_S g n
  | 0, _ => Int.le_refl 0
  | n + 1, h => Int.add_le_add (y_S_le (fun i hi => h i (by omega))) (h n (by omega))
theorem y_S_sum (f g : Nat → Int) : ∀ n, y_S f n + y_S g n = y_S (fun i => f i + g i) n
  | 0 => rfl
  | n + 1 => by
    show y_S f n + f n + (y_S g n + g n) = y_S _ n + (f n + g n)
    rw [← y_S_sum f g n]
    omega
theorem y_S_mul (f : Nat → Int) (c : Int) : ∀ n, y_S (fun i => f i * c) n = y_S f n * c
  | 0 => (Int.zero_mul c).symm
  | n + 1 => by
    show y_S _ n + f n * c = (y_S f n + f n) * c
    rw [y_S_mul f c n, Int.add_mul]
def y_wt (F : Nat → Nat → Int) (w : Nat) : Nat → Int
  | 0 => 1
  | v + 1 => y_wt F w v * F v w
def y_pr (de : Nat → Int) : Nat → Int
  | 0 => 1
  | v + 1 => y_pr de v * de v
section PR
variable {F : Nat → Nat → Int} {de : Nat → Int}
theorem y_wt_0 {w : Nat} : ∀ {m : Nat}, (∀ v, v < m → 0 ≤ F v w) → 0 ≤ y_wt F w m
  | 0, _ => show (0 : Int) ≤ 1 by decide
  | m + 1, h => Int.mul_nonneg (y_wt_0 (fun v hv => h v (by omega))) (h m (by omega))
theorem y_pr_0 : ∀ {m : Nat}, (∀ v, v < m → 0 ≤ de v) → 0 ≤ y_pr de m
  | 0, _ => show (0 : Int) ≤ 1 by decide
  | m + 1, h => Int.mul_nonneg (y_pr_0 (fun v hv => h v (by omega))) (h m (by omega))
theorem y_wt_le {w : Nat} : ∀ {m : Nat}, (∀ v, v < m → 0 ≤ F v w ∧ F v w ≤ de v) → y_wt F w m ≤ y_pr de m
  | 0, _ => Int.le_refl 1
  | m + 1, h => Int.mul_le_mul (y_wt_le (fun v hv => h v (by omega))) (h m (by omega)).2 (h m (by omega)).1 (y_pr_0 (fun v hv => Int.le_trans (h v (by omega)).1 (h v (by omega)).2))
theorem y_pr_m {m n : Nat} (h : m ≤ n) (h1 : ∀ v, v < n → 1 ≤ de v) : y_pr de m ≤ y_pr de n := by
  induction n with
  | zero => rw [Nat.le_zero.mp h]; exact Int.le_refl _
  | succ n ih =>
    rcases Nat.lt_or_ge m (n + 1) with q | q
    · have h2 := ih (by omega) (fun v hv => h1 v (by omega))
      have h3 : y_pr de n * 1 ≤ y_pr de n * de n := Int.mul_le_mul_of_nonneg_left (h1 n (by omega)) (y_pr_0 (fun v hv => Int.le_trans (by decide) (h1 v (by omega))))
      show _ ≤ y_pr de n * de n
      omega
    · have : m = n + 1 := by omega
      rw [this]; exact Int.le_refl _
theorem y_wt_c {w w' : Nat} : ∀ {m : Nat}, (∀ v, v < m → F v w = F v w') → y_wt F w m = y_wt F w' m
  | 0, _ => rfl
  | m + 1, h => by
    show y_wt F w m * F m w = y_wt F w' m * F m w'
    rw [y_wt_c (fun v hv => h v (by omega)), h m (by omega)]
/-- all ways together -/
theorem y_sum_le : ∀ {m : Nat}, (∀ v w, v < m → 0 ≤ F v w) → (∀ v w w', v < m → (∀ o, o ≤ v → w.testBit o = w'.testBit o) → F v w = F v w') → (∀ v w, v < m → w < 2 ^ v → F v w + F v (2 ^ v + w) ≤ de v) → (∀ v, v < m → 0 ≤ de v) → y_S (fun w => y_wt F w m) (2 ^ m) ≤ y_pr de m
  | 0, _, _, _, _ => show (0 : Int) + 1 ≤ 1 by decide
  | m + 1, h0, h1, h2, h3 => by
    have ih := y_sum_le (m := m) (fun v w hv => h0 v w (by omega)) (fun v w w' hv => h1 v w w' (by omega)) (fun v w hv => h2 v w (by omega)) (fun v hv => h3 v (by omega))
    have e : 2 ^ (m + 1) = 2 ^ m + 2 ^ m := by rw [Nat.pow_succ]; omega
    rw [e, y_S_add, y_S_sum]
    refine Int.le_trans (y_S_le (g := fun i => y_wt F i m * de m) (fun i hi => ?_)) ?_
    · show y_wt F i m * F m i + y_wt F (2 ^ m + i) m * F m (2 ^ m + i) ≤ y_wt F i m * de m
      rw [y_wt_c (w := 2 ^ m + i) (w' := i) (fun v hv => h1 v _ _ (by omega) (fun o ho => Nat.testBit_two_pow_add_gt (by omega) i)), ← Int.mul_add]
      exact Int.mul_le_mul_of_nonneg_left (h2 m i (by omega) hi) (y_wt_0 (fun v hv => h0 v i (by omega)))
    · rw [y_S_mul]
      exact Int.mul_le_mul_of_nonneg_right ih (h3 m (by omega))
end PR
/-- a table's place, and how many bits lie behind it -/
def y_ap (lb w : Nat) : Nat → Nat × Nat
  | 0 => (0, 0)
  | o + 1 => if lb.testBit o then (if w.testBit o then (y_ap lb w o).1 + 2 ^ (y_ap lb w o).2 else (y_ap lb w o).1, (y_ap lb w o).2 + 1) else y_ap lb w o
def y_pl (lb : Nat) : Nat → Nat
  | 0 => 0
  | o + 1 => y_pl lb o + if lb.testBit o then 1 else 0
theorem y_ap_2 {lb w : Nat} : ∀ o, (y_ap lb w o).2 = y_pl lb o
  | 0 => rfl
  | o + 1 => by
    unfold y_ap y_pl
    split
    · dsimp only; rw [y_ap_2 o]
    · rw [y_ap_2 o]; rfl
theorem y_ap_1 {lb w : Nat} : ∀ o, (y_ap lb w o).1 < 2 ^ (y_ap lb w o).2
  | 0 => show 0 < 2 ^ 0 by decide
  | o + 1 => by
    have ih := y_ap_1 (lb := lb) (w := w) o
    unfold y_ap
    split
    · dsimp only
      rw [Nat.pow_succ]
      split <;> omega
    · exact ih
theorem y_pl_m {lb o p : Nat} (h : o ≤ p) : y_pl lb o ≤ y_pl lb p := by
  induction h with
  | refl => exact Nat.le_refl _
  | step _ ih => exact Nat.le_trans ih (Nat.le_add_right _ _)
theorem y_ap_e {lb w v : Nat} (hl : lb < 2 ^ v) : ∀ {o : Nat}, v ≤ o → y_ap lb w o = y_ap lb w v := by
  intro o h
  induction h with
  | refl => rfl
  | @step p hp ih =>
    have : lb.testBit p = false := Nat.testBit_lt_two_pow (Nat.lt_of_lt_of_le hl (Nat.pow_le_pow_right (by decide) hp))
    show (if lb.testBit p then _ else y_ap lb w p) = _
    rw [this]
    exact ih
theorem y_ap_c {lb w w' : Nat} : ∀ {v : Nat}, (∀ o, o < v → w.testBit o = w'.testBit o) → y_ap lb w v = y_ap lb w' v
  | 0, _ => rfl
  | v + 1, h => by
    unfold y_ap
    rw [y_ap_c (fun o ho => h o (by omega)), h v (by omega)]
/-- a node's factor in a way -/
def y_fa (n : Nat) (le : Nat → Nat) (de ta fo : Nat → Int) (v w : Nat) : Int := if 0 ≤ fo v then (if fo v = (if w.testBit v then 1 else 0) then de v else 0) else if w.testBit v then ta (8 * v + (y_ap (le v) w n).1) else de v - ta (8 * v + (y_ap (le v) w n).1)
section FA
variable {n : Nat} {le : Nat → Nat} {de ta fo : Nat → Int}
theorem y_fa_b (hp : ∀ v, v < n → y_pl (le v) n ≤ 3) (ht : ∀ v c, v < n → c < 8 → 0 ≤ ta (8 * v + c) ∧ ta (8 * v + c) ≤ de v) (hd : ∀ v, v < n → 0 ≤ de v) {v w : Nat} (hv : v < n) : 0 ≤ y_fa n le de ta fo v w ∧ y_fa n le de ta fo v w ≤ de v := by
  have h8 : (y_ap (le v) w n).1 < 8 := by
    have h1 := y_ap_1 (lb := le v) (w := w) n
    rw [y_ap_2] at h1
    exact Nat.lt_of_lt_of_le h1 (Nat.le_trans (Nat.pow_le_pow_right (by decide) (hp v hv)) (by decide))
  have h2 := ht v _ hv h8
  have h3 := hd v hv
  unfold y_fa
  split
  · split <;> omega
  · split <;> omega
theorem y_fa_sum (hle : ∀ v, v < n → le v < 2 ^ v) (hp : ∀ v, v < n → y_pl (le v) n ≤ 3) (ht : ∀ v c, v < n → c < 8 → 0 ≤ ta (8 * v + c) ∧ ta (8 * v + c) ≤ de v) (hd : ∀ v, v < n → 0 ≤ de v) : y_S (fun w => y_wt (y_fa n le de ta fo) w n) (2 ^ n) ≤ y_pr de n := by
  refine y_sum_le (fun v w hv => (y_fa_b hp ht hd hv).1) (fun v w w' hv hb => ?_) (fun v w hv hw => ?_) hd
  · have e : y_ap (le v) w n = y_ap (le v) w' n := by
      rw [y_ap_e (hle v hv) (show v ≤ n by omega), y_ap_e (hle v hv) (show v ≤ n by omega)]
      exact y_ap_c (fun o ho => hb o (by omega))
    unfold y_fa
    rw [e, hb v (Nat.le_refl v)]
  · have e : y_ap (le v) (2 ^ v + w) n = y_ap (le v) w n := by
      rw [y_ap_e (hle v hv) (show v ≤ n by omega), y_ap_e (hle v hv) (show v ≤ n by omega)]
      exact y_ap_c (fun o ho => Nat.testBit_two_pow_add_gt ho w)
    have b1 : w.testBit v = false := Nat.testBit_lt_two_pow hw
    have b2 : (2 ^ v + w).testBit v = true := by rw [Nat.testBit_two_pow_add_eq, b1]; rfl
    have h3 := hd v hv
    unfold y_fa
    rw [e, b1, b2]
    split
    · simp only [Bool.false_eq_true, if_false, if_true]
      split <;> split <;> omega
    · simp only [Bool.false_eq_true, if_false, if_true]
      omega
end FA
end PT24f
section PT24g
/-! ===== v3: the reference's weightOf, its inner loop ===== -/
def y_N (l : List Int32) (i : Nat) : Int := (l.getD i 0).toInt
def y_Nn (l : List Int32) (i : Nat) : Nat := (l.getD i 0).toInt.toNat
/-- the net, as weights need it -/
def y_net (h : aH) (nd : Int32) (le de ta fo : List Int32) : Prop := w_f h 19591 = some (.int nd) ∧ w_a h 156 = some (0, .inl le) ∧ w_a h 157 = some (0, .inl de) ∧ w_a h 158 = some (0, .inl ta) ∧ w_a h 159 = some (0, .inl fo) ∧ (∀ v, v < 10 → y_pl (y_Nn le v) 10 ≤ 3 ∧ y_Nn le v < 2 ^ v) ∧ (∀ i, i < 80 → y_N ta i ≤ y_N de (i / 8)) ∧ (∀ v : Nat, (v : Int) < nd.toInt → 1 ≤ y_N de v) ∧ y_pr (y_N de) nd.toInt.toNat ≤ 100000000
theorem y_net_fr {h H : aH} {nd : Int32} {le de ta fo : List Int32} (hf : y_fr h H [] []) (hn : y_net h nd le de ta fo) : y_net H nd le de ta fo := by
  obtain ⟨n1, n2, n3, n4, n5, n6⟩ := hn
  exact ⟨(hf.2.1 _ (fun q => by cases q)).trans n1, (hf.2.2 _ (fun q => by cases q)).trans n2, (hf.2.2 _ (fun q => by cases q)).trans n3, (hf.2.2 _ (fun q => by cases q)).trans n4, (hf.2.2 _ (fun q => by cases q)).trans n5, n6⟩
set_option maxRecDepth 100000 in
theorem y_has0 : (List.range 1024).all (fun b => (List.range 10).all (fun o => (decide ((Int32.ofNat b >>> (Int32.ofNat o &&& 31)) &&& Int32.ofInt 1 = Int32.ofInt 1)) == b.testBit o)) = true := by decide +kernel
theorem y_hasN {bits k : Int32} {b o : Nat} (hb : bits.toInt = b) (hb2 : b < 1024) (ho : k.toInt = o) (ho2 : o < 10) : decide ((bits >>> (k &&& 31)) &&& Int32.ofInt 1 = Int32.ofInt 1) = b.testBit o := by
  have h1 := List.all_eq_true.mp (List.all_eq_true.mp y_has0 b (List.mem_range.mpr hb2)) o (List.mem_range.mpr ho2)
  rw [(y_ofNat hb (by omega)).1, (y_ofNat ho (by omega)).1]
  exact beq_iff_eq.mp h1
def y_01 (b : Bool) : Int32 := cond b 1 0
section WG
variable {X : aX} {C S d : Nat} {K0 : Option Value → aH → Nat → Nat → Prop}
theorem y_has {h : aH} (hr : w_hr z_D h) {bits k : Int32} {b o : Nat} (hb : bits.toInt = b) (hb2 : b < 1024) (ho : k.toInt = o) (ho2 : o < 10) (hk : ∀ H, w_eq h H → K0 (some (.int (y_01 (b.testBit o)))) H C S) : aOK s_P X d a_m185 0 [some (.int bits), some (.int k)] [] h C S K0 := by
  have hN := y_hasN hb hb2 ho ho2
  refine w_go z_hl [] [] 20 hr ?_
  refine ⟨fun q => ?_, fun q => ?_⟩
  · refine ⟨by decide, fun H hH => ?_⟩
    have h1 : ¬ ((bits >>> (k &&& 31)) &&& Int32.ofInt 1 = Int32.ofInt 1) := fun e => (y_ci .ne _ _).mp q (congrArg _ e)
    rw [decide_eq_false h1] at hN
    have := hk H hH
    rw [← hN] at this
    exact this
  · refine ⟨by decide, fun H hH => ?_⟩
    have h1 : (bits >>> (k &&& 31)) &&& Int32.ofInt 1 = Int32.ofInt 1 := Int32.toInt_inj.mp (Decidable.not_not.mp (y_cif (c := .ne) q))
    rw [decide_eq_true h1] at hN
    have := hk H hH
    rw [← hN] at this
    exact this
theorem y_or {at' pl : Int32} {a p : Nat} (ha : at'.toInt = a) (hp : pl.toInt = p) (h1 : a < 2 ^ p) (h2 : p ≤ 2) : (at' ||| Int32.ofInt 1 <<< (pl &&& 31)).toInt = ((a + 2 ^ p : Nat) : Int) := by
  have ea := (y_ofNat ha (by have : 2 ^ p ≤ 2 ^ 2 := Nat.pow_le_pow_right (by decide) h2; omega)).1
  have ep := (y_ofNat hp (by omega)).1
  subst ea ep
  have h3 : p = 0 ∨ p = 1 ∨ p = 2 := by omega
  rcases h3 with rfl | rfl | rfl
  · have : a = 0 := by omega
    subst this
    decide
  · have : a = 0 ∨ a = 1 := by omega
    rcases this with rfl | rfl <;> decide
  · have : a = 0 ∨ a = 1 ∨ a = 2 ∨ a = 3 := by omega
    rcases this with rfl | rfl | rfl | rfl <;> decide
theorem y_inner {nd : Int32} {le de ta fo : List Int32} {way v : Int32} {wy vv : Nat} (hwy : way.toInt = wy) (hwy2 : wy < 1024) (hv : v.toInt = vv) (hv2 : vv < 10) {w : Int64} {o8 : Option Value} : ∀ (n : Nat) (h : aH) (at' pl o : Int32) (k : Nat), w_hr z_D h → y_net h nd le de ta fo → o.toInt = k → (k : Int) + n = nd.toInt → at'.toInt = (y_ap (y_Nn le vv) wy k).1 → pl.toInt = (y_ap (y_Nn le vv) wy k).2 →
    (∀ (a' p' o' : Int32) (H : aH), y_fr h H [] [] → a'.toInt = (y_ap (y_Nn le vv) wy nd.toInt.toNat).1 → aOK s_P X (d + 1) a_m184 78 [some (.ref 155), some (.int way), some (.long w), none, some (.int v), some (.int a'), some (.int p'), some (.int o'), o8] [] H C S K0) →
    aOK s_P X (d + 1) a_m184 23 [some (.ref 155), some (.int way), some (.long w), none, some (.int v), some (.int at'), some (.int pl), some (.int o), o8] [] h C S K0 := by
  intro n
  induction n with
  | zero =>
    intro h at' pl o k hr hn ho hkn ha hp hK
    refine w_go z_hl [23, 78] [185] 30 hr ?_
    intro x hx b1 b2
    have e : x = nd := by
      have := hx.symm.trans hn.1
      cases this
      rfl
    subst e
    refine ⟨fun q => ?_, fun q => ?_⟩
    · intro H hH
      exact hK at' pl o H (y_fr_rel hH (w_cons (Or.inr hn.1) w_nil) w_nil) (by rw [ha, show x.toInt.toNat = k by omega])
    · have q2 : ¬ (x.toInt ≤ o.toInt) := y_cif q
      omega
  | succ n ih =>
    intro h at' pl o k hr hn ho hkn ha hp hK
    refine w_go z_hl [23, 78] [185] 30 hr ?_
    intro x hx b1 b2
    have e : x = nd := by
      have := hx.symm.trans hn.1
      cases this
      rfl
    subst e
    refine ⟨fun q => ?_, fun q => ?_⟩
    · have q2 : x.toInt ≤ o.toInt := (y_ci .ge _ _).mp q
      omega
    · refine ⟨⟨by omega, by omega⟩, fun l hl hlen hbb => ?_⟩
      have el : l = le := by
        have := hl.symm.trans hn.2.1
        cases this
        rfl
      subst el
      have hin := (hn.2.2.2.2.2.1 vv hv2)
      have hvc := (y_ofNat hv (by omega)).2
      have hlb : (l.getD v.toNatClampNeg 0).toInt = (y_Nn l vv : Nat) := by
        have hm := hbb _ (z_gd (0 : Int32) (show vv < l.length by omega))
        rw [hvc]
        unfold y_Nn
        omega
      have hlb2 : y_Nn l vv < 1024 := by
        have hm := hbb _ (z_gd (0 : Int32) (show vv < l.length by omega))
        unfold y_Nn
        omega
      have hplk : y_pl (y_Nn l vv) (k + 1) ≤ 3 := Nat.le_trans (y_pl_m (show k + 1 ≤ 10 by omega)) hin.1
      have hinc : (o + Int32.ofInt 1).toInt = ((k + 1 : Nat) : Int) := by rw [y_inc (by omega), ho]; rfl
      intro H hH
      have hf : y_fr h H [] [] := y_fr_rel hH (w_cons (Or.inr hn.1) w_nil) (w_cons (Or.inr hn.2.1) w_nil)
      refine y_has hH.1 hlb hlb2 ho (by omega) (fun H1 h1 => ?_)
      refine ⟨fun n e => (by cases e), ?_⟩
      have hf1 : y_fr h H1 [] [] := y_fr_tr hf (y_fr_rel h1 w_nil w_nil) (fun _ q => q) (fun _ q => q)
      cases hbit : (y_Nn l vv).testBit k with
      | false =>
        refine w_go z_hl [23, 78] [185] 30 hf1.1 ?_
        refine ⟨fun q => ?_, fun q => absurd q (by decide)⟩
        intro H2 h2
        have hf2 : y_fr h H2 [] [] := y_fr_tr hf1 (y_fr_rel h2 w_nil w_nil) (fun _ q => q) (fun _ q => q)
        have eap : y_ap (y_Nn l vv) wy (k + 1) = y_ap (y_Nn l vv) wy k := by
          show (if (y_Nn l vv).testBit k then _ else y_ap (y_Nn l vv) wy k) = _
          rw [hbit]
          rfl
        exact ih H2 at' pl _ (k + 1) hf2.1 (y_net_fr hf2 hn) hinc (by omega) (by rw [eap]; exact ha) (by rw [eap]; exact hp) (fun a' p' o' H' hf' ha' => hK a' p' o' H' (y_fr_tr hf2 hf' (fun _ q => q) (fun _ q => q)) ha')
      | true =>
        refine w_go z_hl [23, 78] [185] 30 hf1.1 ?_
        refine ⟨fun q => absurd q (by decide), fun q => ?_⟩
        intro H2 h2
        refine y_has h2.1 hwy hwy2 ho (by omega) (fun H3 h3 => ?_)
        refine ⟨fun n e => (by cases e), ?_⟩
        have hf3 : y_fr h H3 [] [] := y_fr_tr (y_fr_tr hf1 (y_fr_rel h2 w_nil w_nil) (fun _ q => q) (fun _ q => q)) (y_fr_rel h3 w_nil w_nil) (fun _ q => q) (fun _ q => q)
        have e2 := y_ap_2 (lb := y_Nn l vv) (w := wy) k
        have hpl1 : y_pl (y_Nn l vv) (k + 1) = y_pl (y_Nn l vv) k + 1 := by
          show y_pl _ k + (if (y_Nn l vv).testBit k then 1 else 0) = _
          rw [hbit]
          rfl
        have hinp : (pl + Int32.ofInt 1).toInt = (((y_ap (y_Nn l vv) wy k).2 + 1 : Nat) : Int) := by rw [y_inc (by omega), hp]; rfl
        cases hwb : wy.testBit k with
        | false =>
          refine w_go z_hl [23, 78] [185] 30 hf3.1 ?_
          refine ⟨fun q => ?_, fun q => absurd q (by decide)⟩
          intro H4 h4
          have hf4 : y_fr h H4 [] [] := y_fr_tr hf3 (y_fr_rel h4 w_nil w_nil) (fun _ q => q) (fun _ q => q)
          have eap : y_ap (y_Nn l vv) wy (k + 1) = ((y_ap (y_Nn l vv) wy k).1, (y_ap (y_Nn l vv) wy k).2 + 1) := by
            show (if (y_Nn l vv).testBit k then (if wy.testBit k then _ else (y_ap (y_Nn l vv) wy k).1, _) else _) = _
            rw [hbit, hwb]
            rfl
          refine ih H4 _ _ _ (k + 1) hf4.1 (y_net_fr hf4 hn) hinc (by omega) ?_ (by rw [eap]; exact hinp) (fun a' p' o' H' hf' ha' => hK a' p' o' H' (y_fr_tr hf4 hf' (fun _ q => q) (fun _ q => q)) ha')
          rw [eap]
          show (at' ||| (0 : Int32)).toInt = _
          rw [Int32.or_zero]
          exact ha
        | true =>
          refine w_go z_hl [23, 78] [185] 30 hf3.1 ?_
          refine ⟨fun q => absurd q (by decide), fun q => ?_⟩
          intro H4 h4
          have hf4 : y_fr h H4 [] [] := y_fr_tr hf3 (y_fr_rel h4 w_nil w_nil) (fun _ q => q) (fun _ q => q)
          have eap : y_ap (y_Nn l vv) wy (k + 1) = ((y_ap (y_Nn l vv) wy k).1 + 2 ^ (y_ap (y_Nn l vv) wy k).2, (y_ap (y_Nn l vv) wy k).2 + 1) := by
            show (if (y_Nn l vv).testBit k then (if wy.testBit k then (y_ap (y_Nn l vv) wy k).1 + 2 ^ (y_ap (y_Nn l vv) wy k).2 else _, _) else _) = _
            rw [hbit, hwb]
            rfl
          refine ih H4 _ _ _ (k + 1) hf4.1 (y_net_fr hf4 hn) hinc (by omega) ?_ (by rw [eap]; exact hinp) (fun a' p' o' H' hf' ha' => hK a' p' o' H' (y_fr_tr hf4 hf' (fun _ q => q) (fun _ q => q)) ha')
          rw [eap]
          exact y_or ha hp (y_ap_1 k) (by omega)
end WG
end PT24g
section PT24h
/-! ===== v3: the reference's weightOf and weighsUp ===== -/
/-- a way's weight -/
def y_W (nd : Int32) (le de ta fo : List Int32) (wy k : Nat) : Int := y_wt (y_fa nd.toInt.toNat (y_Nn le) (y_N de) (y_N ta) (y_N fo)) wy k
theorem y_W_b {h : aH} {nd : Int32} {le de ta fo : List Int32} (hn : y_net h nd le de ta fo) (h10 : nd.toInt ≤ 10) (hta : ∀ x ∈ ta, 0 ≤ x.toInt) {wy k : Nat} (hk : (k : Int) ≤ nd.toInt) : 0 ≤ y_W nd le de ta fo wy k ∧ y_W nd le de ta fo wy k ≤ 100000000 := by
  obtain ⟨-, -, -, -, -, n6, n7, n8, n9⟩ := hn
  have hb : ∀ v, v < nd.toInt.toNat → 0 ≤ y_fa nd.toInt.toNat (y_Nn le) (y_N de) (y_N ta) (y_N fo) v wy ∧ y_fa nd.toInt.toNat (y_Nn le) (y_N de) (y_N ta) (y_N fo) v wy ≤ y_N de v := fun v hv => y_fa_b (fun v hv => Nat.le_trans (y_pl_m (show nd.toInt.toNat ≤ 10 by omega)) (n6 v (by omega)).1) (fun v c hv hc => by
    have h1 := n7 (8 * v + c) (by omega)
    rw [show (8 * v + c) / 8 = v by omega] at h1
    refine ⟨?_, h1⟩
    unfold y_N
    rw [List.getD_eq_getElem?_getD]
    cases hq : ta[8 * v + c]? with
    | none => exact Int.le_refl 0
    | some x => exact hta x (List.mem_of_getElem? hq)) (fun v hv => Int.le_trans (by decide) (n8 v (by omega))) hv
  refine ⟨y_wt_0 (fun v hv => (hb v (by omega)).1), ?_⟩
  exact Int.le_trans (y_wt_le (de := y_N de) (fun v hv => hb v (by omega))) (Int.le_trans (y_pr_m (show k ≤ nd.toInt.toNat by omega) (fun v hv => n8 v (by omega))) n9)
theorem y_idx8 {v a : Int32} {vv aa : Nat} (hv : v.toInt = vv) (ha : a.toInt = aa) (h1 : vv < 10) (h2 : aa < 8) : ((Int8.ofInt 8).toInt32 * v + a).toInt = ((8 * vv + aa : Nat) : Int) := by
  have e8 : ((Int8.ofInt 8).toInt32).toInt = 8 := by decide
  rw [Int32.toInt_add, Int32.toInt_mul, e8, hv, ha, Int.bmod_eq_of_le (n := 8 * (vv : Int)) (by omega) (by omega), Int.bmod_eq_of_le (by omega) (by omega)]
  omega
theorem y_sub32 {a b : Int32} (h1 : 0 ≤ b.toInt) (h2 : b.toInt ≤ a.toInt) : (a - b).toInt = a.toInt - b.toInt := by
  have h3 := a.toInt_lt
  rw [Int32.toInt_sub]
  exact Int.bmod_eq_of_le (by omega) (by omega)
theorem y_i2l (x : Int32) : x.toInt64.toInt = x.toInt := Int32.toInt_toInt64 x
section WG
variable {X : aX} {C S d : Nat} {K0 : Option Value → aH → Nat → Nat → Prop}
theorem y_outer {nd : Int32} {le de ta fo : List Int32} {way : Int32} {wy : Nat} (hwy : way.toInt = wy) (hwy2 : wy < 1024) : ∀ (n : Nat) (h : aH) (w : Int64) (v : Int32) (k : Nat) (o5 o6 o7 o8 : Option Value), w_hr z_D h → y_net h nd le de ta fo → v.toInt = k → (k : Int) + n = nd.toInt → w.toInt = y_W nd le de ta fo wy k →
    (∀ (r : Int64) (H : aH), y_fr h H [] [] → r.toInt = y_W nd le de ta fo wy nd.toInt.toNat → K0 (some (.long r)) H C S) →
    aOK s_P X (d + 1) a_m184 5 [some (.ref 155), some (.int way), some (.long w), none, some (.int v), o5, o6, o7, o8] [] h C S K0 := by
  intro n
  induction n with
  | zero =>
    intro h w v k o5 o6 o7 o8 hr hn hv hkn hw hK
    refine w_go z_hl [5, 23] [185] 30 hr ?_
    intro x hx b1 b2
    have e : x = nd := by
      have := hx.symm.trans hn.1
      cases this
      rfl
    subst e
    refine ⟨fun q => ?_, fun q => ?_⟩
    · intro H hH
      exact hK w H (y_fr_rel hH (w_cons (Or.inr hn.1) w_nil) w_nil) (by rw [hw, show x.toInt.toNat = k by omega])
    · have q2 : ¬ (x.toInt ≤ v.toInt) := y_cif q
      omega
  | succ n ih =>
    intro h w v k o5 o6 o7 o8 hr hn hv hkn hw hK
    refine w_go z_hl [5, 23] [185] 30 hr ?_
    intro x hx b1 b2
    have e : x = nd := by
      have := hx.symm.trans hn.1
      cases this
      rfl
    subst e
    refine ⟨fun q => ?_, fun q => ?_⟩
    · have q2 : x.toInt ≤ v.toInt := (y_ci .ge _ _).mp q
      omega
    · intro H hH
      have hf : y_fr h H [] [] := y_fr_rel hH (w_cons (Or.inr hn.1) w_nil) w_nil
      refine y_inner (le := le) (de := de) (ta := ta) (fo := fo) hwy hwy2 hv (by omega) x.toInt.toNat H _ _ _ 0 hf.1 (y_net_fr hf hn) rfl (by omega) rfl rfl (fun a' p' o' H1 hf1 ha' => ?_)
      have hf1' : y_fr h H1 [] [] := y_fr_tr hf hf1 (fun _ q => q) (fun _ q => q)
      have hn1 := y_net_fr hf1' hn
      have ha8 : (y_ap (y_Nn le k) wy x.toInt.toNat).1 < 8 := by
        have h1 := y_ap_1 (lb := y_Nn le k) (w := wy) x.toInt.toNat
        rw [y_ap_2] at h1
        exact Nat.lt_of_lt_of_le h1 (Nat.le_trans (Nat.pow_le_pow_right (by decide) (Nat.le_trans (y_pl_m (show x.toInt.toNat ≤ 10 by omega)) (hn.2.2.2.2.2.1 k (by omega)).1)) (by decide))
      have hidx := y_idx8 hv ha' (by omega) ha8
      have hidxb : 0 ≤ ((Int8.ofInt 8).toInt32 * v + a').toInt ∧ ((Int8.ofInt 8).toInt32 * v + a').toInt < ((80 : Nat) : Int) := by omega
      have hvc := (y_ofNat hv (by omega)).2
      have hinc : (v + Int32.ofInt 1).toInt = ((k + 1 : Nat) : Int) := by rw [y_inc (by omega), hv]; rfl
      have hic := (y_ofNat hidx (by omega)).2
      refine w_go z_hl [5, 23] [185] 30 hf1.1 ?_
      intro H2 h2
      refine y_has h2.1 hwy hwy2 hv (by omega) (fun H3 h3 => ?_)
      refine ⟨fun n e => (by cases e), ?_⟩
      have hf3 : y_fr h H3 [] [] := y_fr_tr (y_fr_tr hf1' (y_fr_rel h2 w_nil w_nil) (fun _ q => q) (fun _ q => q)) (y_fr_rel h3 w_nil w_nil) (fun _ q => q) (fun _ q => q)
      have hn3 := y_net_fr hf3 hn
      -- the end of a round
      have fin : ∀ {H' : aH} {f : Int64} {p5 p6 p7 p8 : Option Value}, (∀ y ∈ ta, 0 ≤ y.toInt) → y_fr h H' [] [] → f.toInt = y_fa x.toInt.toNat (y_Nn le) (y_N de) (y_N ta) (y_N fo) k wy → aOK s_P X (d + 1) a_m184 5 [some (.ref 155), some (.int way), some (.long (w * f)), none, some (.int (v + Int32.ofInt 1)), p5, p6, p7, p8] [] H' C S K0 := by
        intro H' f p5 p6 p7 p8 hta hf' hfv
        have hb0 := y_W_b hn b2 hta (wy := wy) (k := k + 1) (by omega)
        have e1 : y_W x le de ta fo wy (k + 1) = w.toInt * f.toInt := by rw [hw, hfv]; rfl
        rw [e1] at hb0
        refine ih H' (w * f) _ (k + 1) p5 p6 p7 p8 hf'.1 (y_net_fr hf' hn) hinc (by omega) ?_ (fun r H'' hf'' hr'' => hK r H'' (y_fr_tr hf' hf'' (fun _ q => q) (fun _ q => q)) hr'')
        rw [y_mul (by omega) (by omega), e1]
      have efa : ∀ b, wy.testBit k = b → y_fa x.toInt.toNat (y_Nn le) (y_N de) (y_N ta) (y_N fo) k wy = if 0 ≤ y_N fo k then (if y_N fo k = (if b then 1 else 0) then y_N de k else 0) else if b then y_N ta (8 * k + (y_ap (y_Nn le k) wy x.toInt.toNat).1) else y_N de k - y_N ta (8 * k + (y_ap (y_Nn le k) wy x.toInt.toNat).1) := fun b hb => by
        unfold y_fa
        rw [hb]
      have hm3 := hn3.2.2.2.1
      cases hbit : wy.testBit k with
      | true =>
        refine w_go z_hl [5, 23] [185] 60 hf3.1 ?_
        refine ⟨fun q => absurd q (by decide), fun q => ?_⟩
        refine ⟨hidxb, fun l1 hl1 hlen1 hbb1 => ?_⟩
        have el : l1 = ta := by
          have := hl1.symm.trans hm3
          cases this
          rfl
        subst el
        have hta0 : ∀ y ∈ l1, 0 ≤ y.toInt := fun y hy => (hbb1 y hy).1
        have hnum : (l1.getD ((Int8.ofInt 8).toInt32 * v + a').toNatClampNeg 0).toInt = y_N l1 (8 * k + (y_ap (y_Nn le k) wy x.toInt.toNat).1) := by
          rw [hic]
          rfl
        have hle := hn.2.2.2.2.2.2.1 (8 * k + (y_ap (y_Nn le k) wy x.toInt.toNat).1) (by omega)
        rw [show (8 * k + (y_ap (y_Nn le k) wy x.toInt.toNat).1) / 8 = k by omega] at hle
        have h0 : 0 ≤ y_N l1 (8 * k + (y_ap (y_Nn le k) wy x.toInt.toNat).1) := by
          rw [← hnum, hic]
          exact (hbb1 _ (z_gd (0 : Int32) (by omega))).1
        refine ⟨⟨by omega, by omega⟩, fun l2 hl2 hlen2 hbb2 => ?_⟩
        have el : l2 = fo := by
          have := hl2.symm.trans hn3.2.2.2.2.1
          cases this
          rfl
        subst el
        have hfov : (l2.getD v.toNatClampNeg 0).toInt = y_N l2 k := by
          rw [hvc]
          rfl
        have hde : ∀ {l3 : List Int32}, w_a H3 157 = some (0, .inl l3) → l3 = de := fun hl3 => by
          have := hl3.symm.trans hn3.2.2.1
          cases this
          rfl
        have fr1 : ∀ {H' : aH}, w_rel z_D H3 [] [(159, (0, .inl l2)), (158, (0, .inl l1))] H' → y_fr h H' [] [] := fun hr' => y_fr_tr hf3 (y_fr_rel hr' w_nil (w_cons (Or.inr hl2) (w_cons (Or.inr hl1) w_nil))) (fun _ q => q) (fun _ q => q)
        have fr2 : ∀ {H' : aH}, w_rel z_D H3 [] [(157, (0, .inl de)), (159, (0, .inl l2)), (158, (0, .inl l1))] H' → y_fr h H' [] [] := fun hr' => y_fr_tr hf3 (y_fr_rel hr' w_nil (w_cons (Or.inr hn3.2.2.1) (w_cons (Or.inr hl2) (w_cons (Or.inr hl1) w_nil)))) (fun _ q => q) (fun _ q => q)
        refine ⟨fun q1 => ?_, fun q1 => ⟨⟨by omega, by omega⟩, fun q2 => ?_, fun q2 => ?_⟩⟩
        · have hneg : ¬ (0 ≤ y_N l2 k) := by
            have q3 : (l2.getD v.toNatClampNeg 0).toInt < (0 : Int32).toInt := (y_ci .lt _ _).mp q1
            have e0 : (0 : Int32).toInt = 0 := rfl
            omega
          refine ⟨fun q5 => absurd q5 (by decide), fun q5 => ?_⟩
          intro H' hH'
          refine fin hta0 (fr1 hH') ?_
          rw [efa _ hbit, if_neg hneg]
          simp only [if_true]
          rw [y_i2l]
          exact hnum
        · have hpos : 0 ≤ y_N l2 k := by
            have q3 : ¬ ((l2.getD v.toNatClampNeg 0).toInt < (0 : Int32).toInt) := y_cif q1
            have e0 : (0 : Int32).toInt = 0 := rfl
            omega
          have hne : y_N l2 k ≠ 1 := by
            have q4 : (l2.getD v.toNatClampNeg 0).toInt ≠ (Int32.ofInt 1).toInt := (y_ci .ne _ _).mp q2
            have e0 : (Int32.ofInt 1).toInt = 1 := by decide
            omega
          intro H' hH'
          refine fin hta0 (fr1 hH') ?_
          rw [efa _ hbit, if_pos hpos]
          simp only [if_true]
          rw [if_neg hne]
          rfl
        · have hpos : 0 ≤ y_N l2 k := by
            have q3 : ¬ ((l2.getD v.toNatClampNeg 0).toInt < (0 : Int32).toInt) := y_cif q1
            have e0 : (0 : Int32).toInt = 0 := rfl
            omega
          have heq : y_N l2 k = 1 := by
            have q4 : ¬ ((l2.getD v.toNatClampNeg 0).toInt ≠ (Int32.ofInt 1).toInt) := y_cif q2
            have e0 : (Int32.ofInt 1).toInt = 1 := by decide
            omega
          refine ⟨⟨by omega, by omega⟩, fun l3 hl3 hlen3 hbb3 => ?_⟩
          have el := hde hl3
          subst el
          intro H' hH'
          refine fin hta0 (fr2 hH') ?_
          rw [efa _ hbit, if_pos hpos]
          simp only [if_true]
          rw [if_pos heq, y_i2l, hvc]
          rfl
      | false =>
        refine w_go z_hl [5, 23] [185] 60 hf3.1 ?_
        refine ⟨fun q => ?_, fun q => absurd q (by decide)⟩
        refine ⟨hidxb, fun l1 hl1 hlen1 hbb1 => ?_⟩
        have el : l1 = ta := by
          have := hl1.symm.trans hm3
          cases this
          rfl
        subst el
        have hta0 : ∀ y ∈ l1, 0 ≤ y.toInt := fun y hy => (hbb1 y hy).1
        have hnum : (l1.getD ((Int8.ofInt 8).toInt32 * v + a').toNatClampNeg 0).toInt = y_N l1 (8 * k + (y_ap (y_Nn le k) wy x.toInt.toNat).1) := by
          rw [hic]
          rfl
        have hle := hn.2.2.2.2.2.2.1 (8 * k + (y_ap (y_Nn le k) wy x.toInt.toNat).1) (by omega)
        rw [show (8 * k + (y_ap (y_Nn le k) wy x.toInt.toNat).1) / 8 = k by omega] at hle
        have h0 : 0 ≤ y_N l1 (8 * k + (y_ap (y_Nn le k) wy x.toInt.toNat).1) := by
          rw [← hnum, hic]
          exact (hbb1 _ (z_gd (0 : Int32) (by omega))).1
        refine ⟨⟨by omega, by omega⟩, fun l2 hl2 hlen2 hbb2 => ?_⟩
        have el : l2 = fo := by
          have := hl2.symm.trans hn3.2.2.2.2.1
          cases this
          rfl
        subst el
        have hfov : (l2.getD v.toNatClampNeg 0).toInt = y_N l2 k := by
          rw [hvc]
          rfl
        have hde : ∀ {l3 : List Int32}, w_a H3 157 = some (0, .inl l3) → l3 = de := fun hl3 => by
          have := hl3.symm.trans hn3.2.2.1
          cases this
          rfl
        have fr1 : ∀ {H' : aH}, w_rel z_D H3 [] [(159, (0, .inl l2)), (158, (0, .inl l1))] H' → y_fr h H' [] [] := fun hr' => y_fr_tr hf3 (y_fr_rel hr' w_nil (w_cons (Or.inr hl2) (w_cons (Or.inr hl1) w_nil))) (fun _ q => q) (fun _ q => q)
        have fr2 : ∀ {H' : aH}, w_rel z_D H3 [] [(157, (0, .inl de)), (159, (0, .inl l2)), (158, (0, .inl l1))] H' → y_fr h H' [] [] := fun hr' => y_fr_tr hf3 (y_fr_rel hr' w_nil (w_cons (Or.inr hn3.2.2.1) (w_cons (Or.inr hl2) (w_cons (Or.inr hl1) w_nil)))) (fun _ q => q) (fun _ q => q)
        refine ⟨fun q1 => ?_, fun q1 => ⟨⟨by omega, by omega⟩, fun q2 => ?_, fun q2 => ?_⟩⟩
        · have hneg : ¬ (0 ≤ y_N l2 k) := by
            have q3 : (l2.getD v.toNatClampNeg 0).toInt < (0 : Int32).toInt := (y_ci .lt _ _).mp q1
            have e0 : (0 : Int32).toInt = 0 := rfl
            omega
          refine ⟨fun q5 => ?_, fun q5 => absurd q5 (by decide)⟩
          refine ⟨⟨by omega, by omega⟩, fun l3 hl3 hlen3 hbb3 => ?_⟩
          have el := hde hl3
          subst el
          intro H' hH'
          refine fin hta0 (fr2 hH') ?_
          rw [efa _ hbit, if_neg hneg]
          simp only [Bool.false_eq_true, if_false]
          have hdv : (l3.getD v.toNatClampNeg 0).toInt = y_N l3 k := by
            rw [hvc]
            rfl
          rw [y_i2l, y_sub32 (by rw [hnum]; exact h0) (by rw [hnum, hdv]; exact hle), hnum, hdv]
        · have hpos : 0 ≤ y_N l2 k := by
            have q3 : ¬ ((l2.getD v.toNatClampNeg 0).toInt < (0 : Int32).toInt) := y_cif q1
            have e0 : (0 : Int32).toInt = 0 := rfl
            omega
          have hne : y_N l2 k ≠ 0 := by
            have q4 : (l2.getD v.toNatClampNeg 0).toInt ≠ (Int32.ofInt 0).toInt := (y_ci .ne _ _).mp q2
            have e0 : (Int32.ofInt 0).toInt = 0 := by decide
            omega
          intro H' hH'
          refine fin hta0 (fr1 hH') ?_
          rw [efa _ hbit, if_pos hpos]
          simp only [Bool.false_eq_true, if_false]
          rw [if_neg hne]
          rfl
        · have hpos : 0 ≤ y_N l2 k := by
            have q3 : ¬ ((l2.getD v.toNatClampNeg 0).toInt < (0 : Int32).toInt) := y_cif q1
            have e0 : (0 : Int32).toInt = 0 := rfl
            omega
          have heq : y_N l2 k = 0 := by
            have q4 : ¬ ((l2.getD v.toNatClampNeg 0).toInt ≠ (Int32.ofInt 0).toInt) := y_cif q2
            have e0 : (Int32.ofInt 0).toInt = 0 := by decide
            omega
          refine ⟨⟨by omega, by omega⟩, fun l3 hl3 hlen3 hbb3 => ?_⟩
          have el := hde hl3
          subst el
          intro H' hH'
          refine fin hta0 (fr2 hH') ?_
          rw [efa _ hbit, if_pos hpos]
          simp only [Bool.false_eq_true, if_false]
          rw [if_pos heq, y_i2l, hvc]
          rfl
theorem y_weightOf {h : aH} {nd : Int32} {le de ta fo : List Int32} {way : Int32} {wy : Nat} (hwy : way.toInt = wy) (hwy2 : wy < 1024) (hr : w_hr z_D h) (hn : y_net h nd le de ta fo) (h0 : 0 ≤ nd.toInt) (hK : ∀ (r : Int64) (H : aH), y_fr h H [] [] → r.toInt = y_W nd le de ta fo wy nd.toInt.toNat → K0 (some (.long r)) H C S) : aOK s_P X (d + 1) a_m184 0 [some (.ref 155), some (.int way), none, none, none, none, none, none, none] [] h C S K0 := by
  refine w_go z_hl [5] [185] 30 hr ?_
  intro H hH
  have hf : y_fr h H [] [] := y_fr_rel hH w_nil w_nil
  exact y_outer hwy hwy2 nd.toInt.toNat H _ _ 0 _ _ _ _ hf.1 (y_net_fr hf hn) rfl (by omega) rfl (fun r H' hf' hr' => hK r H' (y_fr_tr hf hf' (fun _ q => q) (fun _ q => q)) hr')
end WG
end PT24h
section PT24i
/-! ===== v3: the reference's weighsUp ===== -/
theorem y_net_fr2 {h H : aH} {nd : Int32} {le de ta fo : List Int32} {fs as : List Nat} (hf : y_fr h H fs as) (h1 : fs.elem 19591 = false) (h2 : as.all (fun x => Nat.blt x 156 || Nat.blt 159 x) = true) (hn : y_net h nd le de ta fo) : y_net H nd le de ta fo := by
  obtain ⟨n1, n2, n3, n4, n5, n6⟩ := hn
  have hno : ∀ o, 156 ≤ o → o ≤ 159 → o ∉ as := fun o ha hb hm => by
    have := List.all_eq_true.mp h2 o hm
    rw [Bool.or_eq_true] at this
    rcases this with q | q
    · have := Nat.blt_eq.mp q; omega
    · have := Nat.blt_eq.mp q; omega
  have hnf : 19591 ∉ fs := fun hm => by rw [List.elem_iff.mpr hm] at h1; cases h1
  exact ⟨(hf.2.1 _ hnf).trans n1, (hf.2.2 _ (hno _ (by decide) (by decide))).trans n2, (hf.2.2 _ (hno _ (by decide) (by decide))).trans n3, (hf.2.2 _ (hno _ (by decide) (by decide))).trans n4, (hf.2.2 _ (hno _ (by decide) (by decide))).trans n5, n6⟩
theorem y_gset {α : Type} {l : List α} {k i : Nat} {x d : α} (hk : k < l.length) : (l.set k x).getD i d = if i = k then x else l.getD i d := by
  rw [List.getD_eq_getElem?_getD, List.getD_eq_getElem?_getD]
  split
  · rename_i e
    subst e
    rw [List.getElem?_set_self hk]
    rfl
  · rename_i e
    rw [List.getElem?_set_ne (fun q => e q.symm)]
theorem y_tot_z {wl : List Int64} {m : Nat} (h : ∀ i, m ≤ i → wl.getD i 0 = 0) : ∀ {k : Nat}, m ≤ k → y_tot wl k = y_tot wl m := by
  intro k hk
  induction hk with
  | refl => rfl
  | @step p hp ih =>
    show y_tot wl p + (wl.getD p 0).toInt = _
    rw [h p hp, ih]
    exact Int.add_zero _
theorem y_tot_S {wl : List Int64} {f : Nat → Int} : ∀ {n : Nat}, (∀ i, i < n → (wl.getD i 0).toInt = f i) → y_tot wl n = y_S f n
  | 0, _ => rfl
  | n + 1, h => by
    show y_tot wl n + _ = y_S f n + f n
    rw [y_tot_S (fun i hi => h i (by omega)), h n (by omega)]
/-- weights are those of the net -/
def y_wok (nd : Int32) (le de ta fo : List Int32) (wl : List Int64) (k : Nat) : Prop := (∀ i, i < k → (wl.getD i 0).toInt = y_W nd le de ta fo i nd.toInt.toNat) ∧ ∀ i, y_ways nd ≤ i → wl.getD i 0 = 0
theorem y_wok_wl {h : aH} {nd : Int32} {le de ta fo : List Int32} {wl : List Int64} (hn : y_net h nd le de ta fo) (hr : w_hr z_D h) (h0 : 0 ≤ nd.toInt) (h10 : nd.toInt ≤ 10) (hw : w_a h 163 = some (1, .inr (.inl wl))) (hk : y_wok nd le de ta fo wl (y_ways nd)) : y_wl h wl := by
  have hta : ∀ x ∈ ta, 0 ≤ x.toInt := by
    obtain ⟨l, g1, g2, g3⟩ := w_arrI hr (o := 158) (t := 0) (n := 80) (lo := 0) (hi := 10000000) (by decide) rfl
    have e := (w_a_at g1).symm.trans hn.2.2.2.1
    cases e
    exact fun x hx => (g3 x hx).1
  have hle : ∀ i, 0 ≤ (wl.getD i 0).toInt := fun i => by
    rcases Nat.lt_or_ge i (y_ways nd) with q | q
    · rw [hk.1 i q]
      exact (y_W_b hn h10 hta (by omega)).1
    · rw [hk.2 i q]
      exact Int.le_refl 0
  obtain ⟨-, -, l2⟩ := y_all h0 h10
  refine ⟨hw, fun x hx => ?_, ?_⟩
  · obtain ⟨i, hi⟩ := List.mem_iff_getElem?.mp hx
    have := hle i
    rw [List.getD_eq_getElem?_getD, hi] at this
    exact this
  · rw [y_tot_z hk.2 l2, y_tot_S hk.1]
    obtain ⟨-, -, -, -, -, n6, n7, n8, n9⟩ := hn
    refine Int.le_trans (y_fa_sum (n := nd.toInt.toNat) (le := y_Nn le) (de := y_N de) (ta := y_N ta) (fo := y_N fo) (fun v hv => (n6 v (by omega)).2) (fun v hv => Nat.le_trans (y_pl_m (show nd.toInt.toNat ≤ 10 by omega)) (n6 v (by omega)).1) (fun v c hv hc => ?_) (fun v hv => Int.le_trans (by decide) (n8 v (by omega)))) n9
    have h1 := n7 (8 * v + c) (by omega)
    rw [show (8 * v + c) / 8 = v by omega] at h1
    refine ⟨?_, h1⟩
    unfold y_N
    rw [List.getD_eq_getElem?_getD]
    cases hq : ta[8 * v + c]? with
    | none => exact Int.le_refl 0
    | some x => exact hta x (List.mem_of_getElem? hq)
section WG
variable {X : aX} {C S d : Nat} {K0 : Option Value → aH → Nat → Nat → Prop}
theorem y_up_loop {nd : Int32} {le de ta fo : List Int32} : ∀ (n : Nat) (h : aH) (w : Int32) (k : Nat) (wl : List Int64), w_hr z_D h → y_net h nd le de ta fo → w_a h 163 = some (1, .inr (.inl wl)) → w.toInt = k → k + n = y_ways nd → y_wok nd le de ta fo wl k →
    (∀ (wl' : List Int64) (H : aH), y_fr h H [] [163] → w_a H 163 = some (1, .inr (.inl wl')) → y_wok nd le de ta fo wl' (y_ways nd) → K0 none H C S) →
    aOK s_P X (d + 2) a_m188 2 [some (.ref 155), some (.int w)] [] h C S K0 := by
  intro n
  induction n with
  | zero =>
    intro h w k wl hr hn hw hk hkn hok hK
    refine w_go z_hl [2] [184] 30 hr ?_
    intro x hx b1 b2
    have e : x = nd := by
      have := hx.symm.trans hn.1
      cases this
      rfl
    subst e
    obtain ⟨ea, l1, l2⟩ := y_all b1 b2
    refine ⟨fun q => ?_, fun q => ?_⟩
    · intro H hH
      have hf : y_fr h H [] [163] := y_fr_rel hH (w_cons (Or.inr hn.1) w_nil) w_nil
      have hf0 : y_fr h H [] [] := y_fr_rel hH (w_cons (Or.inr hn.1) w_nil) w_nil
      refine hK wl H hf ((hf0.2.2 _ (fun q => by cases q)).trans hw) ?_
      rw [Nat.add_zero] at hkn
      rw [← hkn]
      exact hok
    · have q2 : ¬ ((Int32.ofInt 1 <<< (x &&& 31) - Int32.ofInt 1).toInt < w.toInt) := y_cif q
      omega
  | succ n ih =>
    intro h w k wl hr hn hw hk hkn hok hK
    refine w_go z_hl [2] [184] 30 hr ?_
    intro x hx b1 b2
    have e : x = nd := by
      have := hx.symm.trans hn.1
      cases this
      rfl
    subst e
    obtain ⟨ea, l1, l2⟩ := y_all b1 b2
    refine ⟨fun q => ?_, fun q => ?_⟩
    · have q2 : (Int32.ofInt 1 <<< (x &&& 31) - Int32.ofInt 1).toInt < w.toInt := (y_ci .gt _ _).mp q
      omega
    · have hwc := (y_ofNat hk (by omega)).2
      have hinc : (w + Int32.ofInt 1).toInt = ((k + 1 : Nat) : Int) := by rw [y_inc (by omega), hk]; rfl
      intro H hH
      have hf : y_fr h H [] [] := y_fr_rel hH (w_cons (Or.inr hn.1) w_nil) w_nil
      refine y_weightOf hk (by omega) hH.1 (y_net_fr hf hn) b1 (fun r H1 hf1 hr1 => ?_)
      refine ⟨fun n e => (by cases e), ?_⟩
      have hf1' : y_fr h H1 [] [] := y_fr_tr hf hf1 (fun _ q => q) (fun _ q => q)
      have hw1 : w_a H1 163 = some (1, .inr (.inl wl)) := (hf1'.2.2 _ (fun q => by cases q)).trans hw
      refine w_go z_hl [2] [184] 30 hf1.1 ?_
      refine ⟨⟨by omega, by omega⟩, y_l64 _, fun l hl hlen hbb => ?_⟩
      have el : l = wl := by
        have := hl.symm.trans hw1
        cases this
        rfl
      subst el
      intro H2 h2
      have hf2 : y_fr H1 H2 [] [163] := y_fr_rel h2 w_nil (w_cons (Or.inl (y_m rfl)) (w_cons (Or.inl (y_m rfl)) w_nil))
      have hf2' : y_fr h H2 [] [163] := y_fr_tr (y_fr_mono hf1' (fun _ q => q) (fun _ q => by cases q)) hf2 (fun _ q => q) (fun _ q => q)
      refine ih H2 _ (k + 1) (l.set w.toNatClampNeg r) hf2.1 (y_net_fr2 hf2' rfl rfl hn) (h2.2.2.1 163 _ rfl) hinc (by omega) ⟨fun i hi => ?_, fun i hi => ?_⟩ (fun wl' H' hf' hw' hok' => hK wl' H' (y_fr_tr hf2' hf' (fun _ q => q) (fun _ q => q)) hw' hok')
      · rw [hwc, y_gset (by omega)]
        split
        · rename_i e
          rw [e]
          exact hr1
        · exact hok.1 i (by omega)
      · rw [hwc, y_gset (by omega), if_neg (by omega)]
        exact hok.2 i hi
theorem y_weighsUp {h : aH} {nd : Int32} {le de ta fo : List Int32} {wl : List Int64} (hr : w_hr z_D h) (hn : y_net h nd le de ta fo) (hw : w_a h 163 = some (1, .inr (.inl wl))) (hz : ∀ i, y_ways nd ≤ i → wl.getD i 0 = 0) (hK : ∀ (wl' : List Int64) (H : aH), y_fr h H [] [163] → w_a H 163 = some (1, .inr (.inl wl')) → y_wok nd le de ta fo wl' (y_ways nd) → K0 none H C S) : aOK s_P X (d + 2) a_m188 0 [some (.ref 155), none] [] h C S K0 := by
  refine w_go z_hl [2] [184] 30 hr ?_
  intro H hH
  have hf : y_fr h H [] [] := y_fr_rel hH w_nil w_nil
  exact y_up_loop (y_ways nd) H _ 0 wl hf.1 (y_net_fr hf hn) ((hf.2.2 _ (fun q => by cases q)).trans hw) rfl (Nat.zero_add _) ⟨fun i hi => absurd hi (Nat.not_lt_zero i), hz⟩ (fun wl' H' hf' hw' hok' => hK wl' H' (y_fr_tr (y_fr_mono hf (fun _ q => q) (fun _ q => by cases q)) hf' (fun _ q => q) (fun _ q => q)) hw' hok')
end WG
end PT24i
section PT25a
/-! ===== v3: what is told by walks, as contexts promise it ===== -/
/-- what is told of the heap rests on those places alone, by what is seen there -/
def y_jx (J : aH → Prop) : Prop := ∀ H H', (∀ key ∈ z_jc, w_f H' key = w_f H key) → (∀ o, o * 128 ∈ z_jc → w_a H' o = w_a H o) → J H → J H'
theorem y_jx_l {J : aH → Prop} (hJ : y_jx J) : z_jl J := by
  refine ⟨fun H o ci vs k v hH hk hj hJH => hJ H _ (fun key hkey => ?_) (fun o' _ => w_a_put hH) hJH, fun H o a b hH hj hJH => hJ H _ (fun key _ => ?_) (fun o' ho' => ?_) hJH⟩
  · refine w_f_put hH hk (fun e => ?_)
    subst e
    rw [List.elem_iff.mpr hkey] at hj
    cases hj
  · unfold w_f
    by_cases ho : o = key / 128
    · subst ho
      rw [hH, List.getElem?_set_self (List.getElem?_eq_some_iff.mp hH).1]
    · rw [List.getElem?_set_ne ho]
  · have ho : o ≠ o' := fun e => by
      subst e
      rw [List.elem_iff.mpr ho'] at hj
      cases hj
    unfold w_a
    rw [List.getElem?_set_ne ho]
section YS
variable {J : aH → Prop} {ρ : zR} {H H' : aH}
theorem y_hr0 (h : z_hr J z_D ρ [] H) : w_hr z_D H ∧ J H := by
  refine ⟨⟨fun o c hc => ?_, trivial⟩, h.2⟩
  obtain ⟨e, h1, h2⟩ := h.1 o c hc
  refine ⟨e, h1, ?_⟩
  unfold z_cell at h2 ⊢
  split
  · exact h2
  · obtain ⟨vs, e1, e2, e3⟩ := h2
    refine ⟨vs, e1, e2, fun k d hd => ?_⟩
    obtain ⟨w, w1, -, w3⟩ := e3 k d hd
    exact ⟨w, w1, fun x hx => (by cases hx), w3⟩
  · exact h2
theorem y_hrv {ov : zV} (h : w_hr z_D H) (hJ : J H) (hov : ∀ key x, ov.lookup key = some x → w_f H key = some (z_v ρ x)) : z_hr J z_D ρ ov H := by
  refine ⟨fun o c hc => ?_, hJ⟩
  obtain ⟨e, h1, h2⟩ := h.1 o c hc
  refine ⟨e, h1, ?_⟩
  unfold z_cell at h2 ⊢
  split
  · exact h2
  · rename_i ci ks
    obtain ⟨vs, e1, e2, e3⟩ := h2
    refine ⟨vs, e1, e2, fun k d hd => ?_⟩
    obtain ⟨w, w1, -, w3⟩ := e3 k d hd
    have hk : k < 128 := Nat.lt_of_lt_of_le (List.getElem?_eq_some_iff.mp hd).1 (z_hl _ _ _ hc)
    refine ⟨w, w1, fun x hx => ?_, fun _ => w3 rfl⟩
    have h5 := hov _ x hx
    rw [w_f_at (by rw [h1, e1]) hk, w1] at h5
    cases h5
    rfl
  · exact h2
theorem y_frm {fs as ms : List Nat} (hr : w_hr z_D H) (hf : y_fr H H' fs as) (h1 : fs.all (fun x => ms.elem x) = true) (h2 : as.all (fun x => ms.elem (x * 128)) = true) : z_frm z_D ms H H' := by
  refine ⟨fun o ci ks vs0 hD h0 => ?_, fun o a hD hn => ?_⟩
  · obtain ⟨e, g1, g2⟩ := hf.1.1 o _ hD
    obtain ⟨vs, e1, e2, -⟩ := g2
    subst e1
    refine ⟨vs, g1, fun k hk hn => ?_⟩
    have hk128 : k < 128 := Nat.lt_of_lt_of_le hk (z_hl _ _ _ hD)
    rw [← w_f_at g1 hk128, ← w_f_at h0 hk128]
    exact hf.2.1 _ (fun q => hn (List.elem_iff.mp (List.all_eq_true.mp h1 _ q)))
  · have arr : ∀ {G : aH}, w_hr z_D G → ∃ q, G[o]? = some (.inl q) := by
      intro G hG
      obtain ⟨e, g1, g2⟩ := hG.1 o _ hD
      unfold z_cell at g2
      dsimp only at g2
      split at g2
      · obtain ⟨l, e1, -⟩ := g2
        exact ⟨_, by rw [g1, e1]⟩
      · obtain ⟨-, l, e1, -⟩ := g2
        exact ⟨_, by rw [g1, e1]⟩
    obtain ⟨q, hq⟩ := arr hr
    obtain ⟨q', hq'⟩ := arr hf.1
    have := hf.2.2 o (fun q => hn (List.elem_iff.mp (List.all_eq_true.mp h2 _ q)))
    rw [w_a_at hq, w_a_at hq'] at this
    cases this
    rw [hq, hq']
theorem y_jfr {fs as : List Nat} (hJ : y_jx J) (hf : y_fr H H' fs as) (h1 : fs.all (fun x => !z_jc.elem x) = true) (h2 : as.all (fun x => !z_jc.elem (x * 128)) = true) (h : J H) : J H' := by
  refine hJ H H' (fun key hk => hf.2.1 key (fun q => ?_)) (fun o ho => hf.2.2 o (fun q => ?_)) h
  · have := List.all_eq_true.mp h1 _ q
    rw [List.elem_iff.mpr hk] at this
    cases this
  · have := List.all_eq_true.mp h2 _ q
    rw [List.elem_iff.mpr ho] at this
    cases this
/-- the values of a template's names -/
theorem y_long {ρ : zR} {t : Nat} {lo hi : Int} (hs : ∃ w, ρ[t]? = some w ∧ z_in (2, lo, hi) w) : ∃ x : Int64, ρ[t]? = some (.long x) ∧ lo ≤ x.toInt ∧ x.toInt ≤ hi := by
  obtain ⟨w, h1, h2⟩ := hs
  rcases h2 with ⟨q, -⟩ | ⟨-, x, rfl, b⟩
  · cases q
  · exact ⟨x, h1, b⟩
theorem y_int {ρ : zR} {t : Nat} {lo hi : Int} (hs : ∃ w, ρ[t]? = some w ∧ z_in (1, lo, hi) w) : ∃ x : Int32, ρ[t]? = some (.int x) ∧ lo ≤ x.toInt ∧ x.toInt ≤ hi := by
  obtain ⟨w, h1, h2⟩ := hs
  rcases h2 with ⟨-, x, rfl, b⟩ | ⟨q, -⟩
  · exact ⟨x, h1, b⟩
  · cases q
end YS
/-- lowest: the second is above 0 -/
def z_q194 : zQ := ((194, 1, 2, 1), [(0, ([(0, 1), (0, 3)], [(2, -9223372036854775807, 9223372036854775807), (2, 1, 9223372036854775807)], [], [some (.inl (.ref 155)), some (.inr (0, 0)), none, some (.inr (1, 0)), none, none, none]), [(0, 0, 0)])],
  [([(1, 19587), (1, 19588)], [(2, -9223372036854775808, 9223372036854775807), (2, 1, 9223372036854775807)], [], [])], [19587, 19588])
theorem z_q194_s {J : aH → Prop} (hJ : y_jx J) {X : aX} : z_spec J z_D s_P X z_q194 := by
  intro M hM C S ρE H ls T0 m0 hin htm K0 hK
  have hM' : some a_m194 = some M := hM
  cases hM'
  rcases List.mem_cons.mp hin with hq | hq
  · cases hq
    obtain ⟨t1, t2, t3, t4, t5, t6, t7⟩ := htm
    obtain ⟨n, n1, n2, n3⟩ := y_long (t2.1 (0, _) (List.mem_cons_self))
    obtain ⟨m, m1, m2, m3⟩ := y_long (t2.1 (1, _) (List.mem_cons_of_mem _ List.mem_cons_self))
    obtain ⟨hw, hJH⟩ := y_hr0 t5
    refine aOK_lle t7 ?_
    have e : z_ls ρE [some (.inl (.ref 155)), some (.inr (0, 0)), none, some (.inr (1, 0)), none, none, none] = [some (.ref 155), some (.long n), none, some (.long m), none, none, none] := by
      simp only [z_ls, List.map_cons, List.map_nil, Option.map_some, Option.map_none, z_v, n1, m1]
    rw [e]
    refine y_lowest hw (by omega) m2 (fun g u l H' hg hg1 hu hl hl1 hrel => ?_)
    have hf : y_fr H H' [19587, 19588] [] := y_fr_rel hrel (w_cons (Or.inl (y_m rfl)) (w_cons (Or.inl (y_m rfl)) w_nil)) w_nil
    refine hK _ List.mem_cons_self [.long u, .long l] H' none ⟨rfl, ⟨?_, w_nil, w_nil, w_nil⟩, fun o ho => (by cases ho), ?_, ?_, y_frm hw hf rfl rfl, ⟨rfl, fun i v hi => (by cases hi)⟩⟩ (fun t g ht => ?_) (fun n e => by cases e)
    · exact w_cons ⟨_, rfl, y_zin (y_l64 u).1 (y_l64 u).2⟩ (w_cons ⟨_, rfl, y_zin hl1 (y_l64 l).2⟩ w_nil)
    · exact w_cons (fun q => by cases q) (w_cons (fun q => by cases q) w_nil)
    · refine y_hrv hf.1 (y_jfr hJ hf rfl rfl hJH) (fun key x hx => ?_)
      have hx' : List.lookup key [(19587, (.inr (0, 0) : zO)), (19588, .inr (1, 0))] = some x := hx
      rw [List.lookup_cons] at hx'
      split at hx'
      · rename_i hb
        cases hx'
        rw [beq_iff_eq] at hb
        subst hb
        exact hrel.2.1 19587 _ rfl
      · rw [List.lookup_cons] at hx'
        split at hx'
        · rename_i hb
          cases hx'
          rw [beq_iff_eq] at hb
          subst hb
          exact hrel.2.1 19588 _ rfl
        · cases hx'
    · match t, ht with
      | 0, ht => cases ht
      | 1, ht => cases ht
      | _ + 2, ht => cases ht
  · cases hq
end PT25a
