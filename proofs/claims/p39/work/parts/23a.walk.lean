/-! ===== v3: walks with values, by what must hold on the way ===== -/
def w_f (H : aH) (key : Nat) : Option Value := match H[key / 128]? with
  | some (.inr (_, vs)) => vs[key % 128]?
  | _ => none
def w_a (H : aH) (o : Nat) : Option (Nat × aA) := match H[o]? with
  | some (.inl a) => some a
  | _ => none
/-- a heap as it is declared, and no more -/
def w_hr (D : Nat → Option zC) (H : aH) : Prop := z_hr (fun _ => True) D [] [] H
abbrev wF : Type := List (Nat × Value)
abbrev wA : Type := List (Nat × (Nat × aA))
/-- the heap now: what is known of it, and the rest as in the heap h -/
def w_rel (D : Nat → Option zC) (h : aH) (hf : wF) (ha : wA) (H : aH) : Prop := w_hr D H ∧ (∀ key v, hf.lookup key = some v → w_f H key = some v) ∧ (∀ o a, ha.lookup o = some a → w_a H o = some a) ∧ (∀ key, hf.lookup key = none → w_f H key = w_f h key) ∧ ∀ o, ha.lookup o = none → w_a H o = w_a h o
abbrev wFr : Type := aM × Nat × aL × List Value
def w_KF (P : List aM) (X : aX) (K0 : Option Value → aH → Nat → Nat → Prop) : Nat → List wFr → Option Value → aH → Nat → Nat → Prop
  | _, [] => K0
  | d, (M, pc, ls, rest) :: fs => fun v H C S => (∀ n, v ≠ some (.retAddr n)) ∧ aOK P X (d + 1) M pc ls (v.toList ++ rest) H C S (w_KF P X K0 (d + 1) fs)
/-- an instruction and the place behind it -/
def w_find : List (Nat × aI) → Nat → Option (aI × Nat)
  | [], _ => none
  | (p, a) :: r, pc => cond (Nat.beq p pc) (some (a, match r with
    | (p2, _) :: _ => p2
    | [] => 0)) (w_find r pc)
/-- locals, written out -/
def w_norm : aL → (aL → Prop) → Prop
  | [], g => g []
  | a :: r, g => w_norm r (fun r' => g (a :: r'))
/-- on to the place behind -/
def w_j (rec : Nat → aM → Nat → aL → List Value → List wFr → wF → wA → Prop) (p nx d : Nat) (M : aM) (ls : aL) (st : List Value) (fs : List wFr) (hf : wF) (ha : wA) : Prop := cond (Nat.beq p nx) (rec d M nx ls st fs hf ha) False
section WDEF
variable (D : Nat → Option zC) (P : List aM) (X : aX) (h : aH) (C S : Nat) (K0 : Option Value → aH → Nat → Nat → Prop)
def w_at (d : Nat) (M : aM) (pc : Nat) (ls : aL) (st : List Value) (fs : List wFr) (hf : wF) (ha : wA) : Prop := ∀ H, w_rel D h hf ha H → aOK P X d M pc ls st H C S (w_KF P X K0 d fs)
/-- a field is read -/
def w_get (o k : Nat) (d : zK) (hf : wF) (go : Value → wF → Prop) : Prop := match d with
  | .inr q => go (.ref q) hf
  | .inl (t, lo, hi) => match hf.lookup (o * 128 + k) with
    | some v => go v hf
    | none => if t = 1 then ∀ x : Int32, w_f h (o * 128 + k) = some (.int x) → lo ≤ x.toInt → x.toInt ≤ hi → go (.int x) ((o * 128 + k, .int x) :: hf)
      else ∀ x : Int64, w_f h (o * 128 + k) = some (.long x) → lo ≤ x.toInt → x.toInt ≤ hi → go (.long x) ((o * 128 + k, .long x) :: hf)
/-- an array of ints is looked up -/
def w_ai (o t n : Nat) (lo hi : Int) (ha : wA) (go : List Int32 → wA → Prop) : Prop := match ha.lookup o with
  | some (_, .inl l) => go l ha
  | some _ => False
  | none => ∀ l : List Int32, w_a h o = some (t, .inl l) → l.length = n → (∀ x ∈ l, lo ≤ x.toInt ∧ x.toInt ≤ hi) → go l ((o, (t, .inl l)) :: ha)
def w_al (o n : Nat) (lo hi : Int) (ha : wA) (go : List Int64 → wA → Prop) : Prop := match ha.lookup o with
  | some (_, .inr (.inl l)) => go l ha
  | some _ => False
  | none => ∀ l : List Int64, w_a h o = some (1, .inr (.inl l)) → l.length = n → (∀ x ∈ l, lo ≤ x.toInt ∧ x.toInt ≤ hi) → go l ((o, (1, .inr (.inl l))) :: ha)
def w_rt (rec : Nat → aM → Nat → aL → List Value → List wFr → wF → wA → Prop) (d : Nat) (fs : List wFr) (hf : wF) (ha : wA) (v : Option Value) : Prop := match fs with
  | [] => ∀ H, w_rel D h hf ha H → K0 v H C S
  | (M2, pc2, ls2, rest) :: fs' => match v with
    | some w => rec (d + 1) M2 pc2 ls2 (w :: rest) fs' hf ha
    | none => rec (d + 1) M2 pc2 ls2 rest fs' hf ha
def w_inv (i : Instr) (k : aK) (st : List Value) : Option (aM × List Value × List Value) := match P[k.2.1]? with
  | none => none
  | some M => match i with
    | .invokevirtual _ => if k.1 = 4 then (match st.drop M.2.2.2.2.1 with
      | .ref (o + 2) :: r => match D o with
        | some (.inr (.inl (c, _))) => if c = k.2.2.1 ∧ a_wd r ≤ 8 ∧ (a_entry (.ref (o + 2) :: (st.take M.2.2.2.2.1).reverse)).length ≤ M.2.2.1 then some (M, .ref (o + 2) :: (st.take M.2.2.2.2.1).reverse, r) else none
        | _ => none
      | _ => none) else none
    | .invokestatic _ => if k.1 = 8 then
        (if M.2.2.2.2.1 ≤ st.length ∧ a_wd (st.drop M.2.2.2.2.1) ≤ 8 ∧ (a_entry (st.take M.2.2.2.2.1).reverse).length ≤ M.2.2.1 then some (M, (st.take M.2.2.2.2.1).reverse, st.drop M.2.2.2.2.1) else none)
      else none
    | _ => none
def w_body (tl : List Nat) (rec : Nat → aM → Nat → aL → List Value → List wFr → wF → wA → Prop) (d : Nat) (M : aM) (pc : Nat) (ls : aL) (st : List Value) (fs : List wFr) (hf : wF) (ha : wA) : Prop := match w_find M.2.2.2.2.2 pc with
  | none => False
  | some ((i, len, k), nx) => match i with
    | .ifCond c _ => match st with
      | .int x :: r => (a_cnd c x 0 = true → rec d M k.2.1 ls r fs hf ha) ∧ (a_cnd c x 0 = false → w_j rec (pc + 3) nx d M ls r fs hf ha)
      | _ => False
    | .if_icmp c _ => match st with
      | .int y :: .int x :: r => (a_cnd c x y = true → rec d M k.2.1 ls r fs hf ha) ∧ (a_cnd c x y = false → w_j rec (pc + 3) nx d M ls r fs hf ha)
      | _ => False
    | .goto _ => rec d M k.2.1 ls st fs hf ha
    | .idiv => match st with
      | .int y :: .int x :: r => y ≠ 0 ∧ w_j rec (pc + len) nx d M ls (.int (x / y) :: r) fs hf ha
      | _ => False
    | .irem => match st with
      | .int y :: .int x :: r => y ≠ 0 ∧ w_j rec (pc + len) nx d M ls (.int (x - x / y * y) :: r) fs hf ha
      | _ => False
    | .ldiv => match st with
      | .long y :: .long x :: r => y ≠ 0 ∧ w_j rec (pc + len) nx d M ls (.long (x / y) :: r) fs hf ha
      | _ => False
    | .lrem => match st with
      | .long y :: .long x :: r => y ≠ 0 ∧ w_j rec (pc + len) nx d M ls (.long (x - x / y * y) :: r) fs hf ha
      | _ => False
    | .getfield _ => match st with
      | .ref (o + 2) :: r => match D o with
        | some (.inr (.inl (ci, ks))) => if ci = k.2.1 then (match ks[k.2.2.1]? with
          | some dd => w_get h o k.2.2.1 dd hf (fun v hf' => w_j rec (pc + len) nx d M ls (v :: r) fs hf' ha)
          | none => False) else False
        | _ => False
      | _ => False
    | .putfield _ => match st with
      | v :: .ref (o + 2) :: r => match D o with
        | some (.inr (.inl (ci, ks))) => if ci = k.2.1 then (match ks[k.2.2.1]? with
          | some (.inl a) => a_fit (a_fty k.2.1 k.2.2.1) v = true ∧ z_in a v ∧ w_j rec (pc + len) nx d M ls r fs ((o * 128 + k.2.2.1, v) :: hf) ha
          | _ => False) else False
        | _ => False
      | _ => False
    | .iaload => match st with
      | .int j :: .ref (o + 2) :: r => match D o with
        | some (.inl (t, n, lo, hi)) => if t = 0 then (0 ≤ j.toInt ∧ j.toInt < n) ∧ w_ai h o 0 n lo hi ha (fun l ha' => w_j rec (pc + len) nx d M ls (.int (l.getD j.toNatClampNeg 0) :: r) fs hf ha') else False
        | _ => False
      | _ => False
    | .baload => match st with
      | .int j :: .ref (o + 2) :: r => match D o with
        | some (.inl (t, n, lo, hi)) => if t = 2 then (0 ≤ j.toInt ∧ j.toInt < n) ∧ w_ai h o 2 n lo hi ha (fun l ha' => w_j rec (pc + len) nx d M ls (.int (l.getD j.toNatClampNeg 0) :: r) fs hf ha') else False
        | _ => False
      | _ => False
    | .laload => match st with
      | .int j :: .ref (o + 2) :: r => match D o with
        | some (.inl (t, n, lo, hi)) => if t = 1 then (0 ≤ j.toInt ∧ j.toInt < n) ∧ w_al h o n lo hi ha (fun l ha' => w_j rec (pc + len) nx d M ls (.long (l.getD j.toNatClampNeg 0) :: r) fs hf ha') else False
        | _ => False
      | _ => False
    | .iastore => match st with
      | .int x :: .int j :: .ref (o + 2) :: r => match D o with
        | some (.inl (t, n, lo, hi)) => if t = 0 then (0 ≤ j.toInt ∧ j.toInt < n) ∧ (lo ≤ x.toInt ∧ x.toInt ≤ hi) ∧ w_ai h o 0 n lo hi ha (fun l ha' => w_j rec (pc + len) nx d M ls r fs hf ((o, (0, .inl (l.set j.toNatClampNeg x))) :: ha')) else False
        | _ => False
      | _ => False
    | .bastore => match st with
      | .int x :: .int j :: .ref (o + 2) :: r => match D o with
        | some (.inl (t, n, lo, hi)) => if t = 2 then (0 ≤ j.toInt ∧ j.toInt < n) ∧ (lo ≤ x.toInt ∧ x.toInt ≤ hi ∧ 0 ≤ x.toInt ∧ x.toInt ≤ 1) ∧ w_ai h o 2 n lo hi ha (fun l ha' => w_j rec (pc + len) nx d M ls r fs hf ((o, (2, .inl (l.set j.toNatClampNeg x))) :: ha')) else False
        | _ => False
      | _ => False
    | .lastore => match st with
      | .long x :: .int j :: .ref (o + 2) :: r => match D o with
        | some (.inl (t, n, lo, hi)) => if t = 1 then (0 ≤ j.toInt ∧ j.toInt < n) ∧ (lo ≤ x.toInt ∧ x.toInt ≤ hi) ∧ w_al h o n lo hi ha (fun l ha' => w_j rec (pc + len) nx d M ls r fs hf ((o, (1, .inr (.inl (l.set j.toNatClampNeg x)))) :: ha')) else False
        | _ => False
      | _ => False
    | .ireturn => match M.2.2.2.1, st with
      | some .int, [.int x] => w_rt D h C S K0 rec d fs hf ha (some (.int x))
      | some .boolean, [.int x] => (0 ≤ x.toInt ∧ x.toInt ≤ 1) ∧ w_rt D h C S K0 rec d fs hf ha (some (.int x))
      | _, _ => False
    | .lreturn => match M.2.2.2.1, st with
      | some .long, [.long x] => w_rt D h C S K0 rec d fs hf ha (some (.long x))
      | _, _ => False
    | .return_ => match M.2.2.2.1, st with
      | none, [] => w_rt D h C S K0 rec d fs hf ha none
      | _, _ => False
    | .invokevirtual _ => match w_inv D P i k st with
      | some (M', as, rest) => match d with
        | 0 => False
        | d' + 1 => cond (Nat.beq (pc + len) nx) (w_norm (a_ent as M'.2.2.1) (fun l => cond (tl.elem k.2.1) (w_at D P X h C S K0 d' M' 0 l [] ((M, nx, ls, rest) :: fs) hf ha) (rec d' M' 0 l [] ((M, nx, ls, rest) :: fs) hf ha))) False
      | none => False
    | .invokestatic _ => match w_inv D P i k st with
      | some (M', as, rest) => match d with
        | 0 => False
        | d' + 1 => cond (Nat.beq (pc + len) nx) (w_norm (a_ent as M'.2.2.1) (fun l => cond (tl.elem k.2.1) (w_at D P X h C S K0 d' M' 0 l [] ((M, nx, ls, rest) :: fs) hf ha) (rec d' M' 0 l [] ((M, nx, ls, rest) :: fs) hf ha))) False
      | none => False
    | _ => match a_stk i k st with
      | some st' => w_j rec (pc + len) nx d M ls st' fs hf ha
      | none => match a_loc i ls st with
        | some (ls', st') => w_norm ls' (fun l => w_j rec (pc + len) nx d M l st' fs hf ha)
        | none => False
/-- a walk up to calls that are told (tl), and to places of the method itself (sp) -/
def w_p (sp tl : List Nat) : Nat → Nat → aM → Nat → aL → List Value → List wFr → wF → wA → Prop
  | 0, d, M, pc, ls, st, fs, hf, ha => w_at D P X h C S K0 d M pc ls st fs hf ha
  | n + 1, d, M, pc, ls, st, fs, hf, ha => if fs.isEmpty && sp.elem pc then w_at D P X h C S K0 d M pc ls st fs hf ha else w_body D P X h C S K0 tl (w_p sp tl n) d M pc ls st fs hf ha
end WDEF
