/-! ===== a throw whose first constructor calls on by an index of its own, with no traces: the kit has it with traces (ctorThrowOnSVX), or by index 7 (ctorThrowS) ===== -/
section ATX
variable {p : Program} {l : Launch} {e : Env} {R : Room} {s : State} {m₀ : MethodId} {args : Array Value} {below : List Frame} {meth : Method} {c : Code} {W : State} {locs : List Loc} {cells slots : Nat}
theorem a_selX {e : Env} {l : Launch} (ha : l.admits e) {cls : String} {cX : ClassId} {y : MethodName} {t : MethodId} (hc : s.vm.findClass cls = some cX) (ht : s.methodNamed? y = some t) (hy : y.cls ≠ "java/lang/invoke/MethodHandle" ∧ y.cls ≠ "java/lang/invoke/VarHandle") (hw : (Cond.selects cls y y).before args s = true) : selectMethod e.platform s.vm cX t = .method t := by
  obtain ⟨c2, r2, m2, q1, q2, q3, q4, -⟩ := Cond.selects_spec hw
  cases Option.some.inj (q1.symm.trans hc)
  cases Option.some.inj (q3.symm.trans ht)
  cases Option.some.inj (q2.symm.trans (State.methodFound?_of_named ht hy))
  rw [Launch.admits_selectMethod ha]; exact q4
set_option maxHeartbeats 1000000 in
theorem a_ctorThrow (X : Stand p l e R s m₀ args below meth c W locs cells slots) (hexec : p.tables.exec = Jvm.exec) (htr : e.platform.stackTraces = false) {own cls : String} {names : List String} {ic ix : Nat} {rx : ByteArray}
    (x0 : decode rx 0 = .ok (.aload_n 0, 1)) (x1 : decode rx 1 = .ok (.aload_n 1, 1)) (x2 : decode rx 2 = .ok (.invokespecial ix, 3)) (x5 : decode rx 5 = .ok (.return_, 1))
    (hown : s.vm.findClass own = some m₀.cls) (hcls : Bundle.fit cls = true) (hnames : ∀ n ∈ names, Bundle.fit n = true)
    (h : ∀ w ∈ Bundle.ownAtomsX own ic cls ix rx names, w.before args s = true)
    (hlocs : ∀ x ∈ locs, ∀ cell, s.heap[x.base]? = some cell → cell.vm.isStatics = false)
    {a : Addr} {cX : ClassId} {kX : Class} (hfX : s.vm.findClass cls = some cX) (hkX : s.vm.classes[cX]? = some kX) (hcell : W.heap[a]? = some (freshCell cX kX)) (hnew : s.heap.size ≤ a) {msg : Value} (hmsg : msg.isRef = true)
    {g : JFrame} (hg : g.method = m₀) (hsize : g.locals.size = c.maxLocals) (hlocked : g.locked = none) (hentered : g.entered = []) {rest : List Value} (hstack : g.stack = msg :: .ref a :: .ref a :: rest)
    (hd6 : decode c.code g.pc = .ok (.invokespecial ic, 3)) (hd9 : decode c.code (g.pc + 3) = .ok (.athrow, 1)) (hout : ∀ x ∈ c.exceptionTable.toList, covers x (g.pc + 3) = false)
    (hRf : names.length + 3 < R.frames) (hRl : 2 * g.monitorRoom + ((Value.ref a :: rest).map fun v => v.category).sum + (13 * (names.length + 1) + 42) ≤ R.locals) (hlocks : meth.locks = false) :
    ∃ U : State, Steps p.tables e below (W.setTop g) U ∧ U.status = .running ∧ Ended U below (.threw a) ∧ s.WarmedH U.vm ∧ s.sameButNew ({ U with vm := s.vm } : State) locs cells slots ∧
      ∃ ce, U.heap[a]? = some ce ∧ ce.vm = .none ∧ ce.cls = cX := by
  have P := X.admits.platform
  have hpl : e.platform.magicAccessors = ({} : Platform).magicAccessors := by rw [P]
  have hw : ∀ w, w ∈ Bundle.ownAtomsX own ic cls ix rx names → w.holds args s none s [] = true := fun w q => h w q
  obtain ⟨T, Z0, L, -, Y⟩ := ThrowableC.of_atoms (args := args) (by rw [P]) (by rw [P]) hpl (fun w q => h w (by simp [Bundle.ownAtomsX, q]))
  obtain ⟨Z, M, LZ, LM, hnZ⟩ := Init0T.ofS_atoms (args := args) hpl L Y (fun w q => h w (by simp [Bundle.ownAtomsX, q]))
  obtain ⟨P1, Ps, hlen, L1, hL, hP1, hk1, hks⟩ := Bundle.chainSX (args := args) hpl hnZ x0 x1 x2 x5 names cls hcls hnames (fun w q => h w (by simp [Bundle.ownAtomsX, q]))
  have hf1 : s.vm.findClass cls = some P1.m.cls := findClass_of_methodNamed hP1
  cases Option.some.inj (hfX.symm.trans hf1)
  obtain ⟨c1, k1, hc1, hk, hord, -, -, -⟩ := Cond.instantiable_spec (hw (.instantiable cls 6) (by simp [Bundle.ownAtomsX]))
  cases Option.some.inj (hc1.symm.trans hf1)
  cases Option.some.inj (hkX.symm.trans hk)
  have s0 := a_selX X.admits hf1 Y.fill0 (by decide) (hw (.selects cls Bundle.tFill0 Bundle.tFill0) (by simp [Bundle.ownAtomsX]))
  have s1 := a_selX X.admits hf1 Y.fill (by decide) (hw (.selects cls Bundle.tFill Bundle.tFill) (by simp [Bundle.ownAtomsX]))
  obtain ⟨z0, hz0, hz1⟩ := Y.statics
  obtain ⟨u0, hu0⟩ := Cond.staticRefV Y.unassigned L.unassignedStatic L.statics hz0 hz1 (hw (.isRef (.static Bundle.tN "UNASSIGNED_STACK" Bundle.steD)) (by simp [Bundle.ownAtomsX]))
  obtain ⟨u1, hu1⟩ := Cond.staticRefV Y.sentinel L.sentinelStatic L.statics hz0 hz1 (hw (.isRef (.static Bundle.tN "SUPPRESSED_SENTINEL" Bundle.listD)) (by simp [Bundle.ownAtomsX]))
  obtain ⟨b1, b2, fB, b3, b4, b5, b6, -, b7, b8, b9⟩ := Cond.ownField (t := .object "java/lang/Object") Y.found L.cls (by decide +kernel) (hw (.fieldLink Bundle.tN 198 Bundle.tN "backtrace" "Ljava/lang/Object;") (by simp [Bundle.ownAtomsX])) (hw (.lays Bundle.tN Bundle.tN "backtrace" "Ljava/lang/Object;") (by simp [Bundle.ownAtomsX])) e.platform hpl
  obtain ⟨zS, hzS, zv, -, hkeep⟩ := X.same.2.2.2.2.2 T.aS z0 hz0
  have hoff : ∀ i, (⟨T.aS, i⟩ : Loc) ∉ locs := fun i hi => by
    have q := hlocs _ hi z0 hz0
    rw [hz1] at q; cases q
  have hun : zS.vm ≠ .unknown := by
    rw [zv]; intro q
    rw [show z0.vm = .unknown from q] at hz1
    cases hz1
  have hne : T.aS ≠ a := Nat.ne_of_lt (Nat.lt_of_lt_of_le (Array.getElem?_eq_some_iff.mp hz0).1 hnew)
  obtain ⟨iM, hM⟩ := Y.msg
  obtain ⟨tC, dC, eC, nC⟩ := Cond.laysAt hf1 hk Y.cause (hw (.lays cls Bundle.tN "cause" "Ljava/lang/Throwable;") (by simp [Bundle.ownAtomsX]))
  obtain ⟨tS, dS, eS, nS⟩ := Cond.laysAt hf1 hk Y.stack (hw (.lays cls Bundle.tN "stackTrace" Bundle.steD) (by simp [Bundle.ownAtomsX]))
  obtain ⟨tP, dP, eP, nP⟩ := Cond.laysAt hf1 hk Y.supp (hw (.lays cls Bundle.tN "suppressedExceptions" Bundle.listD) (by simp [Bundle.ownAtomsX]))
  obtain ⟨tM, dM, eM, nM⟩ := Cond.laysAt hf1 hk hM (hw (.lays cls Bundle.tN "detailMessage" "Ljava/lang/String;") (by simp [Bundle.ownAtomsX]))
  obtain ⟨tB, dB, eB, nB⟩ := Cond.laysAt hf1 hk b9 (hw (.lays cls Bundle.tN "backtrace" "Ljava/lang/Object;") (by simp [Bundle.ownAtomsX]))
  have k1 := Cond.laysApart eB eC nB nC (by rw [b7, Y.causeName]; decide)
  have k2 := Cond.laysApart eB eS nB nS (by rw [b7, Y.stackName]; decide)
  have k3 := Cond.laysApart eB eP nB nP (by rw [b7, Y.suppName]; decide)
  have hskip : SkipFacts T e.platform s (fun u => u) u0 ((preparedCellV T.toThrowableT (freshCell P1.m.cls kX) a u0 u1).withEntry W.cur) :=
    ⟨{ ci198 := b1, i198 := b2, fBack := fB }, ⟨b3, b4, b5, b6⟩, by
      have q := fresh_default (c := P1.m.cls) tB
      rw [b8] at q
      simpa [preparedCellV, Cell.setSlot, Cell.withEntry, Array.getElem?_setIfInBounds, k1, k2, k3, k1.symm, k2.symm, k3.symm, defaultValue] using q, fun _ _ => rfl⟩
  obtain ⟨tm, -, -, -, vm₁, hnC, -, -, -, -, -, -, -, hW₁, st1⟩ := Steps.initColdS (tb := p.tables) (e := e) (below := below) (s := s) (U := W) X.here hexec X.warmed hpl hown (t := Bundle.initS cls) rfl rfl (Bundle.fit_spec hcls).2
    (hw (.methodLink own ic (Bundle.initS cls)) (by simp [Bundle.ownAtomsX])) (h (.instanceMethod (Bundle.initS cls)) (by cases names <;> simp [Bundle.ownAtomsX, Bundle.chainSAtomsX, Bundle.passSAtoms])) (bytes := rx) (maxL := 2) (h (.code (Bundle.initS cls) rx 2 none) (by cases names <;> simp [Bundle.ownAtomsX, Bundle.chainSAtomsX, Bundle.passSAtoms]))
    (f := g) hg (a := a) (msg := msg) (rest := .ref a :: rest) hstack hd6
  cases Option.some.inj (hnC.symm.trans hP1)
  obtain ⟨vm₂, X₂, st2⟩ := (X.noted hW₁).ctorMessageOffV hexec (g := { g with stack := .ref a :: rest }) hg hsize T L Z LZ M LM (P1 :: Ps)
    (fun Q hQ => by rcases List.mem_cons.mp hQ with rfl | hQ; exact L1; exact hL Q hQ) ⟨hk1, hks⟩ (u0 := u0) (sen := u1) (self := a) hmsg (cell := freshCell P1.m.cls kX) (cellS := zS)
    hcell (fun _ => by simp) (by simp) rfl rfl s0 s1 hzS hne hun (by rw [hkeep _ (hoff _)]; exact hu0) (by rw [hkeep _ (hoff _)]; exact hu1)
    (Takes.of_laid hk hord tC (by rw [Y.causeType]; rfl)) (Takes.of_laid hk hord tS (by rw [Y.stackType]; exact fits_refV_array _ u0)) (Takes.of_laid hk hord tP (by rw [Y.suppType]; exact fits_refV_object _ u1))
    (Takes.of_laid hk hord tM (by rw [Y.msgType]; exact fits_refV_object _ ⟨msg, hmsg⟩)) Y.objLocals hskip htr [] hd6
    (by simp only [List.length_cons, hlen]; omega) (by simp only [List.length_cons, hlen]; exact hRl)
  obtain ⟨r1, r2, r3, r4, r5⟩ := X₂.athrowLeaves hexec (g := { g with stack := .ref a :: rest, pc := g.pc + 3 }) hg hlocked hentered hout (a := a) (rest := rest) rfl hd9
  have hlt : a < ((W.setVm vm₁).setVm vm₂).heap.size := (Array.getElem?_eq_some_iff.mp hcell).1
  refine ⟨_, st1 _ (fun acts => ?_), r2, r3, r4, r5.weaken (fun y hy hlt' => ?_) (Nat.le_refl _) (Nat.le_refl _), _, heapAt_setCell_self (s := (W.setVm vm₁).setVm vm₂) (plainBareV T.toThrowableT (freshCell P1.m.cls kX) a u0 u1 msg) hlt, rfl, rfl⟩
  · rw [doInvoke_state]
    exact st2 _ r1
  · rcases List.mem_append.mp hy with q | q
    · exact q
    · exfalso
      have hb : y.base = a := by
        simp only [List.mem_cons, List.not_mem_nil, or_false] at q
        rcases q with rfl | rfl | rfl | rfl | rfl <;> rfl
      rw [hb] at hlt'
      exact Nat.not_lt.mpr hnew hlt'
end ATX
