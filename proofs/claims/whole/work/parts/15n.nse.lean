/-! NoSuchElementException: its constructor calls its super's by the pool's entry 13 (the library's row asks for 7) -/
def xnRx : ByteArray := ⟨#[0x2a, 0x2b, 0xb7, 0x00, 0x0d, 0xb1]⟩
theorem xnRx_0 : decode xnRx 0 = .ok (.aload_n 0, 1) := by decide +kernel
theorem xnRx_1 : decode xnRx 1 = .ok (.aload_n 1, 1) := by decide +kernel
theorem xnRx_2 : decode xnRx 2 = .ok (.invokespecial 13, 3) := by decide +kernel
theorem xnRx_5 : decode xnRx 5 = .ok (.return_, 1) := by decide +kernel
abbrev xRTE : String := "java/lang/RuntimeException"
abbrev xEXC : String := "java/lang/Exception"
def xnL : List Cond := (Bundle.ownAtoms RX2 138 xNSE xN2).filter (fun w => decide (w ≠ Cond.code (Bundle.initS xNSE) Bundle.six 2 none) && decide (w ≠ Cond.methodLink xNSE 7 (Bundle.initS xRTE))) ++ [Cond.code (Bundle.initS xNSE) xnRx 2 none, Cond.methodLink xNSE 13 (Bundle.initS xRTE)]
theorem xn_tA : ∀ w ∈ Bundle.throwableAtoms, w ∈ xnL := by decide +kernel
theorem xn_sA : ∀ w ∈ Bundle.throwableSAtoms, w ∈ xnL := by decide +kernel
theorem xn_pA : ∀ w ∈ Bundle.passSAtoms xNSE xRTE 13 xnRx, w ∈ xnL := by decide +kernel
theorem xn_cA : ∀ w ∈ Bundle.chainSAtoms xRTE [xEXC], w ∈ xnL := by decide +kernel
def xnT : List Cond := [.methodLink RX2 138 (Bundle.initS xNSE), .instantiable xNSE 6, .castable xNSE xNSE, .selects xNSE Bundle.tFill0 Bundle.tFill0, .selects xNSE Bundle.tFill Bundle.tFill, .lays xNSE Bundle.tN "cause" "Ljava/lang/Throwable;", .lays xNSE Bundle.tN "stackTrace" Bundle.steD, .lays xNSE Bundle.tN "suppressedExceptions" Bundle.listD, .lays xNSE Bundle.tN "detailMessage" "Ljava/lang/String;", .isRef (.static Bundle.tN "UNASSIGNED_STACK" Bundle.steD), .isRef (.static Bundle.tN "SUPPRESSED_SENTINEL" Bundle.listD), .fieldLink Bundle.tN 198 Bundle.tN "backtrace" "Ljava/lang/Object;", .lays Bundle.tN Bundle.tN "backtrace" "Ljava/lang/Object;", .lays xNSE Bundle.tN "backtrace" "Ljava/lang/Object;"]
theorem xn_T : ∀ w ∈ xnT, w ∈ xnL := by decide +kernel
section XN
variable {p : Program} {l : Launch} {e : Env} {R : Room} {s : State} {m : MethodId} {args : Array Value} {below : List Frame} {meth : Method} {c : Code} {W0 : State} {cells slots : Nat}
set_option maxHeartbeats 1000000 in
theorem xn_ctor (X : Stand p l e R s m args below meth c W0 [] cells slots) (hexec : p.tables.exec = Jvm.exec) (htr : e.platform.stackTraces = false) (hown : s.vm.findClass RX2 = some m.cls) (h : ∀ w ∈ xnL, w.before args s = true)
    {a : Addr} {cX : ClassId} {kX : Class} (hfX : s.vm.findClass xNSE = some cX) (hkX : s.vm.classes[cX]? = some kX) (hcell : W0.heap[a]? = some (freshCell cX kX)) (hnew : s.heap.size ≤ a) {sa : Nat}
    {g : JFrame} (hg : g.method = m) (hsize : g.locals.size = c.maxLocals) (hlocked : g.locked = none) (hentered : g.entered = []) {rest : List Value} (hstack : g.stack = .ref sa :: .ref a :: .ref a :: rest)
    (hd6 : decode c.code g.pc = .ok (.invokespecial 138, 3)) (hd9 : decode c.code (g.pc + 3) = .ok (.athrow, 1)) (hout : ∀ x ∈ c.exceptionTable.toList, covers x (g.pc + 3) = false)
    (hRframes : 5 < R.frames) (hRlocals : 2 * g.monitorRoom + ((Value.ref a :: rest).map fun v => v.category).sum + 81 ≤ R.locals) (hlocks : meth.locks = false) :
    ∃ U : State, Steps p.tables e below (W0.setTop g) U ∧ U.status = .running ∧ Ended U below (.threw a) ∧ s.WarmedH U.vm ∧ s.sameButNew ({ U with vm := s.vm } : State) [] cells slots ∧
      ∃ ce : Cell, U.heap[a]? = some ce ∧ s.vm.findClass xNSE = some ce.cls ∧ ce.vm = .none := by
  have hpl : e.platform.magicAccessors = ({} : Platform).magicAccessors := by rw [X.admits.platform]
  have w : ∀ x, x ∈ xnT → x.holds args s none s [] = true := fun x hx => h x (xn_T x hx)
  obtain ⟨T, Z0, L, -, Y⟩ := ThrowableC.of_atoms (args := args) (by rw [X.admits.platform]) (by rw [X.admits.platform]) hpl (fun x hx => h x (xn_tA x hx))
  obtain ⟨Z, M, LZ, LM, hnZ⟩ := Init0T.ofS_atoms (args := args) hpl L Y (fun x hx => h x (xn_sA x hx))
  obtain ⟨P1, L1, hP1m, hP1s⟩ := PassC.ofS_atoms (args := args) (s := s) hpl (X := xNSE) (Y := xRTE) (by decide) (by decide) xnRx_0 xnRx_1 xnRx_2 xnRx_5 (fun x hx => h x (xn_pA x hx))
  obtain ⟨P2, Ps, hlen, L2, hL, hP2m, hlink2, hlink⟩ := Bundle.chainS (args := args) hpl hnZ [xEXC] xRTE (by decide) (by decide) (fun x hx => h x (xn_cA x hx))
  have hP12 : P1.sup = P2.m := Option.some.inj (hP1s.symm.trans hP2m)
  have hfound : s.vm.findClass xNSE = some P1.m.cls := findClass_of_methodNamed hP1m
  cases Option.some.inj (hfX.symm.trans hfound)
  obtain ⟨c1, k1, hc1, hk, hord, -, -, -⟩ := Cond.instantiable_spec (w (.instantiable xNSE 6) (by decide +kernel))
  cases Option.some.inj (hc1.symm.trans hfound)
  cases Option.some.inj (hkX.symm.trans hk)
  have hsel0 : selectMethod e.platform s.vm P1.m.cls T.fill0 = .method T.fill0 := by
    obtain ⟨c2, r2, m2, q1, q2, q3, q4, -⟩ := Cond.selects_spec (w (.selects xNSE Bundle.tFill0 Bundle.tFill0) (by decide +kernel))
    cases Option.some.inj (q1.symm.trans hfound)
    cases Option.some.inj (q2.symm.trans (State.methodFound?_of_named Y.fill0 (by decide)))
    cases Option.some.inj (q3.symm.trans Y.fill0)
    rw [Launch.admits_selectMethod X.admits]
    exact q4
  have hselF : selectMethod e.platform s.vm P1.m.cls T.fill = .method T.fill := by
    obtain ⟨c2, r2, m2, q1, q2, q3, q4, -⟩ := Cond.selects_spec (w (.selects xNSE Bundle.tFill Bundle.tFill) (by decide +kernel))
    cases Option.some.inj (q1.symm.trans hfound)
    cases Option.some.inj (q2.symm.trans (State.methodFound?_of_named Y.fill (by decide)))
    cases Option.some.inj (q3.symm.trans Y.fill)
    rw [Launch.admits_selectMethod X.admits]
    exact q4
  obtain ⟨cS, hcS, hiss⟩ := Y.statics
  obtain ⟨u0, hu0⟩ := Cond.staticRefV Y.unassigned L.unassignedStatic L.statics hcS hiss (w (.isRef (.static Bundle.tN "UNASSIGNED_STACK" Bundle.steD)) (by decide +kernel))
  obtain ⟨sen, hsen⟩ := Cond.staticRefV Y.sentinel L.sentinelStatic L.statics hcS hiss (w (.isRef (.static Bundle.tN "SUPPRESSED_SENTINEL" Bundle.listD)) (by decide +kernel))
  obtain ⟨ci, i8, fB, hk8, hg8, ha8, hsB, -, hnB, htB, hffB⟩ := Cond.ownField (t := .object "java/lang/Object") Y.found L.cls (by decide +kernel) (w (.fieldLink Bundle.tN 198 Bundle.tN "backtrace" "Ljava/lang/Object;") (by decide +kernel)) (w (.lays Bundle.tN Bundle.tN "backtrace" "Ljava/lang/Object;") (by decide +kernel)) e.platform hpl
  obtain ⟨cS2, hcS2, heS, -, hkeep⟩ := X.same.2.2.2.2.2 T.aS cS hcS
  have hcW : W0.heap[T.aS]? = some cS2 := hcS2
  have hkn : cS2.vm ≠ .unknown := by
    rw [heS]
    intro hu
    rw [show cS.vm = .unknown from hu] at hiss
    cases hiss
  have hne : T.aS ≠ a := Nat.ne_of_lt (Nat.lt_of_lt_of_le (Array.getElem?_eq_some_iff.mp hcS).1 hnew)
  obtain ⟨iM, hffM⟩ := Y.msg
  obtain ⟨tyC, dC, hdC, hdnC⟩ := Cond.laysAt hfound hk Y.cause (w (.lays xNSE Bundle.tN "cause" "Ljava/lang/Throwable;") (by decide +kernel))
  obtain ⟨tyS, dS, hdS, hdnS⟩ := Cond.laysAt hfound hk Y.stack (w (.lays xNSE Bundle.tN "stackTrace" Bundle.steD) (by decide +kernel))
  obtain ⟨tyP, dP, hdP, hdnP⟩ := Cond.laysAt hfound hk Y.supp (w (.lays xNSE Bundle.tN "suppressedExceptions" Bundle.listD) (by decide +kernel))
  obtain ⟨tyM, dM, hdM, hdnM⟩ := Cond.laysAt hfound hk hffM (w (.lays xNSE Bundle.tN "detailMessage" "Ljava/lang/String;") (by decide +kernel))
  obtain ⟨tyB, dB, hdB, hdnB⟩ := Cond.laysAt hfound hk hffB (w (.lays xNSE Bundle.tN "backtrace" "Ljava/lang/Object;") (by decide +kernel))
  have bC := Cond.laysApart hdB hdC hdnB hdnC (by rw [hnB, Y.causeName]; decide)
  have bS := Cond.laysApart hdB hdS hdnB hdnS (by rw [hnB, Y.stackName]; decide)
  have bP := Cond.laysApart hdB hdP hdnB hdnP (by rw [hnB, Y.suppName]; decide)
  have hskip : SkipFacts T e.platform s (fun u => u) u0 ((preparedCellV T.toThrowableT (freshCell P1.m.cls kX) a u0 sen).withEntry W0.cur) :=
    ⟨{ ci198 := ci, i198 := i8, fBack := fB }, ⟨hk8, hg8, ha8, hsB⟩, by
      have h9 := fresh_default (c := P1.m.cls) tyB
      rw [htB] at h9
      simpa [preparedCellV, Cell.setSlot, Cell.withEntry, Array.getElem?_setIfInBounds, bC, bS, bP, bC.symm, bS.symm, bP.symm, defaultValue] using h9, fun _ _ => rfl⟩
  obtain ⟨tm, methC, cdC, kC, vm₁, hnC, -, -, -, -, -, -, -, hW₁, st1⟩ := Steps.initColdS (tb := p.tables) (e := e) (below := below) (s := s) (U := W0) X.here hexec X.warmed hpl hown (t := Bundle.initS xNSE) rfl rfl (by decide)
    (w (.methodLink RX2 138 (Bundle.initS xNSE)) (by decide +kernel)) (h (.instanceMethod (Bundle.initS xNSE)) (by decide +kernel)) (bytes := xnRx) (maxL := 2) (h (.code (Bundle.initS xNSE) xnRx 2 none) (by decide +kernel)) (f := g) hg (a := a) (msg := .ref sa) (rest := .ref a :: rest) hstack hd6
  cases Option.some.inj (hnC.symm.trans hP1m)
  have X₁ := X.noted hW₁
  obtain ⟨vm₂, X₂, st2⟩ := X₁.ctorMessageOffV hexec (g := { g with stack := .ref a :: rest }) hg hsize T L Z LZ M LM (P1 :: P2 :: Ps)
    (fun P hP => by
      rcases List.mem_cons.mp hP with rfl | hP
      · exact L1
      · rcases List.mem_cons.mp hP with rfl | hP
        · exact L2
        · exact hL P hP) ⟨hP12, hlink2, hlink⟩ (u0 := u0) (sen := sen) (self := a) (msg := .ref sa) rfl (cell := freshCell P1.m.cls kX) (cellS := cS2)
    hcell (fun _ => by simp) (by simp) rfl rfl hsel0 hselF hcW hne hkn (by rw [hkeep _ (fun q => nomatch q)]; exact hu0) (by rw [hkeep _ (fun q => nomatch q)]; exact hsen)
    (Takes.of_laid hk hord tyC (by rw [Y.causeType]; rfl)) (Takes.of_laid hk hord tyS (by rw [Y.stackType]; exact fits_refV_array _ u0)) (Takes.of_laid hk hord tyP (by rw [Y.suppType]; exact fits_refV_object _ sen))
    (Takes.of_laid hk hord tyM (by rw [Y.msgType]; exact fits_refV_object _ ⟨.ref sa, rfl⟩)) Y.objLocals hskip htr [] hd6
    (by simp only [List.length_cons, hlen]; exact hRframes) (by simp only [List.length_cons, hlen]; exact hRlocals)
  obtain ⟨hwalk, hrun, hended, hWU, hsame⟩ := X₂.athrowLeaves hexec (g := { g with stack := .ref a :: rest, pc := g.pc + 3 }) hg hlocked hentered hout (a := a) (rest := rest) rfl hd9
  have hlt : a < ((W0.setVm vm₁).setVm vm₂).heap.size := (Array.getElem?_eq_some_iff.mp hcell).1
  have hU := heapAt_setCell_self (s := (W0.setVm vm₁).setVm vm₂) (plainBareV T.toThrowableT (freshCell P1.m.cls kX) a u0 sen (.ref sa)) hlt
  refine ⟨_, st1 _ (fun acts => ?_), hrun, hended, hWU, hsame.weaken (fun y hy hlt' => ?_) (Nat.le_refl _) (Nat.le_refl _), _, hU, hfound, rfl⟩
  · rw [doInvoke_state]
    exact st2 _ hwalk
  · exfalso
    have hb : y.base = a := by
      simp only [List.nil_append, List.mem_cons, List.not_mem_nil, or_false] at hy
      rcases hy with rfl | rfl | rfl | rfl | rfl <;> rfl
    rw [hb] at hlt'
    exact Nat.not_lt.mpr hnew hlt'
end XN
